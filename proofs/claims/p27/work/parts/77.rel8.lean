/-! ===== the two sides: limits, write, reserve, settle, delete ===== -/
section RL8
variable {n : Nat} {ρ ρ' ρ1 S S' S1 : gSt}
theorem slA_o (ρ : gSt) (a : Nat) (s h f : Int32) {c i : Nat} (hc : ¬ (1 ≤ c ∧ c ≤ 3) ∨ i ≠ a) : (slA ρ a s h f).2.1 c i = ρ.2.1 c i := by
  unfold slA
  by_cases z : (1 ≤ c ∧ c ≤ 8) ∧ i = a
  · obtain ⟨z1, rfl⟩ := z
    rw [setA_s _ _ _ z1, if_neg (by omega), if_neg (by omega), if_neg (by omega)]
  · exact setA_o _ _ _ z
theorem slA_s (ρ : gSt) (a : Nat) (s h f : Int32) : (slA ρ a s h f).2.1 1 a = s ∧ (slA ρ a s h f).2.1 2 a = h ∧ (slA ρ a s h f).2.1 3 a = f := ⟨setA_s _ _ _ (by decide), setA_s _ _ _ (by decide), setA_s _ _ _ (by decide)⟩
theorem kL_setA (a : Nat) (v : Nat → Int32) : kL ρ (setA ρ a v) := ⟨fun _ _ _ _ => rfl, fun i => setA_o _ _ _ (by omega), fun i => setA_o _ _ _ (by omega), fun _ => rfl, fun _ => rfl⟩
theorem kL.trans (h : kL ρ ρ1) (h2 : kL ρ1 ρ') : kL ρ ρ' := ⟨fun c i h0 h1 => (h2.1 c i h0 h1).trans (h.1 c i h0 h1), fun i => (h2.2.1 i).trans (h.2.1 i), fun i => (h2.2.2.1 i).trans (h.2.2.1 i), fun i => (h2.2.2.2.1 i).trans (h.2.2.2.1 i), fun i => (h2.2.2.2.2 i).trans (h.2.2.2.2 i)⟩
theorem kM.trans (h : kM S S1) (h2 : kM S1 S') : kM S S' := by
  obtain ⟨a1, ⟨a2, a3, a4⟩, a5, a6, a7, a8, a9⟩ := h
  obtain ⟨b1, ⟨b2, b3, b4⟩, b5, b6, b7, b8, b9⟩ := h2
  exact ⟨fun c i h0 => (b1 c i h0).trans (a1 c i h0), ⟨b2.trans a2, b3.trans a3, b4.trans a4⟩, fun i => (b5 i).trans (a5 i), fun i => (b6 i).trans (a6 i), fun i => (b7 i).trans (a7 i), fun i => (b8 i).trans (a8 i), fun i => (b9 i).trans (a9 i)⟩
theorem kM_sl (a : Nat) (s h f : Int32) : kM S (slM S a s h f) := ⟨fun _ _ _ => rfl, ⟨rfl, rfl, rfl⟩, fun i => slM_o _ _ _ _ _ (by omega), fun i => slM_o _ _ _ _ _ (by omega), fun i => slM_o _ _ _ _ _ (by omega), fun _ => rfl, fun _ => rfl⟩
theorem m_setLimits (h : Rel n ρ S) {cd : String → Int32} (hi : cd eI = 1) (hA : cd eA = 2) (kd x s d f : Int32) : Mt cd n ρ (lo_setLimits ρ kd x s d f) (mo_setLimits S kd x s d f) := by
  cases ha : acl ρ kd x with
  | none => exact Mt.no (z := 0) (w := 1) (S := S) (E := eI) (by rw [lo_setLimits, ha]) eI_n (by rw [mo_setLimits, rf_setLimits, acct_eq h, if_pos ha]; rfl) hi.symm h
  | some a =>
    have hne : ¬ acl ρ kd x = none := by rw [ha]; simp
    by_cases z : lmO s d f = false
    · exact Mt.no (z := 0) (w := 2) (S := S) (E := eA) (by rw [lo_setLimits, ha]; exact if_pos z) eA_n (by rw [mo_setLimits, rf_setLimits, acct_eq h, if_neg hne, lm_eq, if_pos z]; rfl) hA.symm h
    · have hl := acl_np h ha
      refine Mt.ok cd (v := 0) (ρ' := ntA (slA ρ a s d f) a) (S' := lkS (slM S a s d f)) (by rw [lo_setLimits, ha]; exact if_neg z) (by rw [mo_setLimits, rf_setLimits, acct_eq h, if_neg hne, lm_eq, if_neg z, gd0 rfl, ha]; rfl) ?_
      have z1 : lmO s d f = true := by simpa using z
      have z2 : isLm d 100000 = true := by
        unfold lmO at z1
        exact (Bool.and_eq_true_iff.mp (Bool.and_eq_true_iff.mp z1).1).2
      have h := h.mono
      have k1 : kL ρ (slA ρ a s d f) := kL_setA a _
      have k2 : kL ρ (ntA (slA ρ a s d f) a) := k1.trans (kL_setA a _)
      have m1 : kM S (slM S a s d f) := kM_sl a s d f
      have m2 : kM S (lkS (slM S a s d f)) := m1.trans kM_lk
      have hp1 : Rp (slA ρ a s d f) (slM S a s d f) := by
        have hp := h.1.2.2.2.2.1
        refine ⟨hp.1, fun i hi => ?_⟩
        rw [slM_o _ _ _ _ _ (by omega)]
        exact hp.2 i hi
      have hp2 : Rp (ntA (slA ρ a s d f) a) (lkS (slM S a s d f)) := by
        have hp := h.1.2.2.2.2.1
        refine ⟨hp.1, fun i hi => ?_⟩
        rw [lkS_o (by decide), slM_o _ _ _ _ _ (by omega)]
        exact hp.2 i hi
      have hs1 := Rs_tr h.1 k1 m1 h.1.1.2.2.2.2.2.1 h.1.1.2.2.2.2.1 hp1
      have hs2 := Rs_tr h.1 k2 m2 h.1.1.2.2.2.2.2.1 h.1.1.2.2.2.2.1 hp2
      have hc1 : Rc (slA ρ a s d f) (slM S a s d f) := by
        unfold Rc
        rw [slM_o _ _ _ _ _ (by omega), slA_o _ _ _ _ _ (by omega)]
        exact h.2.1
      have hv : ∀ c i, ¬ (1 ≤ c ∧ c ≤ 3 ∨ c = 7 ∨ c = 8) ∨ i ≠ a → (ntA (slA ρ a s d f) a).2.1 c i = ρ.2.1 c i := fun c i hc => by
        by_cases y : i = a
        · subst y
          rw [ntA_s]
          unfold ntv
          rw [if_neg (by omega), if_neg (by omega), slA_o _ _ _ _ _ (by omega)]
        · rw [ntA_o _ y, slA_o _ _ _ _ _ (Or.inr y)]
      have hsum : ∀ x, x < 9 + ρ.1 10 3 → sumA (slM S a s d f) x (S.1 0 3) = sumA S x (S.1 0 3) := fun x hx => by
        rw [sum_u hs1 hx _ (by rw [h.1.2.2.2.2.2.1.1]; exact Nat.le_refl _), sum_u h.1 hx _ (by rw [h.1.2.2.2.2.2.1.1]; exact Nat.le_refl _), (usum_tr k1 x _).1]
      have hR1 : ∀ x, x < 9 + ρ.1 10 3 → Ra (slA ρ a s d f) (slM S a s d f) x := fun x hx => by
        have hx0 := (h.2.2.2.2.2.1 x hx).1
        by_cases y : x = a
        · subst y
          obtain ⟨q1, q2, q3⟩ := slA_s ρ x s d f
          obtain ⟨p1, p2, p3⟩ := slM_s S x s d f
          unfold Ra
          rw [q1, q2, q3, p1, p2, p3, slA_o _ _ _ _ _ (by omega), slA_o _ _ _ _ _ (by omega), slA_o _ _ _ _ _ (by omega), slM_o _ _ _ _ _ (by omega)]
          exact ⟨⟨rfl, rfl, rfl⟩, isLm_ge z2, hx0.2.2⟩
        · exact Ra_c hx0 (fun c _ => slA_o _ _ _ _ _ (Or.inr y)) (fun c _ _ => slM_o _ _ _ _ _ (Or.inr y)) (by rw [slA_o _ _ _ _ _ (by omega)]; exact Int.le_refl _)
      have hlook : ∀ x, x < 9 + ρ.1 10 3 → Ra (ntS (slA ρ a s d f)) (lkS (slM S a s d f)) x ∧ lkA (lkS (slM S a s d f)) x = (lkS (slM S a s d f)).2.1 15 x := fun x hx => by
        refine Ra_look (hR1 x hx) hc1 h.1.2.2.2.1.1 hx ?_
        rw [slA_o _ _ _ _ _ (by omega)]
        exact (h.u hx).trans (hsum x hx).symm
      obtain ⟨h1, h2, h3, h4, h5, h6, h7, h8, h9⟩ := h
      refine ⟨hs2, ?_, h3, ⟨fun i hi => ?_, fun r hr => ?_⟩, fun x hx => ?_, fun x hx => ⟨?_, (hlook x hx).2⟩, fun x hx hx2 => ?_, h8, nC_lk (nC_I (nC_I (nC_I h9 (Or.inr (by decide))) (Or.inr (by decide))) (Or.inr (by decide)))⟩
      · unfold Rc
        rw [lkS_o (by decide), slM_o _ _ _ _ _ (by omega), hv 0 0 (by omega)]
        exact h2
      · rw [hv 9 i (by omega)]
        exact h4.1 i hi
      · rw [hv 10 r (by omega)]
        exact h4.2 r hr
      · obtain ⟨a1, a2, a3⟩ := h5 x hx
        rw [hv 4 x (by omega), hv 5 x (by omega), hv 6 x (by omega), (usum_tr k2 x _).1, (usum_tr k2 x _).2, (usum_tr k2 x _).1]
        exact ⟨a1, a2, a3⟩
      · by_cases y : x = a
        · subst y
          have e : ∀ c, (ntA (slA ρ x s d f) x).2.1 c x = (ntS (slA ρ x s d f)).2.1 c x := fun c => by rw [ntA_s, ntS_v (show x < 9 + (slA ρ x s d f).1 10 3 from hx)]
          refine Ra_c (hlook x hx).1 (fun c _ => e c) (fun c _ _ => rfl) ?_
          rw [hv 0 0 (by omega), ntS_o (by decide) (by decide), slA_o _ _ _ _ _ (by omega)]
          exact Int.le_refl _
        · refine Ra_c (h6 x hx).1 (fun c _ => hv c x (Or.inr y)) (fun c c1 c2 => ?_) (by rw [hv 0 0 (by omega)]; exact Int.le_refl _)
          by_cases w : c = 15
          · subst w
            rw [lkS_15 (by show x < 9 + S.1 0 2; rw [h1.2.2.2.1.1]; exact hx), ← (h6 x hx).2, lkA_v (w := 0) (show (slM S a s d f).2.1 12 x = S.2.1 12 x from slM_o _ _ _ _ _ (Or.inr y)) (hsum x hx), lkA_v (w := 0) rfl rfl, slM_o _ _ _ _ _ (by omega), slM_o _ _ _ _ _ (by omega)]
          · rw [lkS_o w, slM_o _ _ _ _ _ (Or.inr y)]
      · obtain ⟨x1, x2, x3, x4⟩ := h7 x hx hx2
        have hx : 9 + ρ.1 10 3 ≤ x := hx
        have hxa : x ≠ a := by omega
        rw [lkS_o (by decide), lkS_o (by decide), lkS_o (by decide), lkS_15o (by show ¬ x < 9 + S.1 0 2; rw [h1.2.2.2.1.1]; omega), slM_o _ _ _ _ _ (Or.inr hxa), slM_o _ _ _ _ _ (Or.inr hxa), slM_o _ _ _ _ _ (Or.inr hxa), slM_o _ _ _ _ _ (Or.inr hxa)]
        exact ⟨x1, x2, x3, x4⟩
/-- a charge and a look -/
theorem kL_chg (f : Nat) (b m : Int32) : kL ρ (chg ρ f b m) := ⟨fun c i _ _ => by rw [chg_1], fun i => by rw [chg_c _ _ _ _ (by omega)], fun i => by rw [chg_c _ _ _ _ (by omega)], fun i => by rw [chg_2], fun i => by rw [chg_2]⟩
theorem dl_0 {b m : Int32} {t : Bool} {c : Nat} (c4 : c ≠ 4) (c5 : c ≠ 5) (c6 : c ≠ 6) : dl b m t c = 0 := by
  unfold dl
  rw [if_neg c4, if_neg c5, if_neg (fun z => c6 z.1)]
theorem dl_6 {b m : Int32} {t : Bool} : dl b m t 6 = if t = true then b else 0 := by
  unfold dl
  rw [if_neg (by decide), if_neg (by decide)]
  cases t <;> rfl
theorem fin_chg (h : Rel n ρ S) (hs1 : Rs ρ1 S1) (k0 : ∀ c a, c ≤ 8 → ρ1.2.1 c a = ρ.2.1 c a) (n1 : ∀ i, i ≠ 5 → ρ1.1 10 i = ρ.1 10 i) (n2 : ρ1.1 0 6 = ρ.1 0 6) (n3 : ρ1.2.2 0 5 = ρ.2.2 0 5) (m0 : ∀ c a, c = 0 ∨ (12 ≤ c ∧ c ≤ 15) → S1.2.1 c a = S.2.1 c a) (m2 : S1.1 0 6 = S.1 0 6) (m3 : S1.2.2 0 5 = S.2.2 0 5)
    {f : Nat} {b m : Int32} (hf : f < ρ.1 10 4) (ho : ∀ i, i < ρ.1 10 4 → i ≠ f → ∀ a, uW ρ1 i a = uW ρ i a ∧ fW ρ1 i a = fW ρ i a) (hu : ∀ a, uW ρ1 f a = uW ρ f a + (if ctL ρ1 f a = true then b else 0) ∧ fW ρ1 f a = fW ρ f a + (if ctL ρ1 f a = true then m else 0)) (hB : Bd (n + 1) ρ1) (hO : Ro ρ1) (hn : nC S1) : Rel (n + 1) (ntS (chg ρ1 f b m)) (lkS S1) := by
  have hW1 := hs1.1
  have hE1 := hs1.2.1
  have hf1 : f < ρ1.1 10 4 := by rw [n1 4 (by decide)]; exact hf
  have k2 : kL ρ1 (chg ρ1 f b m) := kL_chg f b m
  have hp2 : Rp (chg ρ1 f b m) S1 := by
    have hp := hs1.2.2.2.2.1
    unfold Rp
    rw [chg_1]
    exact hp
  have hs2 : Rs (chg ρ1 f b m) S1 := Rs_tr hs1 k2 kM.rf (by rw [chg_1]; exact hW1.2.2.2.2.2.1) (by rw [chg_1]; exact hW1.2.2.2.2.1) hp2
  have v0 : ∀ c a, c ≠ 4 → c ≠ 5 → c ≠ 6 → (chg ρ1 f b m).2.1 c a = ρ1.2.1 c a := fun c a c4 c5 c6 => by
    rw [chg_v hW1 hE1 hf1, dl_0 c4 c5 c6]
    split <;> rw [Int32.add_zero]
  have h10 : ∀ i, (chg ρ1 f b m).1 10 i = ρ1.1 10 i := fun i => by rw [chg_1]
  have key : Ac { ρ with fst := ρ.1 } → Ac (chg ρ1 f b m) := fun hA => by
    intro a ha
    rw [h10, n1 3 (by decide)] at ha
    obtain ⟨a1, a2, a3⟩ := hA a ha
    have w6 := h.1.1.2.2.2.2.2.1
    have e4 : (chg ρ1 f b m).2.1 4 a = ρ.2.1 4 a + (if ctL ρ1 f a = true then b else 0) := by
      rw [chg_v hW1 hE1 hf1, k0 4 a (by decide)]
      rfl
    have e5 : (chg ρ1 f b m).2.1 5 a = ρ.2.1 5 a + (if ctL ρ1 f a = true then m else 0) := by
      rw [chg_v hW1 hE1 hf1, k0 5 a (by decide)]
      rfl
    have e6 : (chg ρ1 f b m).2.1 6 a = ρ.2.1 6 a + (if f < ρ.1 0 6 then (if ctL ρ1 f a = true then b else 0) else 0) := by
      rw [chg_v hW1 hE1 hf1, k0 6 a (by decide), n2]
      rw [dl_6]
      by_cases y : f < ρ.1 0 6
      · rw [if_pos y, decide_eq_true y]
        rfl
      · rw [if_neg y, decide_eq_false y]
        split <;> rfl
    rw [e4, e5, e6, h10, n1 4 (by decide), (usum_tr k2 a _).1, (usum_tr k2 a _).2, (usum_tr k2 a _).1, chg_2, chg_1, n2, n3, a1, a2]
    refine ⟨?_, ?_, fun hb => ?_⟩
    · unfold usum
      rw [isum_u (g := fun i => uW ρ i a) (g' := fun i => uW ρ1 i a) (f := f) (hu a).1 _ (fun i hi hne => (ho i hi hne a).1), if_pos hf]
    · unfold fsum
      rw [isum_u (g := fun i => fW ρ i a) (g' := fun i => fW ρ1 i a) (f := f) (hu a).2 _ (fun i hi hne => (ho i hi hne a).2), if_pos hf]
    · rw [a3 hb]
      unfold usum
      rw [isum_u (g := fun i => uW ρ i a) (g' := fun i => uW ρ1 i a) (f := f) (hu a).1 _ (fun i hi hne => (ho i (Nat.lt_of_lt_of_le hi w6) hne a).1)]
  refine Rel_look hs2 ?_ ⟨by rw [chg_2, n3, m3]; exact h.2.2.1.1, by rw [chg_1, n2, m2]; exact h.2.2.1.2⟩ ⟨fun i hi => ?_, fun r hr => ?_⟩ (key h.2.2.2.2.1) (fun a ha => ?_) (fun a ha ha2 => ?_) (fun r hr h1 => ?_) hn
  · unfold Rc
    rw [m0 0 0 (by decide), v0 0 0 (by decide) (by decide) (by decide), k0 0 0 (by decide)]
    exact h.2.1
  · rw [h10] at hi
    rw [v0 9 i (by decide) (by decide) (by decide)]
    exact hB.1 i hi
  · rw [h10] at hr
    rw [v0 10 r (by decide) (by decide) (by decide)]
    exact hB.2 r hr
  · rw [h10, n1 3 (by decide)] at ha
    refine Ra_c (h.2.2.2.2.2.1 a ha).1 (fun c hc => ?_) (fun c c1 c2 => m0 c a (by omega)) ?_
    · rw [v0 c a (by omega) (by omega) (by omega), k0 c a (by omega)]
    · rw [v0 0 0 (by decide) (by decide) (by decide), k0 0 0 (by decide)]
      exact Int.le_refl _
  · rw [h10, n1 3 (by decide)] at ha
    rw [m0 12 a (by decide), m0 13 a (by decide), m0 14 a (by decide), m0 15 a (by decide)]
    exact h.2.2.2.2.2.2.1 a ha ha2
  · rw [h10] at hr
    rw [chg_2] at h1 ⊢
    rw [chg_1]
    exact hO r hr h1
end RL8
