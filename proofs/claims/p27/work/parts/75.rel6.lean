/-! ===== the two sides: path, clock, recount, limits ===== -/
theorem vn_ok : ∀ w, w < 128 → vp_nar .char (nI w) = nI w := by decide +kernel
section RL6
variable {n : Nat} {ρ ρ' S S' : gSt}
theorem dep_c (h : ∀ q, ρ'.1 3 q = ρ.1 3 q) (p : Nat) : dep ρ' p = dep ρ p := by
  have e9 : ∀ d k, dpu ρ' p d k = dpu ρ p d k := by
    intro d
    induction d with
    | zero => intro k; rfl
    | succ d ih =>
      intro k
      unfold dpu
      rw [upn_c h]
      cases upn ρ p (k + 1) with
      | none => rfl
      | some x => exact ih (k + 1)
  exact e9 9 0
theorem par_c (h : ∀ q, ρ'.1 3 q = ρ.1 3 q) (p : Nat) : par ρ' p = par ρ p := by
  unfold par
  rw [h]
theorem pth_c (h : ∀ q, ρ'.1 3 q = ρ.1 3 q) (h2 : ∀ q, ρ'.1 2 q = ρ.1 2 q) (p k : Nat) : pth ρ' p k = pth ρ p k := by
  unfold pth
  rw [dep_c h, upn_c h, h2]
/-- structure kept on the ledger's side -/
def kL (ρ ρ' : gSt) : Prop := (∀ c i, c ≠ 0 → c ≠ 1 → ρ'.1 c i = ρ.1 c i) ∧ (∀ i, ρ'.2.1 9 i = ρ.2.1 9 i) ∧ (∀ i, ρ'.2.1 10 i = ρ.2.1 10 i) ∧ (∀ i, ρ'.2.2 8 i = ρ.2.2 8 i) ∧ ∀ i, ρ'.2.2 11 i = ρ.2.2 11 i
def kM (S S' : gSt) : Prop := (∀ c i, c ≠ 0 → S'.1 c i = S.1 c i) ∧ (S'.1 0 2 = S.1 0 2 ∧ S'.1 0 3 = S.1 0 3 ∧ S'.1 0 4 = S.1 0 4) ∧ (∀ i, S'.2.1 3 i = S.2.1 3 i) ∧ (∀ i, S'.2.1 7 i = S.2.1 7 i) ∧ (∀ i, S'.2.1 10 i = S.2.1 10 i) ∧ (∀ i, S'.2.2 8 i = S.2.2 8 i) ∧ ∀ i, S'.2.2 11 i = S.2.2 11 i
theorem Rs_tr (h : Rs ρ S) (hl : kL ρ ρ') (hm : kM S S') (a6 : ρ'.1 0 6 ≤ ρ.1 10 4) (pw : ρ'.1 0 0 ≤ 8 ∧ ∀ i, i < ρ'.1 0 0 → ρ'.1 1 i < 128) (hp' : Rp ρ' S') : Rs ρ' S' := by
  obtain ⟨hW, hE, hT, ht, hp, hF, hR⟩ := h
  obtain ⟨l1, l9, l10, l8, l11⟩ := hl
  obtain ⟨m1, ⟨m2, m3, m4⟩, mm3, m7, m10, m8, m11⟩ := hm
  have h3 : ∀ q, ρ'.1 3 q = ρ.1 3 q := fun q => l1 3 q (by decide) (by decide)
  have h2 : ∀ q, ρ'.1 2 q = ρ.1 2 q := fun q => l1 2 q (by decide) (by decide)
  have h10 : ∀ i, ρ'.1 10 i = ρ.1 10 i := fun i => l1 10 i (by decide) (by decide)
  have h11 : ∀ i, ρ'.1 11 i = ρ.1 11 i := fun i => l1 11 i (by decide) (by decide)
  refine ⟨?_, ?_, ?_, ?_, hp', ?_, ?_⟩
  · obtain ⟨w1, w2, w3, w4, w5, w6, w7, w8, w9⟩ := hW
    refine ⟨by rw [h11, h11, h11, h10, h10]; exact w1, by rw [h10, h11]; exact w2, by rw [h10, h11]; exact w3, by rw [h10, h11]; exact w4, pw, by rw [h10]; exact a6, fun p hp => ?_, fun f hf => ?_, fun r hr => ?_⟩
    · rw [h11] at hp ⊢
      rw [h2, h3, upn_c h3]
      exact w7 p hp
    · rw [h11] at hf
      rw [l1 4 f (by decide) (by decide), l1 5 f (by decide) (by decide), l1 6 f (by decide) (by decide), h11]
      exact w8 f hf
    · rw [h11] at hr
      rw [l1 7 r (by decide) (by decide), h11]
      exact w9 r hr
  · refine ⟨⟨by rw [h11, h10]; exact hE.1.1, by rw [h11, h10]; exact hE.1.2.1, by rw [h11, h10]; exact hE.1.2.2⟩, by rw [h3]; exact hE.2⟩
  · refine ⟨fun p hp h0 => ?_, fun p q t hp hq hp1 hq1 he => ?_⟩
    · rw [h10] at hp
      rw [par_c h3] at h0
      exact hT.1 p hp h0
    · rw [h10] at hp hq
      rw [par_c h3] at hp1 hq1
      rw [h2, h2] at he
      exact hT.2 p q t hp hq hp1 hq1 he
  · refine ⟨by rw [m2, h10]; exact ht.1, fun p hp => ?_⟩
    rw [h10] at hp
    rw [m1 4 p (by decide), dep_c h3]
    refine ⟨(ht.2 p hp).1, fun k hk => ?_⟩
    rw [mm3, pth_c h3 h2]
    exact (ht.2 p hp).2 k hk
  · refine ⟨by rw [m3, h10]; exact hF.1, fun f hf => ?_⟩
    rw [h10] at hf
    rw [m1 5 f (by decide), m1 6 f (by decide), m7, m8, l1 4 f (by decide) (by decide), l1 5 f (by decide) (by decide), l1 6 f (by decide) (by decide), l9, l8]
    exact hF.2 f hf
  · refine ⟨by rw [m4, h10]; exact hR.1, fun r hr => ?_⟩
    rw [h10] at hr
    rw [m1 9 r (by decide), m10, m11, l1 7 r (by decide) (by decide), l10, l11]
    exact hR.2 r hr
theorem U_tr (hl : kL ρ ρ') (f a : Nat) : uW ρ' f a = uW ρ f a ∧ fW ρ' f a = fW ρ f a := by
  obtain ⟨l1, l9, l10, l8, l11⟩ := hl
  have h3 : ∀ q, ρ'.1 3 q = ρ.1 3 q := fun q => l1 3 q (by decide) (by decide)
  refine uW_c ((row_c (l1 4 f (by decide) (by decide)) (l1 5 f (by decide) (by decide)) (l1 6 f (by decide) (by decide)) (fun k => upn_c h3 _ k)).2.2 a) (l8 f) ?_
  rw [l1 10 5 (by decide) (by decide)]
  exact bub_c (l9 f) _ (fun r _ => ⟨l11 r, l1 7 r (by decide) (by decide), l10 r⟩)
theorem usum_tr (hl : kL ρ ρ') (a k : Nat) : usum ρ' a k = usum ρ a k ∧ fsum ρ' a k = fsum ρ a k := ⟨isum_c k (fun i _ => (U_tr hl i a).1), isum_c k (fun i _ => (U_tr hl i a).2)⟩
theorem lkA_cc {a : Nat} (h : lkA S a = S.2.1 15 a) (hc : ¬ S.2.1 0 0 = -1) (h12 : S'.2.1 12 a = S.2.1 12 a) (h15 : S'.2.1 15 a = S.2.1 15 a) (hs : sumA S' a (S'.1 0 3) = sumA S a (S.1 0 3)) : lkA S' a = S'.2.1 15 a := by
  rw [lkA_v (w := 0) rfl rfl] at h ⊢
  rw [h12, hs, h15]
  by_cases z : fO (S.2.1 12 a) (sumA S a (S.1 0 3)) = 1
  · rw [if_pos z] at h ⊢
    by_cases y : S.2.1 15 a = -1
    · rw [if_pos y, y] at h
      exact absurd h hc
    · rw [if_neg y]
  · rw [if_neg z] at h ⊢
    exact h
theorem Rc_m1 (h : Rc ρ S) : ¬ S.2.1 0 0 = -1 := by
  rw [h.1]
  exact m1_ne h.2.1
theorem Ra_c {a : Nat} (h : Ra ρ S a) (hl : ∀ c, c = 1 ∨ c = 2 ∨ c = 3 ∨ c = 7 ∨ c = 8 → ρ'.2.1 c a = ρ.2.1 c a) (hm : ∀ c, 12 ≤ c → c ≤ 15 → S'.2.1 c a = S.2.1 c a) (hc : (ρ.2.1 0 0).toInt ≤ (ρ'.2.1 0 0).toInt) : Ra ρ' S' a := by
  obtain ⟨⟨r1, r2, r3⟩, r4, r5⟩ := h
  unfold Ra
  rw [hl 1 (by decide), hl 2 (by decide), hl 3 (by decide), hl 7 (by decide), hl 8 (by decide), hm 12 (by decide) (by decide), hm 13 (by decide) (by decide), hm 14 (by decide) (by decide), hm 15 (by decide) (by decide)]
  refine ⟨⟨r1, r2, r3⟩, r4, ?_⟩
  rcases r5 with r5 | ⟨q1, q2, q3, q4⟩
  · exact Or.inl r5
  · exact Or.inr ⟨q1, q2, q3, Int.le_trans q4 hc⟩
/-- what keeps structure, limits and looks -/
theorem Rel_tr (h : Rel n ρ S) (hl : kL ρ ρ') (hm : kM S S') (hp' : Rp ρ' S') (pw : ρ'.1 0 0 ≤ 8 ∧ ∀ i, i < ρ'.1 0 0 → ρ'.1 1 i < 128) (htk : S'.1 0 6 = ρ'.1 0 6 ∧ ρ'.1 0 6 ≤ ρ.1 10 4) (hb : S'.2.2 0 5 = ρ'.2.2 0 5) (hc : Rc ρ' S') (hcm : (ρ.2.1 0 0).toInt ≤ (ρ'.2.1 0 0).toInt)
    (al : ∀ c a, c = 1 ∨ c = 2 ∨ c = 3 ∨ c = 4 ∨ c = 5 ∨ c = 7 ∨ c = 8 → ρ'.2.1 c a = ρ.2.1 c a) (am : ∀ c a, 12 ≤ c → c ≤ 15 → S'.2.1 c a = S.2.1 c a) (a6 : ∀ a, a < 9 + ρ.1 10 3 → ρ'.2.2 0 5 = true → ρ'.2.1 6 a = usum ρ a (ρ'.1 0 6)) (hn : nC S') : Rel n ρ' S' := by
  have hs := Rs_tr h.1 hl hm htk.2 pw hp'
  have h10 : ∀ i, ρ'.1 10 i = ρ.1 10 i := fun i => hl.1 10 i (by decide) (by decide)
  obtain ⟨h1, h2, h3, h4, h5, h6, h7, h8, h9⟩ := h
  refine ⟨hs, hc, ⟨hb, htk.1⟩, ⟨fun f hf => ?_, fun r hr => ?_⟩, fun a ha => ?_, fun a ha => ?_, fun a ha => ?_, fun r hr ho => ?_, hn⟩
  · rw [h10] at hf
    rw [hl.2.1]
    exact h4.1 f hf
  · rw [h10] at hr
    rw [hl.2.2.1]
    exact h4.2 r hr
  · rw [h10] at ha
    obtain ⟨g1, g2, g3⟩ := h5 a ha
    rw [al 4 a (by decide), al 5 a (by decide), h10, (usum_tr hl a _).1, (usum_tr hl a _).2, (usum_tr hl a _).1]
    exact ⟨g1, g2, a6 a ha⟩
  · rw [h10] at ha
    obtain ⟨g1, g2⟩ := h6 a ha
    refine ⟨Ra_c g1 (fun c hc => al c a (by omega)) (fun c c1 c2 => am c a c1 c2) hcm, lkA_cc g2 (Rc_m1 h2) (am 12 a (by decide) (by decide)) (am 15 a (by decide) (by decide)) ?_⟩
    rw [sum_u hs (by rw [h10]; exact ha) _ (by rw [hs.2.2.2.2.2.1.1]; exact Nat.le_refl _), sum_u h1 ha _ (by rw [h1.2.2.2.2.2.1.1]; exact Nat.le_refl _), hm.2.1.2.1, (usum_tr hl a _).1]
  · rw [h10] at ha
    intro ha2
    rw [am 12 a (by decide) (by decide), am 13 a (by decide) (by decide), am 14 a (by decide) (by decide), am 15 a (by decide) (by decide)]
    exact h7 a ha ha2
  · rw [h10] at hr
    rw [hl.2.2.2.2] at ho
    rw [hl.1 7 r (by decide) (by decide), hl.2.2.2.1]
    exact h8 r hr ho
theorem kL.rf : kL ρ ρ := ⟨fun _ _ _ _ => rfl, fun _ => rfl, fun _ => rfl, fun _ => rfl, fun _ => rfl⟩
theorem kM.rf : kM S S := ⟨fun _ _ _ => rfl, ⟨rfl, rfl, rfl⟩, fun _ => rfl, fun _ => rfl, fun _ => rfl, fun _ => rfl, fun _ => rfl⟩
theorem nC_I (h : nC S) {c i : Nat} {v : Int32} (hv : vp_nar .char v = v ∨ (c ≠ 1 ∧ c ≠ 2 ∧ c ≠ 3)) : nC (sI S c i v) := by
  intro c' i'
  show vp_nar .char (up2 S.2.1 c i v c' i') = up2 S.2.1 c i v c' i' ∨ _
  by_cases z : c' = c ∧ i' = i
  · obtain ⟨rfl, rfl⟩ := z
    rw [up2_self]
    exact hv
  · rw [up2_ne]
    · exact h c' i'
    · by_cases y : c' = c
      · exact Or.inr (fun w => z ⟨y, w⟩)
      · exact Or.inl y
theorem cnt_same (h : Rel n ρ S) : ∀ a, a < 9 + ρ.1 10 3 → ρ.2.2 0 5 = true → ρ.2.1 6 a = usum ρ a (ρ.1 0 6) := fun a ha => (h.2.2.2.2.1 a ha).2.2
theorem m_clearPath (h : Rel n ρ S) (cd : String → Int32) : Mt cd n ρ (lo_clearPath ρ) (mo_clearPath S) := by
  have hp := h.1.2.2.2.2.1
  refine Mt.ok cd (v := nI (ρ.1 0 0)) rfl (by rw [mo_clearPath, hp.1]) (Rel_tr h.mono (ρ' := sN ρ 0 0 0) (S' := sN S 0 1 0) ?_ ?_ ?_ ?_ ?_ h.2.2.1.1 h.2.1 (Int.le_refl _) (fun _ _ _ => rfl) (fun _ _ _ _ => rfl) (cnt_same h) h.2.2.2.2.2.2.2.2)
  · exact ⟨fun c i h0 _ => up2_ne _ _ (Or.inl h0), fun _ => rfl, fun _ => rfl, fun _ => rfl, fun _ => rfl⟩
  · exact ⟨fun c i h0 => up2_ne _ _ (Or.inl h0), ⟨rfl, rfl, rfl⟩, fun _ => rfl, fun _ => rfl, fun _ => rfl, fun _ => rfl, fun _ => rfl⟩
  · exact ⟨rfl, fun i hi => absurd hi (Nat.not_lt_zero _)⟩
  · exact ⟨Nat.zero_le _, fun i hi => absurd hi (Nat.not_lt_zero _)⟩
  · exact ⟨h.2.2.1.2, h.1.1.2.2.2.2.2.1⟩
theorem m_back (h : Rel n ρ S) {cd : String → Int32} (hc : cd eS = 1) : Mt cd n ρ (lo_back ρ) (mo_back S) := by
  have hp := h.1.2.2.2.2.1
  have w5 := h.1.1.2.2.2.2.1
  by_cases z : ρ.1 0 0 = 0
  · exact Mt.no (z := 0) (w := 1) (S := S) (E := eS) (by rw [lo_back, if_pos z]) eS_n (by rw [mo_back, rf_back, hp.1, if_pos z]; rfl) hc.symm h
  · refine Mt.ok cd (v := nI (ρ.1 0 0 - 1)) (ρ' := sN ρ 0 0 (ρ.1 0 0 - 1)) (S' := sN S 0 1 (ρ.1 0 0 - 1)) (by rw [lo_back, if_neg z]) (by rw [mo_back, rf_back, hp.1, if_neg z, gd0 rfl]) (Rel_tr h.mono ?_ ?_ ?_ ?_ ?_ h.2.2.1.1 h.2.1 (Int.le_refl _) (fun _ _ _ => rfl) (fun _ _ _ _ => rfl) (cnt_same h) h.2.2.2.2.2.2.2.2)
    · exact ⟨fun c i h0 _ => up2_ne _ _ (Or.inl h0), fun _ => rfl, fun _ => rfl, fun _ => rfl, fun _ => rfl⟩
    · exact ⟨fun c i h0 => up2_ne _ _ (Or.inl h0), ⟨rfl, rfl, rfl⟩, fun _ => rfl, fun _ => rfl, fun _ => rfl, fun _ => rfl, fun _ => rfl⟩
    · exact ⟨rfl, fun i hi => hp.2 i (by have hi : i < ρ.1 0 0 - 1 := hi; omega)⟩
    · exact ⟨by show ρ.1 0 0 - 1 ≤ 8; omega, fun i hi => w5.2 i (by have hi : i < ρ.1 0 0 - 1 := hi; omega)⟩
    · exact ⟨h.2.2.1.2, h.1.1.2.2.2.2.2.1⟩
theorem m_type (h : Rel n ρ S) {cd : String → Int32} (ha : cd eA = 1) (hs : cd eS = 2) (c : Int32) : Mt cd n ρ (lo_type ρ c) (mo_type S c) := by
  have hp := h.1.2.2.2.2.1
  have w5 := h.1.1.2.2.2.2.1
  by_cases z : c < 97 ∨ 122 < c
  · exact Mt.no (z := 0) (w := 1) (S := S) (E := eA) (by rw [lo_type, if_pos z]) eA_n (by rw [mo_type, rf_type, if_pos z]; rfl) ha.symm h
  · by_cases y : 8 ≤ ρ.1 0 0
    · exact Mt.no (z := 0) (w := 2) (S := S) (E := eS) (by rw [lo_type, if_neg z, if_pos y]) eS_n (by rw [mo_type, rf_type, if_neg z, hp.1, if_pos (by omega)]; rfl) hs.symm h
    · have c1 : 97 ≤ c := Int32.not_lt.mp (fun w => z (Or.inl w))
      have c2 : c ≤ 122 := Int32.not_lt.mp (fun w => z (Or.inr w))
      have c0 : 0 ≤ c := Int32.le_trans (by decide) c1
      have ec := nonneg_nI c0
      have hw : c.toNatClampNeg < 128 := by
        have hlt : c.toNatClampNeg < 2 ^ 31 := Int32.toNatClampNeg_lt _
        rw [ec, Int32.le_iff_toInt_le, nI_toInt hlt] at c2
        have e122 : (122 : Int32).toInt = 122 := by decide
        omega
      generalize c.toNatClampNeg = w at *
      subst ec
      refine Mt.ok cd (v := nI (ρ.1 0 0 + 1)) (ρ' := sN (sN ρ 1 (ρ.1 0 0) w) 0 0 (ρ.1 0 0 + 1)) (S' := sN (sI S 1 (ρ.1 0 0) (nI w)) 0 1 (ρ.1 0 0 + 1)) (by rw [lo_type, if_neg z, if_neg y, nI_clamp (by omega)]) (by rw [mo_type, rf_type, if_neg z, hp.1, if_neg (by omega), gd0 rfl, vn_ok w hw]) (Rel_tr h.mono ?_ ?_ ?_ ?_ ?_ h.2.2.1.1 h.2.1 (Int.le_refl _) (fun _ _ _ => rfl) (fun c a c1 c2 => up2_ne _ _ (Or.inl (by omega))) (cnt_same h) (nC_I h.2.2.2.2.2.2.2.2 (Or.inl (vn_ok w hw))))
      · exact ⟨fun c i h0 h1 => (up2_ne _ _ (Or.inl h0)).trans (up2_ne _ _ (Or.inl h1)), fun _ => rfl, fun _ => rfl, fun _ => rfl, fun _ => rfl⟩
      · exact ⟨fun c i h0 => up2_ne _ _ (Or.inl h0), ⟨rfl, rfl, rfl⟩, fun _ => rfl, fun _ => rfl, fun _ => rfl, fun _ => rfl, fun _ => rfl⟩
      · refine ⟨rfl, fun i hi => ?_⟩
        have hi : i < ρ.1 0 0 + 1 := hi
        show up2 S.2.1 1 (ρ.1 0 0) (nI w) 1 i = nI (up2 ρ.1 1 (ρ.1 0 0) w 1 i)
        by_cases q : i = ρ.1 0 0
        · subst q
          rw [up2_self, up2_self]
        · rw [up2_ne _ _ (Or.inr q), up2_ne _ _ (Or.inr q)]
          exact hp.2 i (by omega)
      · refine ⟨by show ρ.1 0 0 + 1 ≤ 8; omega, fun i hi => ?_⟩
        have hi : i < ρ.1 0 0 + 1 := hi
        show up2 ρ.1 1 (ρ.1 0 0) w 1 i < 128
        by_cases q : i = ρ.1 0 0
        · subst q
          rw [up2_self]
          exact hw
        · rw [up2_ne _ _ (Or.inr q)]
          exact w5.2 i (by omega)
      · exact ⟨h.2.2.1.2, h.1.1.2.2.2.2.2.1⟩
theorem m_pass (h : Rel n ρ S) {cd : String → Int32} (ha : cd eA = 1) (hs : cd eS = 2) (x : Int32) : Mt cd n ρ (lo_pass ρ x) (mo_pass S x) := by
  obtain ⟨c1, c2, c3⟩ := h.2.1
  have e0 : (decide (1 ≤ x) && decide (x ≤ 1000)) = false ↔ (x < 1 ∨ 1000 < x) := by
    rw [Bool.and_eq_false_iff, decide_eq_false_iff_not, decide_eq_false_iff_not, Int32.not_le, Int32.not_le]
  by_cases z : x < 1 ∨ 1000 < x
  · exact Mt.no (z := 0) (w := 1) (S := S) (E := eA) (by rw [lo_pass, if_pos z]) eA_n (by rw [mo_pass, rf_pass, if_pos (e0.mpr z)]; rfl) ha.symm h
  · have z' := fun w => z (e0.mp w)
    by_cases y : 100000 < ρ.2.1 0 0 + x
    · exact Mt.no (z := 0) (w := 2) (S := S) (E := eS) (by rw [lo_pass, if_neg z, if_pos y]) eS_n (by rw [mo_pass, rf_pass, if_neg z', c1, if_pos y]; rfl) hs.symm h
    · have x1 : 1 ≤ x := Int32.not_lt.mp (fun w => z (Or.inl w))
      have x2 : x ≤ 1000 := Int32.not_lt.mp (fun w => z (Or.inr w))
      rw [Int32.le_iff_toInt_le] at x1 x2
      have e1 : (1 : Int32).toInt = 1 := by decide
      have e1000 : (1000 : Int32).toInt = 1000 := by decide
      have e5 : (100000 : Int32).toInt = 100000 := by decide
      have es : (ρ.2.1 0 0 + x).toInt = (ρ.2.1 0 0).toInt + x.toInt := Jvm.Kit.i32_add (by omega) (by omega)
      have y' := Int32.not_lt.mp y
      rw [Int32.le_iff_toInt_le, e5] at y'
      have hs0 : (sI ρ 0 0 (ρ.2.1 0 0 + x)).2.1 0 0 = ρ.2.1 0 0 + x := up2_self ρ.2.1 0 0 (ρ.2.1 0 0 + x)
      refine Mt.ok cd (v := ρ.2.1 0 0 + x) (ρ' := sI ρ 0 0 (ρ.2.1 0 0 + x)) (S' := sI S 0 0 (ρ.2.1 0 0 + x)) (by rw [lo_pass, if_neg z, if_neg y]) (by rw [mo_pass, rf_pass, if_neg z', c1, if_neg y, gd0 rfl]) (Rel_tr h.mono ?_ ?_ h.1.2.2.2.2.1 h.1.1.2.2.2.2.1 ?_ h.2.2.1.1 ?_ ?_ (fun c a hc => up2_ne _ _ (Or.inl (by omega))) (fun c a c1 c2 => up2_ne _ _ (Or.inl (by omega))) ?_ (nC_I h.2.2.2.2.2.2.2.2 (Or.inr (by decide))))
      · exact ⟨fun _ _ _ _ => rfl, fun _ => rfl, fun _ => rfl, fun _ => rfl, fun _ => rfl⟩
      · exact ⟨fun _ _ _ => rfl, ⟨rfl, rfl, rfl⟩, fun _ => rfl, fun _ => rfl, fun _ => rfl, fun _ => rfl, fun _ => rfl⟩
      · exact ⟨h.2.2.1.2, h.1.1.2.2.2.2.2.1⟩
      · refine ⟨?_, by rw [hs0]; omega, by rw [hs0]; omega⟩
        rw [hs0]
        exact up2_self S.2.1 0 0 (ρ.2.1 0 0 + x)
      · rw [hs0]
        omega
      · exact cnt_same h
theorem bgN_v (c a : Nat) : ∀ k, (bgN ρ k).2.1 c a = if a < k ∧ c = 6 then 0 else ρ.2.1 c a := by
  intro k
  induction k with
  | zero =>
    rw [if_neg (fun z => absurd z.1 (Nat.not_lt_zero _))]
    rfl
  | succ k ih =>
    show (bgA (bgN ρ k) k).2.1 c a = _
    unfold bgA
    by_cases z : (1 ≤ c ∧ c ≤ 8) ∧ a = k
    · obtain ⟨z1, rfl⟩ := z
      rw [setA_s _ _ _ z1]
      by_cases y : c = 6
      · rw [if_pos y, if_pos ⟨Nat.lt_succ_self _, y⟩]
      · rw [if_neg y, if_neg (fun w => y w.2), ih, if_neg (fun w => y w.2)]
    · rw [setA_o _ _ _ z, ih]
      by_cases y : a < k ∧ c = 6
      · rw [if_pos y, if_pos ⟨by omega, y.2⟩]
      · rw [if_neg y, if_neg (fun w => ?_)]
        by_cases q : a = k
        · exact z ⟨by omega, q⟩
        · exact y ⟨by omega, w.2⟩
theorem bgN_2 : ∀ k, (bgN ρ k).2.2 = ρ.2.2 := by
  intro k
  induction k with
  | zero => rfl
  | succ k ih => exact ih
theorem m_beginRecount (h : Rel n ρ S) (cd : String → Int32) : Mt cd n ρ (lo_beginRecount ρ) (mo_beginRecount S) := by
  refine Mt.ok cd (v := nI (ρ.1 10 4)) (S' := sN (sB S 0 5 true) 0 6 0) rfl (by rw [mo_beginRecount, h.1.2.2.2.2.2.1.1]) (Rel_tr h.mono ?_ ?_ ?_ ?_ ?_ ?_ ?_ ?_ ?_ (fun _ _ _ _ => rfl) ?_ h.2.2.2.2.2.2.2.2)
  · refine ⟨fun c i h0 _ => ?_, fun i => ?_, fun i => ?_, fun i => ?_, fun i => ?_⟩
    · rw [bgN_1]
      exact up2_ne _ _ (Or.inl h0)
    · rw [bgN_v, if_neg (by omega)]
      rfl
    · rw [bgN_v, if_neg (by omega)]
      rfl
    · rw [bgN_2]
      rfl
    · rw [bgN_2]
      rfl
  · exact ⟨fun c i h0 => up2_ne _ _ (Or.inl h0), ⟨rfl, rfl, rfl⟩, fun _ => rfl, fun _ => rfl, fun _ => rfl, fun _ => rfl, fun _ => rfl⟩
  · have hp := h.1.2.2.2.2.1
    unfold Rp
    rw [bgN_1]
    exact hp
  · rw [bgN_1]
    exact h.1.1.2.2.2.2.1
  · rw [bgN_1]
    exact ⟨rfl, Nat.zero_le _⟩
  · rw [bgN_2]
    rfl
  · unfold Rc
    rw [bgN_v, if_neg (by omega)]
    exact h.2.1
  · rw [bgN_v, if_neg (by omega)]
    exact Int.le_refl _
  · intro c a hc
    rw [bgN_v, if_neg (by omega)]
    rfl
  · intro a ha hb
    rw [bgN_v, if_pos ⟨ha, rfl⟩, bgN_1]
    rfl
end RL6
