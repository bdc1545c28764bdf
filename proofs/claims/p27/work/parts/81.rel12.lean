/-! ===== the two sides: makeProject ===== -/
def mpB (ρ : gSt) (q w : Nat) : gSt := sN (mkP ρ q w) 10 3 (ρ.1 10 3 + 1)
section RL12
variable {n : Nat} {ρ ρ' ρ1 S S' S1 : gSt}
theorem mpB_c (q w : Nat) {c i : Nat} (h11 : c ≠ 11) (h : c ≠ 2 ∧ c ≠ 3 ∨ i ≠ ρ.1 11 2) (h10 : c ≠ 10 ∨ i ≠ 3) : (mpB ρ q w).1 c i = ρ.1 c i := by
  show up2 (mkP ρ q w).1 10 3 (ρ.1 10 3 + 1) c i = _
  rw [up2_ne _ _ h10]
  rcases h with h | h
  · exact mkP_c ρ q w h11 h.1 h.2
  · exact mkP_i ρ q w h11 h
theorem mpB_s (q w : Nat) : (mpB ρ q w).1 10 3 = ρ.1 10 3 + 1 ∧ (mpB ρ q w).1 11 2 = ρ.1 11 2 + 1 ∧ (mpB ρ q w).1 2 (ρ.1 11 2) = w ∧ ∀ i, i ≠ 1 → i ≠ 2 → (mpB ρ q w).1 11 i = ρ.1 11 i := by
  refine ⟨up2_self (mkP ρ q w).1 10 3 (ρ.1 10 3 + 1), ?_, ?_, fun i h1 h2 => ?_⟩
  · simp [mpB, mkP, aP, setA, pN, sN, up2]
  · simp [mpB, mkP, aP, setA, pN, sN, up2]
  · show up2 (mkP ρ q w).1 10 3 (ρ.1 10 3 + 1) 11 i = _
    rw [up2_ne _ _ (Or.inl (by decide)), mkP_11 ρ q w h1 h2]
theorem mpB_I (q w : Nat) (c a : Nat) : (mpB ρ q w).2.1 c a = if (1 ≤ c ∧ c ≤ 8) ∧ a = ρ.1 11 1 then a0V c else ρ.2.1 c a := rfl
theorem mpB_B (q w : Nat) : (mpB ρ q w).2.2 = ρ.2.2 := rfl
theorem mpB_par (q w : Nat) (hq : q < ρ.1 11 2) (p : Nat) : par (mpB ρ q w) p = if p = ρ.1 11 2 then some q else par ρ p := mkP_par ρ q w hq p
theorem mpB_upn (hW : RW ρ) (q w : Nat) (hq : q < ρ.1 11 2) {p : Nat} (hp : p < ρ.1 11 2) (k : Nat) : upn (mpB ρ q w) p k = upn ρ p k := by
  have e : ∀ k, upn (mpB ρ q w) p k = upn (mkP ρ q w) p k := upn_c (ρ := mkP ρ q w) (ρ' := mpB ρ q w) (fun x => up2_ne (c := 10) (i := 3) (c' := 3) (i' := x) (mkP ρ q w).1 (ρ.1 10 3 + 1) (Or.inl (by decide))) p
  rw [e, mkP_upn hW q w hq hp]
theorem dpu_u {p : Nat} (h : ∀ k, upn ρ' p k = upn ρ p k) : dep ρ' p = dep ρ p := by
  have e9 : ∀ d k, dpu ρ' p d k = dpu ρ p d k := by
    intro d
    induction d with
    | zero => intro k; rfl
    | succ d ih =>
      intro k
      unfold dpu
      rw [h]
      cases upn ρ p (k + 1) with
      | none => rfl
      | some x => exact ih (k + 1)
  exact e9 9 0
theorem mkS_c {c i : Nat} (h4 : c ≠ 4 ∨ i ≠ S.1 0 2) (h0 : c ≠ 0 ∨ i ≠ 2) : (mkS S).1 c i = S.1 c i := by
  show up2 (up2 S.1 4 (S.1 0 2) (S.1 0 1)) 0 2 (S.1 0 2 + 1) c i = _
  rw [up2_ne _ _ h0, up2_ne _ _ h4]
theorem mkS_s : (mkS S).1 4 (S.1 0 2) = S.1 0 1 ∧ (mkS S).1 0 2 = S.1 0 2 + 1 := by
  refine ⟨?_, ?_⟩ <;> simp [mkS, mkC, cpy, colI, sN, up2]
theorem mkS_I (c i : Nat) : (mkS S).2.1 c i = if c = 3 then (if 8 * S.1 0 2 ≤ i ∧ i < 8 * S.1 0 2 + S.1 0 1 then vp_nar .char (S.2.1 1 (i - 8 * S.1 0 2)) else S.2.1 3 i) else S.2.1 c i := by
  show (if c = 3 then (if 8 * S.1 0 2 ≤ i ∧ i < 8 * S.1 0 2 + S.1 0 1 then vp_nar .char (S.2.1 1 (i - 8 * S.1 0 2)) else S.2.1 3 i) else S.2.1 c i) = _
  rfl
theorem Rel_makeProject (h : Rel n ρ S) {q w : Nat} (hl : ρ.1 0 0 ≠ 0) (hq : pop ρ (ρ.1 0 0 - 1) = some q) (hw : w = ρ.1 1 (ρ.1 0 0 - 1)) (hnone : pop ρ (ρ.1 0 0) = none) (h21 : ρ.1 10 3 < 21) : Rel n (mpB ρ q w) (mkS S) := by
  obtain ⟨hW, hE, hT, ht, hp, hF, hR⟩ := h.1
  have w5 := hW.2.2.2.2.1
  have e23 := hE.1.1
  have w1 := hW.1
  obtain ⟨q1, q2, q3⟩ := (pop_iff hW hE hT _ (by omega) q).mp hq
  have hq11 : q < ρ.1 11 2 := np_lt hW hE q1
  have hwl : w < 128 := by rw [hw]; exact w5.2 _ (by omega)
  obtain ⟨s10, s11, s2, s11o⟩ := mpB_s (ρ := ρ) q w
  obtain ⟨t4, t2⟩ := mkS_s (S := S)
  have hWb : RW (mpB ρ q w) := sN_10_3 (mkP_W hW hq11 (by omega) hwl (pop_up8 hE hq (by omega))) (by omega) (by
    have : (mkP ρ q w).1 11 2 = ρ.1 11 2 + 1 := by simp [mkP, aP, setA, pN, sN, up2]
    omega)
  have hEb : RE (mpB ρ q w) := by
    obtain ⟨⟨g1, g2, g3⟩, g4⟩ := hE
    refine ⟨⟨by rw [s11, s10, g1], ?_, ?_⟩, ?_⟩
    · rw [s11o 3 (by decide) (by decide), mpB_c q w (by decide) (Or.inl (by decide)) (Or.inr (by decide))]
      exact g2
    · rw [s11o 4 (by decide) (by decide), mpB_c q w (by decide) (Or.inl (by decide)) (Or.inr (by decide))]
      exact g3
    · rw [mpB_c q w (by decide) (Or.inr (by omega)) (Or.inl (by decide))]
      exact g4
  have hpar := mpB_par (ρ := ρ) q w hq11
  have hup : ∀ p, p < ρ.1 10 3 → ∀ k, upn (mpB ρ q w) p k = upn ρ p k := fun p hp k => mpB_upn hW q w hq11 (by omega) k
  have hdep : ∀ p, p < ρ.1 10 3 → dep (mpB ρ q w) p = dep ρ p := fun p hp => dpu_u (hup p hp)
  have hl2 : ∀ p, p < ρ.1 10 3 → (mpB ρ q w).1 2 p = ρ.1 2 p := fun p hp => mpB_c q w (by decide) (Or.inr (by omega)) (Or.inl (by decide))
  have hpth : ∀ p, p < ρ.1 10 3 → ∀ k, pth (mpB ρ q w) p k = pth ρ p k := fun p hp k => by
    unfold pth
    rw [hdep p hp, hup p hp]
    cases hu : upn ρ p (dep ρ p - 1 - k) with
    | none => exact hl2 0 (by have := hW.2.1; omega)
    | some x => exact hl2 x (upn_np hW hE hp hu)
  have hparn : par (mpB ρ q w) (ρ.1 10 3) = some q := by rw [hpar, if_pos e23.symm]
  have hnn : ρ.1 10 3 < (mpB ρ q w).1 10 3 := by rw [s10]; exact Nat.lt_succ_self _
  have hdn : dep (mpB ρ q w) (ρ.1 10 3) = ρ.1 0 0 := by
    rw [par_dep hWb hEb hnn hparn, hdep q q1, q2]
    omega
  have c10 : ∀ i, i ≠ 3 → (mpB ρ q w).1 10 i = ρ.1 10 i := fun i hi => mpB_c q w (by decide) (Or.inl (by decide)) (Or.inr hi)
  have hTb : Tr (mpB ρ q w) := by
    refine ⟨fun p hp h0 => ?_, fun p x t hp hx hp1 hx1 he => ?_⟩
    · rw [s10] at hp
      rw [hpar] at h0
      by_cases z : p = ρ.1 11 2
      · rw [if_pos z] at h0
        cases h0
      · rw [if_neg z] at h0
        exact hT.1 p (by omega) h0
    · rw [s10] at hp hx
      rw [hpar] at hp1 hx1
      have hcho : cho ρ q (nI w) = none := by
        rw [show ρ.1 0 0 = (ρ.1 0 0 - 1) + 1 by omega, pop, hq] at hnone
        rw [hw]
        exact hnone
      have hbd : ∀ p, p < ρ.1 10 3 → ρ.1 2 p < 128 := fun p hp => (hW.2.2.2.2.2.2.1 p (np_lt hW hE hp)).1
      have hno : ∀ y, y < ρ.1 10 3 → par ρ y = some q → ρ.1 2 y = w → False := fun y hy1 hy2 hy3 => by
        have := (cho_iff hT hbd y).mpr ⟨hy1, hy2, by rw [hy3]⟩
        rw [hcho] at this
        cases this
      by_cases z : p = ρ.1 11 2
      · by_cases y : x = ρ.1 11 2
        · rw [z, y]
        · rw [if_pos z] at hp1
          rw [if_neg y] at hx1
          cases hp1
          rw [z, s2, hl2 x (by omega)] at he
          exact (hno x (by omega) hx1 he.symm).elim
      · by_cases y : x = ρ.1 11 2
        · rw [if_neg z] at hp1
          rw [if_pos y] at hx1
          cases hx1
          rw [y, s2, hl2 p (by omega)] at he
          exact (hno p (by omega) hp1 he).elim
        · rw [if_neg z] at hp1
          rw [if_neg y] at hx1
          rw [hl2 p (by omega), hl2 x (by omega)] at he
          exact hT.2 p x t (by omega) (by omega) hp1 hx1 he
  have hnpS := ht.1
  have htb : Rt (mpB ρ q w) (mkS S) := by
    refine ⟨by rw [t2, s10, hnpS], fun p hp' => ?_⟩
    rw [s10] at hp'
    by_cases z : p = ρ.1 10 3
    · subst z
      rw [hdn]
      refine ⟨by rw [← hnpS, t4]; exact hp.1, fun k hk => ?_⟩
      rw [mkS_I, if_pos rfl, hnpS, hp.1, if_pos ⟨by omega, by omega⟩, show 8 * ρ.1 10 3 + k - 8 * ρ.1 10 3 = k by omega, hp.2 k hk, vn_ok _ (w5.2 k hk)]
      congr 1
      by_cases y : k = ρ.1 0 0 - 1
      · have e := pth_last hWb hEb hnn hparn
        rw [hdep q q1, q2, ← y] at e
        rw [e, ← e23, s2, hw, y]
      · rw [pth_par hWb hEb hnn hparn (by rw [hdep q q1, q2]; omega), hpth q q1, q3 k (by omega)]
    · have hp2 : p < ρ.1 10 3 := by omega
      obtain ⟨g1, g2⟩ := ht.2 p hp2
      rw [mkS_c (Or.inr (by omega)) (Or.inl (by decide)), hdep p hp2]
      refine ⟨g1, fun k hk => ?_⟩
      have d8 := dep_8 (np_9 hW hE hp2)
      rw [mkS_I, if_pos rfl, if_neg (by omega), hpth p hp2]
      exact g2 k hk
  have hsb : Rs (mpB ρ q w) (mkS S) := by
    refine ⟨hWb, hEb, hTb, htb, ⟨?_, fun i hi => ?_⟩, ⟨?_, fun f hf => ?_⟩, ⟨?_, fun r hr => ?_⟩⟩
    · rw [mkS_c (Or.inl (by decide)) (Or.inr (by decide)), mpB_c q w (by decide) (Or.inl (by decide)) (Or.inl (by decide))]
      exact hp.1
    · rw [mpB_c q w (by decide) (Or.inl (by decide)) (Or.inl (by decide))] at hi
      rw [mkS_I, if_neg (by decide), mpB_c q w (by decide) (Or.inl (by decide)) (Or.inl (by decide))]
      exact hp.2 i hi
    · rw [mkS_c (Or.inl (by decide)) (Or.inr (by decide)), c10 4 (by decide)]
      exact hF.1
    · rw [c10 4 (by decide)] at hf
      rw [mkS_c (c := 5) (Or.inl (by decide)) (Or.inl (by decide)), mkS_c (c := 6) (Or.inl (by decide)) (Or.inl (by decide)), mpB_c q w (c := 4) (by decide) (Or.inl (by decide)) (Or.inl (by decide)), mpB_c q w (c := 5) (by decide) (Or.inl (by decide)) (Or.inl (by decide)), mpB_c q w (c := 6) (by decide) (Or.inl (by decide)) (Or.inl (by decide)), mkS_I, if_neg (by decide), mpB_I, if_neg (by omega)]
      exact hF.2 f hf
    · rw [mkS_c (Or.inl (by decide)) (Or.inr (by decide)), c10 5 (by decide)]
      exact hR.1
    · rw [c10 5 (by decide)] at hr
      rw [mkS_c (c := 9) (Or.inl (by decide)) (Or.inl (by decide)), mpB_c q w (c := 7) (by decide) (Or.inl (by decide)) (Or.inl (by decide)), mkS_I, if_neg (by decide), mpB_I, if_neg (by omega)]
      exact hR.2 r hr
  have hUW : ∀ i, i < ρ.1 10 4 → ∀ a, uW (mpB ρ q w) i a = uW ρ i a ∧ fW (mpB ρ q w) i a = fW ρ i a := fun i hi a => by
    obtain ⟨r1, r2, r3⟩ := fl_row hW hE hi
    refine uW_c ((row_c (mpB_c q w (by decide) (Or.inl (by decide)) (Or.inl (by decide))) (mpB_c q w (by decide) (Or.inl (by decide)) (Or.inl (by decide))) (mpB_c q w (by decide) (Or.inl (by decide)) (Or.inl (by decide))) (hup _ r3)).2.2 a) rfl ?_
    rw [c10 5 (by decide)]
    exact bub_c (by rw [mpB_I, if_neg (by omega)]) _ (fun r _ => ⟨rfl, mpB_c q w (by decide) (Or.inl (by decide)) (Or.inl (by decide)), by rw [mpB_I, if_neg (by omega)]⟩)
  have hus : ∀ a k, k ≤ ρ.1 10 4 → usum (mpB ρ q w) a k = usum ρ a k ∧ fsum (mpB ρ q w) a k = fsum ρ a k := fun a k hk => ⟨isum_c k (fun i hi => (hUW i (by omega) a).1), isum_c k (fun i hi => (hUW i (by omega) a).2)⟩
  have e0 : ∀ k, isum (fun _ => 0) k = 0 := by
    intro k
    induction k with
    | zero => rfl
    | succ k ih =>
      unfold isum
      rw [ih]
      rfl
  have hzero : ∀ k, k ≤ ρ.1 10 4 → usum (mpB ρ q w) (9 + ρ.1 10 3) k = 0 ∧ fsum (mpB ρ q w) (9 + ρ.1 10 3) k = 0 := fun k hk => by
    have hno : ∀ i, i < ρ.1 10 4 → ¬ ctL ρ i (9 + ρ.1 10 3) = true := fun i hi z => by
      obtain ⟨r1, r2, r3⟩ := fl_row hW hE hi
      have := (ctL_eq hW hE hi).mp z
      rw [if_neg (by omega), if_neg (by omega), wi_iff (np_9 hW hE r3)] at this
      obtain ⟨j, hj⟩ := this
      have := upn_np hW hE r3 hj
      omega
    rw [(hus _ k hk).1, (hus _ k hk).2]
    refine ⟨(isum_c (g := fun _ => 0) k (fun i hi => ?_)).trans (e0 k), (isum_c (g := fun _ => 0) k (fun i hi => ?_)).trans (e0 k)⟩
    · show uW ρ i _ = 0
      unfold uW
      rw [if_neg (fun z => hno i (by omega) z.2)]
    · show fW ρ i _ = 0
      unfold fW
      rw [if_neg (fun z => hno i (by omega) z.2)]
  have htk : (mpB ρ q w).1 0 6 = ρ.1 0 6 := mpB_c q w (by decide) (Or.inl (by decide)) (Or.inl (by decide))
  have w6 := hW.2.2.2.2.2.1
  have hnew : ∀ c, 1 ≤ c → c ≤ 8 → (mpB ρ q w).2.1 c (9 + ρ.1 10 3) = a0V c := fun c h1 h2 => by
    rw [mpB_I, if_pos ⟨⟨h1, h2⟩, by omega⟩]
  have hold : ∀ c a, a < 9 + ρ.1 10 3 → (mpB ρ q w).2.1 c a = ρ.2.1 c a := fun c a ha => by
    rw [mpB_I, if_neg (by omega)]
  have hclk : (mpB ρ q w).2.1 0 0 = ρ.2.1 0 0 := by rw [mpB_I, if_neg (by omega)]
  have hSI : ∀ c i, c ≠ 3 → (mkS S).2.1 c i = S.2.1 c i := fun c i hc => by rw [mkS_I, if_neg hc]
  have hA : Ac (mpB ρ q w) := by
    intro a ha
    rw [s10] at ha
    rw [c10 4 (by decide), htk, mpB_B]
    by_cases z : a = 9 + ρ.1 10 3
    · subst z
      rw [(hzero _ (Nat.le_refl _)).1, (hzero _ (Nat.le_refl _)).2, (hzero _ w6).1, hnew 4 (by decide) (by decide), hnew 5 (by decide) (by decide), hnew 6 (by decide) (by decide)]
      exact ⟨rfl, rfl, fun _ => rfl⟩
    · have ha2 : a < 9 + ρ.1 10 3 := by omega
      rw [(hus a _ (Nat.le_refl _)).1, (hus a _ (Nat.le_refl _)).2, (hus a _ w6).1, hold _ a ha2, hold _ a ha2, hold _ a ha2]
      exact h.2.2.2.2.1 a ha2
  refine ⟨hsb, ?_, ⟨by rw [mpB_B]; exact h.2.2.1.1, by rw [htk, mkS_c (Or.inl (by decide)) (Or.inr (by decide))]; exact h.2.2.1.2⟩, ⟨fun i hi => ?_, fun r hr => ?_⟩, hA, fun a ha => ?_, fun a ha ha2 => ?_, fun r hr ho => ?_, fun c i => ?_⟩
  · unfold Rc
    rw [hclk, hSI 0 0 (by decide)]
    exact h.2.1
  · rw [c10 4 (by decide)] at hi
    rw [mpB_I, if_neg (by omega)]
    exact h.2.2.2.1.1 i hi
  · rw [c10 5 (by decide)] at hr
    rw [mpB_I, if_neg (by omega)]
    exact h.2.2.2.1.2 r hr
  · rw [s10] at ha
    by_cases z : a = 9 + ρ.1 10 3
    · obtain ⟨x1, x2, x3, x4⟩ := h.2.2.2.2.2.2.1 a (by omega) (by omega)
      subst z
      unfold Ra
      rw [hSI 12 _ (by decide), hSI 13 _ (by decide), hSI 14 _ (by decide), hSI 15 _ (by decide), hnew 1 (by decide) (by decide), hnew 2 (by decide) (by decide), hnew 3 (by decide) (by decide), hnew 7 (by decide) (by decide), x1, x2, x3, x4]
      refine ⟨⟨⟨rfl, rfl, rfl⟩, by decide, Or.inl ⟨rfl, rfl⟩⟩, ?_⟩
      rw [lkA_v (w := 0) (show (mkS S).2.1 12 (9 + ρ.1 10 3) = -1 by rw [hSI 12 _ (by decide), x1]) rfl, if_neg]
      unfold fO
      rw [if_pos rfl]
      decide
    · have ha2 : a < 9 + ρ.1 10 3 := by omega
      obtain ⟨g1, g2⟩ := h.2.2.2.2.2.1 a ha2
      refine ⟨Ra_c g1 (fun c _ => hold c a ha2) (fun c c1 c2 => hSI c a (by omega)) (by rw [hclk]; exact Int.le_refl _), lkA_cc g2 (Rc_m1 h.2.1) (hSI 12 a (by decide)) (hSI 15 a (by decide)) ?_⟩
      rw [sum_u hsb (by rw [s10]; omega) _ (by rw [hsb.2.2.2.2.2.1.1]; exact Nat.le_refl _), sum_u h.1 ha2 _ (by rw [hF.1]; exact Nat.le_refl _), mkS_c (Or.inl (by decide)) (Or.inr (by decide)), hF.1, (hus a _ (Nat.le_refl _)).1]
  · rw [s10] at ha
    rw [hSI 12 _ (by decide), hSI 13 _ (by decide), hSI 14 _ (by decide), hSI 15 _ (by decide)]
    exact h.2.2.2.2.2.2.1 a (by omega) ha2
  · rw [c10 5 (by decide)] at hr
    rw [mpB_B] at ho ⊢
    rw [mpB_c q w (by decide) (Or.inl (by decide)) (Or.inl (by decide))]
    exact h.2.2.2.2.2.2.2.1 r hr ho
  · by_cases z : c = 3
    · subst z
      left
      rw [mkS_I, if_pos rfl]
      by_cases y : 8 * S.1 0 2 ≤ i ∧ i < 8 * S.1 0 2 + S.1 0 1
      · rw [if_pos y, hp.2 _ (by have := hp.1; omega), vn_ok _ (w5.2 _ (by have := hp.1; omega)), vn_ok _ (w5.2 _ (by have := hp.1; omega))]
      · rw [if_neg y]
        exact (h.2.2.2.2.2.2.2.2 3 i).elim id (fun z => absurd rfl z.2.2)
    · rw [hSI c i z]
      exact h.2.2.2.2.2.2.2.2 c i
theorem m_makeProject (h : Rel n ρ S) {cd : String → Int32} (hS : cd eS = 1) : Mt cd n ρ (lo_makeProject ρ) (mo_makeProject S) := by
  obtain ⟨hW, hE, hT, ht, hp, hF, hR⟩ := h.1
  have ef : ∀ k, k ≤ ρ.1 0 0 → fnd S k = pop ρ k := fun k hk => fnd_pop hW hE hT ht hp hk
  have w2 := hW.2.1
  have bad : (lo_makeProject ρ) = (eS, 0, ρ) → (fnd S (S.1 0 1) ≠ none ∨ fndM S = none ∨ S.1 0 2 = 21) → Mt cd n ρ (lo_makeProject ρ) (mo_makeProject S) := fun e1 e2 => Mt.no (z := 0) (w := 1) (S := S) (E := eS) e1 eS_n (by rw [mo_makeProject, rf_makeProject, if_pos e2]; rfl) hS.symm h
  by_cases z : ρ.1 0 0 = 0 ∨ pop ρ (ρ.1 0 0) ≠ none
  · refine bad (by rw [lo_makeProject, if_pos z]) (Or.inl ?_)
    rw [hp.1, ef _ (Nat.le_refl _)]
    rcases z with z | z
    · rw [z]
      exact fun y => by cases y
    · exact z
  · have z1 : ρ.1 0 0 ≠ 0 := fun y => z (Or.inl y)
    have z2 : pop ρ (ρ.1 0 0) = none := Classical.byContradiction (fun y => z (Or.inr y))
    have eM : fndM S = pop ρ (ρ.1 0 0 - 1) := by
      unfold fndM
      rw [hp.1, if_neg z1, ef _ (by omega)]
    cases e9 : pop ρ (ρ.1 0 0 - 1) with
    | none => exact bad (by rw [lo_makeProject, if_neg z, e9]) (Or.inr (Or.inl (by rw [eM, e9])))
    | some q =>
      by_cases y : 21 ≤ ρ.1 10 3
      · exact bad (by rw [lo_makeProject, if_neg z, e9]; exact if_pos y) (Or.inr (Or.inr (by rw [ht.1]; have := hE.1.1; omega)))
      · refine Mt.ok cd (v := nI (ρ.1 10 3)) (ρ' := mpB ρ q (ρ.1 1 (ρ.1 0 0 - 1))) (S' := mkS S) (by rw [lo_makeProject, if_neg z, e9]; exact if_neg y) ?_ (Rel_makeProject h z1 e9 rfl z2 (by omega)).mono
        rw [mo_makeProject, rf_makeProject, hp.1, ef _ (Nat.le_refl _), eM, e9, z2, ht.1, if_neg, gd0 rfl]
        rintro (w | w | w)
        · exact w rfl
        · cases w
        · omega
end RL12
