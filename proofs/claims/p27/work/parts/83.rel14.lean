/-! ===== the two sides: moveProject (2) ===== -/
def gc (ρ : gSt) (q : Nat) (s : Int32) (c a i : Nat) : Int32 := if (!ρ.2.2 8 i && wi ρ (ρ.1 6 i) q) = true ∧ ctL ρ i a = true then dl (s * bub ρ i (ρ.1 10 5)) s (decide (i < ρ.1 0 6)) c else 0
section RL14
variable {n : Nat} {ρ ρ' ρ1 S S' S1 : gSt}
theorem isum_3 {g g1 g2 g' : Nat → Int32} : ∀ k, (∀ i, i < k → g' i = g i + g1 i + g2 i) → isum g' k = isum g k + isum g1 k + isum g2 k := by
  intro k
  induction k with
  | zero => intro _; rfl
  | succ k ih =>
    intro h
    unfold isum
    rw [ih (fun i hi => h i (by omega)), h k (Nat.lt_succ_self _)]
    grind
theorem isum_cut {g : Nat → Int32} {m : Nat} : ∀ k, m ≤ k → (∀ i, m ≤ i → i < k → g i = 0) → isum g k = isum g m := by
  intro k
  induction k with
  | zero =>
    intro hm _
    rw [show m = 0 by omega]
  | succ k ih =>
    intro hm h
    by_cases z : m = k + 1
    · rw [z]
    · show isum g k + g k = isum g m
      rw [ih (by omega) (fun i h1 h2 => h i h1 (by omega)), h k (by omega) (Nat.lt_succ_self _), Int32.add_zero]
theorem isum_0 {g : Nat → Int32} (h : ∀ i, g i = 0) : ∀ k, isum g k = 0 := by
  intro k
  induction k with
  | zero => rfl
  | succ k ih =>
    unfold isum
    rw [ih, h]
    rfl
theorem cfw_c (q : Nat) (s : Int32) {c : Nat} (h : c = 0 ∨ 9 ≤ c) : ∀ k, (cfw ρ q s k).2.1 c = ρ.2.1 c := by
  intro k
  induction k with
  | zero => rfl
  | succ k ih =>
    unfold cfw
    split
    · rw [chg_c _ _ _ _ h, ih]
    · exact ih
theorem cfw_kL (q : Nat) (s : Int32) (k : Nat) : kL ρ (cfw ρ q s k) := by
  obtain ⟨e1, e2⟩ := cfw_12 ρ q s k
  exact ⟨fun c i _ _ => by rw [e1], fun i => by rw [cfw_c q s (by omega)], fun i => by rw [cfw_c q s (by omega)], fun i => by rw [e2], fun i => by rw [e2]⟩
theorem cfw_v (hW : RW ρ) (hE : RE ρ) (q : Nat) (s : Int32) (c a : Nat) : ∀ k, k ≤ ρ.1 10 4 → (cfw ρ q s k).2.1 c a = ρ.2.1 c a + isum (gc ρ q s c a) k := by
  intro k
  induction k with
  | zero =>
    intro _
    show _ = _ + 0
    rw [Int32.add_zero]
    rfl
  | succ k ih =>
    intro hk
    have ih := ih (by omega)
    obtain ⟨e1, e2⟩ := cfw_12 ρ q s k
    have hW' := RW_1 e1 hW
    have hE' : RE (cfw ρ q s k) := by
      unfold RE
      rw [e1]
      exact hE
    unfold cfw isum
    by_cases z : (!ρ.2.2 8 k && wi ρ (ρ.1 6 k) q) = true
    · rw [if_pos z, chg_v hW' hE' (by rw [e1]; omega), ih, Int32.add_assoc]
      congr 2
      have eb : bub (cfw ρ q s k) k (ρ.1 10 5) = bub ρ k (ρ.1 10 5) := bub_c (by rw [cfw_c q s (by omega)]) _ (fun r _ => ⟨by rw [e2], by rw [e1], by rw [cfw_c q s (by omega)]⟩)
      unfold gc
      rw [ct_1 e1, eb, e1]
      by_cases y : ctL ρ k a = true
      · rw [if_pos y, if_pos ⟨z, y⟩]
      · rw [if_neg y, if_neg (fun w => y w.2)]
    · rw [if_neg z, ih]
      unfold gc
      rw [if_neg (c := (!ρ.2.2 8 k && wi ρ (ρ.1 6 k) q) = true ∧ ctL ρ k a = true) (fun w => z w.1), Int32.add_zero]
/-- the tree behind a move -/
theorem mv_tree (h : Rel n ρ S) {p t : Nat} (hp : p < ρ.1 10 3) (hpop : pop ρ (ρ.1 0 0) = some t) (hcm : cmL ρ p t = true) : Rs (sN ρ 3 p (t + 1)) (mvL S p (S.1 4 p - 1) (S.1 0 2)) ∧ nC (mvL S p (S.1 4 p - 1) (S.1 0 2)) ∧ (∀ x, x < ρ.1 10 3 → wi (sN ρ 3 p (t + 1)) x p = wi ρ x p) ∧ (∀ x, x < ρ.1 10 3 → wi ρ x p = false → ∀ k, upn (sN ρ 3 p (t + 1)) x k = upn ρ x k) ∧ (∀ c i, c ≠ 2 → c ≠ 3 → (mvL S p (S.1 4 p - 1) (S.1 0 2)).2.1 c i = S.2.1 c i) ∧ (∀ c i, c ≠ 4 → (mvL S p (S.1 4 p - 1) (S.1 0 2)).1 c i = S.1 c i) ∧ (mvL S p (S.1 4 p - 1) (S.1 0 2)).2.2 = S.2.2 := by
  obtain ⟨hW, hE, hT, ht, hpp, hF, hR⟩ := h.1
  have htl := pop_lt hW _ _ hpop
  obtain ⟨p1, p2, p3⟩ := (pop_iff hW hE hT _ (Nat.le_refl _) t).mp hpop
  obtain ⟨c1, c2, c3, c4⟩ := cmL_of hW hp htl hcm
  have hWm := mv_W hW hE hp htl hcm
  have hEm : RE (sN ρ 3 p (t + 1)) := by
    refine ⟨hE.1, ?_⟩
    show up2 ρ.1 3 p (t + 1) 3 0 = 0
    rw [up2_ne _ _ (Or.inr (fun e => c1 e.symm))]
    exact hE.2
  have hd0 : dep ρ p ≠ 0 := fun z => c1 ((dep_0 hW hE hT hp).mp z)
  have hpS := (ht.2 p hp).1
  have hlS : S.1 0 1 = dep ρ t := by rw [hpp.1, p2]
  have hwd : ∀ x, x < ρ.1 10 3 → wi ρ x p = true → ∃ k, upn ρ x k = some p ∧ dep ρ x = k + dep ρ p ∧ dep ρ x ≤ dpw ρ p (ρ.1 10 3) := fun x hx hw => by
    obtain ⟨k, hk⟩ := (wi_iff (np_9 hW hE hx)).mp hw
    exact ⟨k, hk, (dep_up (np_9 hW hE hx) hk).2, dpw_ge hx hw⟩
  have hnw : ∀ x, x < ρ.1 10 3 → wi ρ x p = false → ∀ j, upn ρ x j ≠ some p := fun x hx hw j hj => by
    rw [(wi_iff (np_9 hW hE hx)).mpr ⟨j, hj⟩] at hw
    cases hw
  have hnu : ∀ x, x < ρ.1 10 3 → wi ρ x p = false → ∀ k, upn (sN ρ 3 p (t + 1)) x k = upn ρ x k := fun x hx hw => mv_not (hnw x hx hw)
  have h9m : ∀ x, x < ρ.1 10 3 → upn (sN ρ 3 p (t + 1)) x 9 = none := fun x hx => np_9 hWm hEm hx
  have hwi : ∀ x, x < ρ.1 10 3 → wi (sN ρ 3 p (t + 1)) x p = wi ρ x p := fun x hx => by
    rw [Bool.eq_iff_iff, wi_iff (h9m x hx)]
    by_cases w : wi ρ x p = true
    · obtain ⟨k, hk, -, -⟩ := hwd x hx w
      exact ⟨fun _ => w, fun _ => ⟨k, by rw [(mv_in (np_9 hW hE hx) hk c2).1 k (Nat.le_refl _)]; exact hk⟩⟩
    · have w' : wi ρ x p = false := by simpa using w
      refine ⟨fun ⟨j, hj⟩ => ?_, fun y => absurd y w⟩
      rw [hnu x hx w'] at hj
      exact absurd hj (hnw x hx w' j)
  have hW9 : ∀ x, x < ρ.1 10 3 → wIn S x p = wi ρ x p := fun x hx => wIn_wi hW hE hT ht hx hp
  have hg : ∀ x, wIn S x p = true → S.1 4 p - 1 ≤ S.1 4 x := fun x hx => by
    unfold wIn at hx
    have := of_decide_eq_true (Bool.and_eq_true_iff.mp hx).1
    omega
  have hge := dpw_ge (ρ := ρ) (q := p) (n := ρ.1 10 3) hp ((wi_iff (np_9 hW hE hp)).mpr ⟨0, rfl⟩)
  have hnl : ∀ x, x < ρ.1 10 3 → wi ρ x p = true → nl S (S.1 4 p - 1) x = dep ρ x - dep ρ p + 1 + dep ρ t ∧ nl S (S.1 4 p - 1) x ≤ 8 := fun x hx hw => by
    obtain ⟨k, hk, hk2, hk3⟩ := hwd x hx hw
    unfold nl
    rw [(ht.2 x hx).1, hpS, hlS]
    omega
  obtain ⟨i1, i2, i3, ⟨i4, i5, i6⟩, i7⟩ := mvL_v (p := p) (gone := S.1 4 p - 1) h.2.2.2.2.2.2.2.2 (fun x hx => by rw [ht.1] at hx; rw [(ht.2 x hx).1]; exact dep_8 (np_9 hW hE hx)) hg (fun x hx hw => by rw [ht.1] at hx; rw [hW9 x hx] at hw; exact (hnl x hx hw).2) (S.1 0 2) (Nat.le_refl _)
  have hparp : par (sN ρ 3 p (t + 1)) p = some t := by rw [par_sN, if_pos rfl]
  have hdm : ∀ x, x < ρ.1 10 3 → wi ρ x p = true → dep (sN ρ 3 p (t + 1)) x = dep ρ x - dep ρ p + 1 + dep ρ t := fun x hx hw => by
    obtain ⟨k, hk, hk2, -⟩ := hwd x hx hw
    obtain ⟨m1, m2⟩ := mv_in (np_9 hW hE hx) hk c2
    obtain ⟨y, hy⟩ := dep_some ρ t (dep ρ t) (Nat.le_refl _)
    have e : dep (sN ρ 3 p (t + 1)) x = k + 1 + dep ρ t := dep_eq (h9m x hx) (x := y) (by rw [m2]; exact hy) (by rw [Nat.add_assoc, m2]; exact dep_top (np_9 hW hE htl))
    omega
  have hdn : ∀ x, x < ρ.1 10 3 → wi ρ x p = false → dep (sN ρ 3 p (t + 1)) x = dep ρ x := fun x hx hw => dpu_u (hnu x hx hw)
  have hTm : Tr (sN ρ 3 p (t + 1)) := by
    refine ⟨fun x hx h0 => ?_, fun x y r hx hy hx1 hy1 he => ?_⟩
    · rw [par_sN] at h0
      by_cases z : x = p
      · rw [if_pos z] at h0
        cases h0
      · rw [if_neg z] at h0
        exact hT.1 x hx h0
    · have hbd : ∀ p, p < ρ.1 10 3 → ρ.1 2 p < 128 := fun p hp => (hW.2.2.2.2.2.2.1 p (np_lt hW hE hp)).1
      have he : ρ.1 2 x = ρ.1 2 y := he
      rw [par_sN] at hx1 hy1
      have key : ∀ y, y < ρ.1 10 3 → par ρ y = some t → ρ.1 2 y = ρ.1 2 p → y = p := fun y hy1 hy2 hy3 => c4 y ((cho_iff hT hbd y).mpr ⟨hy1, hy2, by rw [hy3]⟩)
      by_cases z : x = p
      · by_cases w : y = p
        · rw [z, w]
        · rw [if_pos z] at hx1
          rw [if_neg w] at hy1
          cases hx1
          rw [z] at he
          exact absurd (key y hy hy1 he.symm) w
      · by_cases w : y = p
        · rw [if_neg z] at hx1
          rw [if_pos w] at hy1
          cases hy1
          rw [w] at he
          exact absurd (key x hx hx1 he) z
        · rw [if_neg z] at hx1
          rw [if_neg w] at hy1
          exact hT.2 x y r hx hy hx1 hy1 he
  refine ⟨⟨hWm, hEm, hTm, ⟨by rw [i4 0 2 (by decide)]; exact ht.1, fun x hx => ?_⟩, ⟨by rw [i4 0 1 (by decide)]; exact hpp.1, fun i hi => by rw [i5 1 i (by decide) (by decide)]; exact hpp.2 i hi⟩, ⟨by rw [i4 0 3 (by decide)]; exact hF.1, fun f hf => by rw [i4 5 f (by decide), i4 6 f (by decide), i5 7 f (by decide) (by decide), i6]; exact hF.2 f hf⟩, ⟨by rw [i4 0 4 (by decide)]; exact hR.1, fun r hr => by rw [i4 9 r (by decide), i5 10 r (by decide) (by decide), i6]; exact hR.2 r hr⟩⟩, i7, hwi, hnu, i5, i4, i6⟩
  have hx : x < ρ.1 10 3 := hx
  by_cases w : wi ρ x p = true
  · have hw : wIn S x p = true := by rw [hW9 x hx]; exact w
    obtain ⟨n1, n2⟩ := hnl x hx w
    obtain ⟨k, hk, hk2, -⟩ := hwd x hx w
    obtain ⟨m1, m2⟩ := mv_in (np_9 hW hE hx) hk c2
    have hdx := hdm x hx w
    rw [i1, if_pos ⟨by rw [ht.1]; exact hx, hw⟩, n1, hdx]
    refine ⟨rfl, fun j hj => ?_⟩
    rw [i2 x j (by rw [ht.1]; exact hx) hw (by rw [n1]; exact hj)]
    unfold nv
    rw [hlS, hpS]
    by_cases z : j < dep ρ t
    · have hj1 : j < ρ.1 0 0 := by omega
      rw [if_pos z, hpp.2 j hj1, vn_ok _ (hW.2.2.2.2.1.2 j hj1)]
      congr 1
      unfold pth
      rw [hdx, show dep ρ x - dep ρ p + 1 + dep ρ t - 1 - j = k + 1 + (dep ρ t - 1 - j) by omega, m2]
      exact (p3 j (by omega)).symm
    · have e8 := (ht.2 x hx).2 (j - dep ρ t + (dep ρ p - 1)) (by omega)
      have hlt := pth_lt hW hE (k := j - dep ρ t + (dep ρ p - 1)) hx
      rw [if_neg z, e8, vn_ok _ hlt, vn_ok _ hlt]
      congr 1
      unfold pth
      rw [hdx, show dep ρ x - dep ρ p + 1 + dep ρ t - 1 - j = dep ρ x - 1 - (j - dep ρ t + (dep ρ p - 1)) by omega, m1 _ (by omega)]
      rfl
  · have w' : wi ρ x p = false := by simpa using w
    have hw : ¬ (x < S.1 0 2 ∧ wIn S x p = true) := fun z => by rw [hW9 x hx] at z; exact w z.2
    rw [i1, if_neg hw, hdn x hx w']
    refine ⟨(ht.2 x hx).1, fun j hj => ?_⟩
    have := dep_8 (np_9 hW hE hx)
    rw [i3 x j hw (by omega), (ht.2 x hx).2 j hj]
    congr 1
    unfold pth
    rw [hdn x hx w', hnu x hx w']
    rfl
theorem wi_c {p q : Nat} (h : ∀ k, upn ρ' p k = upn ρ p k) : wi ρ' p q = wi ρ p q := by
  have e : ∀ d k, wiu ρ' p q d k = wiu ρ p q d k := by
    intro d
    induction d with
    | zero => intro k; rfl
    | succ d ih =>
      intro k
      unfold wiu
      rw [h]
      cases upn ρ p k with
      | none => rfl
      | some x =>
        show (if x = q then true else wiu ρ' p q d (k + 1)) = if x = q then true else wiu ρ p q d (k + 1)
        rw [ih]
  exact e 9 0
theorem Rel_move (h : Rel n ρ S) {p t : Nat} (hp : p < ρ.1 10 3) (hpop : pop ρ (ρ.1 0 0) = some t) (hcm : cmL ρ p t = true) : Rel n (mvL2 ρ p t) (lkS (mvL S p (S.1 4 p - 1) (S.1 0 2))) ∧ cnw (mvL2 ρ p t) p (ρ.1 10 3) = cntW S p (S.1 0 2) := by
  obtain ⟨hsa, hn1, hwi, hnu, k5', k4, k6⟩ := mv_tree h hp hpop hcm
  obtain ⟨hW, hE, hT, ht, hpp, hF, hR⟩ := h.1
  generalize mvL S p (S.1 4 p - 1) (S.1 0 2) = S1 at *
  obtain ⟨e1, e2⟩ := cfw_12 ρ p (-1) (ρ.1 10 4)
  have e21 : (mvL1 ρ p t).1 = (sN ρ 3 p (t + 1)).1 := by show up2 (cfw ρ p (-1) (ρ.1 10 4)).1 3 p (t + 1) = up2 ρ.1 3 p (t + 1); rw [e1]
  have e22 : (mvL1 ρ p t).2.2 = ρ.2.2 := e2
  have hW2 : RW (mvL1 ρ p t) := RW_1 e21 hsa.1
  have hE2 : RE (mvL1 ρ p t) := by
    unfold RE
    rw [e21]
    exact hsa.2.1
  have h104 : (mvL1 ρ p t).1 10 4 = ρ.1 10 4 := by rw [e21]; rfl
  obtain ⟨d1, d2⟩ := cfw_12 (mvL1 ρ p t) p 1 (ρ.1 10 4)
  have e31 : (cfw (mvL1 ρ p t) p 1 (ρ.1 10 4)).1 = (sN ρ 3 p (t + 1)).1 := d1.trans e21
  have e32 : (cfw (mvL1 ρ p t) p 1 (ρ.1 10 4)).2.2 = ρ.2.2 := d2.trans e22
  have hcc : ∀ c a, c = 0 ∨ 9 ≤ c → (cfw (mvL1 ρ p t) p 1 (ρ.1 10 4)).2.1 c a = ρ.2.1 c a := fun c a hc => by
    rw [cfw_c p 1 hc]
    show (cfw ρ p (-1) (ρ.1 10 4)).2.1 c a = _
    rw [cfw_c p (-1) hc]
  have ka : kL (sN ρ 3 p (t + 1)) (cfw (mvL1 ρ p t) p 1 (ρ.1 10 4)) := ⟨fun c i _ _ => by rw [e31], fun i => hcc 9 i (by omega), fun i => hcc 10 i (by omega), fun i => by rw [e32]; rfl, fun i => by rw [e32]; rfl⟩
  have hs3 : Rs (cfw (mvL1 ρ p t) p 1 (ρ.1 10 4)) S1 := by
    refine Rs_tr hsa ka kM.rf (by rw [e31]; exact hsa.1.2.2.2.2.2.1) (by rw [e31]; exact hsa.1.2.2.2.2.1) ?_
    have hp := hsa.2.2.2.2.1
    unfold Rp
    rw [e31]
    exact hp
  have hv : ∀ c a, (cfw (mvL1 ρ p t) p 1 (ρ.1 10 4)).2.1 c a = ρ.2.1 c a + isum (gc ρ p (-1) c a) (ρ.1 10 4) + isum (gc (mvL1 ρ p t) p 1 c a) (ρ.1 10 4) := fun c a => by
    rw [cfw_v hW2 hE2 p 1 c a _ (by rw [h104]; exact Nat.le_refl _)]
    show (cfw ρ p (-1) (ρ.1 10 4)).2.1 c a + _ = _
    rw [cfw_v hW hE p (-1) c a _ (Nat.le_refl _)]
  have h0 : ∀ c a, c ≠ 4 → c ≠ 5 → c ≠ 6 → (cfw (mvL1 ρ p t) p 1 (ρ.1 10 4)).2.1 c a = ρ.2.1 c a := fun c a c4 c5 c6 => by
    have z : ∀ (ρ : gSt) (s : Int32) k, isum (gc ρ p s c a) k = 0 := fun ρ s => isum_0 (fun i => by
      unfold gc
      rw [dl_0 c4 c5 c6]
      split <;> rfl)
    rw [hv, z, z, Int32.add_zero, Int32.add_zero]
  -- the second charge's terms, over the moved tree
  have hlow : ∀ i, i < ρ.1 10 4 → ρ.1 6 i < ρ.1 10 3 := fun i hi => (fl_row hW hE hi).2.2
  have hb2 : ∀ i, bub (mvL1 ρ p t) i ((mvL1 ρ p t).1 10 5) = bub ρ i (ρ.1 10 5) := fun i => by
    rw [show (mvL1 ρ p t).1 10 5 = ρ.1 10 5 by rw [e21]; rfl]
    refine bub_c ?_ _ (fun r _ => ⟨by rw [e22], by rw [e21]; rfl, ?_⟩)
    · show (cfw ρ p (-1) (ρ.1 10 4)).2.1 9 i = _
      rw [cfw_c p (-1) (by omega)]
    · show (cfw ρ p (-1) (ρ.1 10 4)).2.1 10 r = _
      rw [cfw_c p (-1) (by omega)]
  have hwi2 : ∀ i, i < ρ.1 10 4 → wi (mvL1 ρ p t) ((mvL1 ρ p t).1 6 i) p = wi ρ (ρ.1 6 i) p := fun i hi => by
    rw [wi_1 e21, show (mvL1 ρ p t).1 6 i = ρ.1 6 i by rw [e21]; rfl, hwi _ (hlow i hi)]
  have hct2 : ∀ i a, ctL (mvL1 ρ p t) i a = ctL (sN ρ 3 p (t + 1)) i a := fun i a => ct_1 e21 i a
  have hUa : ∀ i a, uW (cfw (mvL1 ρ p t) p 1 (ρ.1 10 4)) i a = uW (sN ρ 3 p (t + 1)) i a ∧ fW (cfw (mvL1 ρ p t) p 1 (ρ.1 10 4)) i a = fW (sN ρ 3 p (t + 1)) i a := fun i a => U_tr ka i a
  have hba : ∀ i, bub (sN ρ 3 p (t + 1)) i (ρ.1 10 5) = bub ρ i (ρ.1 10 5) := fun i => bub_c (ρ := ρ) (ρ' := sN ρ 3 p (t + 1)) (f := i) rfl _ (fun r _ => ⟨rfl, rfl, rfl⟩)
  have hcs : ∀ i, i < ρ.1 10 4 → wi ρ (ρ.1 6 i) p = false → ∀ a, ctL (sN ρ 3 p (t + 1)) i a = ctL ρ i a := fun i hi hw a => (row_c (ρ := ρ) (ρ' := sN ρ 3 p (t + 1)) (f := i) rfl rfl rfl (hnu _ (hlow i hi) hw)).2.2 a
  have hpt : ∀ i, i < ρ.1 10 4 → ∀ a, uW (cfw (mvL1 ρ p t) p 1 (ρ.1 10 4)) i a = uW ρ i a + gc ρ p (-1) 4 a i + gc (mvL1 ρ p t) p 1 4 a i ∧ fW (cfw (mvL1 ρ p t) p 1 (ρ.1 10 4)) i a = fW ρ i a + gc ρ p (-1) 5 a i + gc (mvL1 ρ p t) p 1 5 a i := fun i hi a => by
    rw [(hUa i a).1, (hUa i a).2]
    unfold gc uW fW
    rw [e22, hwi2 i hi, hct2, hb2]
    show (if ρ.2.2 8 i = false ∧ ctL (sN ρ 3 p (t + 1)) i a = true then bub (sN ρ 3 p (t + 1)) i (ρ.1 10 5) else 0) = _ ∧ (if ρ.2.2 8 i = false ∧ ctL (sN ρ 3 p (t + 1)) i a = true then 1 else 0) = _
    rw [hba]
    generalize bub ρ i (ρ.1 10 5) = u
    have q4 : ∀ (b m : Int32) (t : Bool), dl b m t 4 = b := fun _ _ _ => rfl
    have q5 : ∀ (b m : Int32) (t : Bool), dl b m t 5 = m := fun _ _ _ => rfl
    simp only [q4, q5]
    cases hg : ρ.2.2 8 i with
    | true => simp
    | false =>
      cases hw : wi ρ (ρ.1 6 i) p with
      | true =>
        cases h1 : ctL ρ i a <;> cases h2 : ctL (sN ρ 3 p (t + 1)) i a <;> simp <;> first | grind | (constructor <;> grind)
      | false =>
        rw [hcs i hi hw a]
        simp
  have g64 : ∀ (ρ : gSt) (s : Int32) (a i : Nat), gc ρ p s 6 a i = if i < ρ.1 0 6 then gc ρ p s 4 a i else 0 := fun ρ s a i => by
    unfold gc
    rw [dl_6]
    by_cases y : i < ρ.1 0 6
    · rw [if_pos y, decide_eq_true y]
      rfl
    · rw [if_neg y, decide_eq_false y]
      split <;> rfl
  have w6 := hW.2.2.2.2.2.1
  have htk2 : (mvL1 ρ p t).1 0 6 = ρ.1 0 6 := by rw [e21]; rfl
  have g6s : ∀ (ρ' : gSt) (s : Int32) (a : Nat), ρ'.1 0 6 = ρ.1 0 6 → isum (gc ρ' p s 6 a) (ρ.1 10 4) = isum (gc ρ' p s 4 a) (ρ.1 0 6) := fun ρ' s a he => by
    rw [isum_cut (m := ρ.1 0 6) _ w6 (fun i h1 _ => by rw [g64, he, if_neg (by omega)])]
    exact isum_c _ (fun i hi => by rw [g64, he, if_pos hi])
  have hA3 : Ac (cfw (mvL1 ρ p t) p 1 (ρ.1 10 4)) := by
    intro a ha
    rw [e31] at ha
    obtain ⟨a1, a2, a3⟩ := h.2.2.2.2.1 a ha
    rw [hv, hv, hv, e31, e32]
    show _ = usum _ a (ρ.1 10 4) ∧ _ = fsum _ a (ρ.1 10 4) ∧ (_ → _ = usum _ a (ρ.1 0 6))
    refine ⟨?_, ?_, fun hb => ?_⟩
    · rw [a1]
      exact (isum_3 _ (fun i hi => (hpt i hi a).1)).symm
    · rw [a2]
      exact (isum_3 _ (fun i hi => (hpt i hi a).2)).symm
    · rw [a3 hb, g6s ρ (-1) a rfl, g6s (mvL1 ρ p t) 1 a htk2]
      exact (isum_3 _ (fun i hi => (hpt i (by omega) a).1)).symm
  have h10 : ∀ i, (cfw (mvL1 ρ p t) p 1 (ρ.1 10 4)).1 10 i = ρ.1 10 i := fun i => by rw [e31]; rfl
  refine ⟨Rel_look hs3 ?_ ⟨by rw [e32, k6]; exact h.2.2.1.1, by rw [e31, k4 0 6 (by decide)]; exact h.2.2.1.2⟩ ⟨fun i hi => ?_, fun r hr => ?_⟩ hA3 (fun a ha => ?_) (fun a ha ha2 => ?_) (fun r hr ho => ?_) hn1, ?_⟩
  · unfold Rc
    rw [k5' 0 0 (by decide) (by decide), h0 0 0 (by decide) (by decide) (by decide)]
    exact h.2.1
  · rw [h10] at hi
    rw [h0 9 i (by decide) (by decide) (by decide)]
    exact h.2.2.2.1.1 i hi
  · rw [h10] at hr
    rw [h0 10 r (by decide) (by decide) (by decide)]
    exact h.2.2.2.1.2 r hr
  · rw [h10] at ha
    refine Ra_c (h.2.2.2.2.2.1 a ha).1 (fun c hc => h0 c a (by omega) (by omega) (by omega)) (fun c c1 c2 => k5' c a (by omega) (by omega)) ?_
    rw [h0 0 0 (by decide) (by decide) (by decide)]
    exact Int.le_refl _
  · rw [h10] at ha
    rw [k5' 12 a (by decide) (by decide), k5' 13 a (by decide) (by decide), k5' 14 a (by decide) (by decide), k5' 15 a (by decide) (by decide)]
    exact h.2.2.2.2.2.2.1 a ha ha2
  · rw [h10] at hr
    rw [e32] at ho ⊢
    rw [e31]
    exact h.2.2.2.2.2.2.2.1 r hr ho
  · have e41 : (mvL2 ρ p t).1 = (sN ρ 3 p (t + 1)).1 := by rw [mvL2, ntS_1, e31]
    rw [ht.1, cntW_cnw hW hE hT ht hp _ (Nat.le_refl _)]
    have key : ∀ k, k ≤ ρ.1 10 3 → cnw (mvL2 ρ p t) p k = cnw ρ p k := by
      intro k
      induction k with
      | zero => intro _; rfl
      | succ k ih =>
        intro hk
        unfold cnw
        rw [ih (by omega), wi_1 e41, hwi k (by omega)]
    exact key _ (Nat.le_refl _)
theorem Rel_lk (h : Rel n ρ S) : Rel n ρ (lkS S) := by
  refine Rel_tr h kL.rf kM_lk ?_ h.1.1.2.2.2.2.1 ⟨h.2.2.1.2, h.1.1.2.2.2.2.2.1⟩ h.2.2.1.1 ?_ (Int.le_refl _) (fun _ _ _ => rfl) (fun c a c1 c2 => ?_) (cnt_same h) (nC_lk h.2.2.2.2.2.2.2.2)
  · have hp := h.1.2.2.2.2.1
    unfold Rp
    rw [lkS_1, lkS_o (by decide)]
    exact hp
  · unfold Rc
    rw [lkS_o (by decide)]
    exact h.2.1
  · by_cases z : c = 15
    · subst z
      by_cases y : a < 9 + S.1 0 2
      · rw [lkS_15 y]
        exact (h.2.2.2.2.2.1 a (by rw [← h.1.2.2.2.1.1]; exact y)).2
      · rw [lkS_15o y]
    · rw [lkS_o z]
theorem m_moveProject (h : Rel n ρ S) {cd : String → Int32} (hi : cd eI = 1) (hS : cd eS = 2) (x : Int32) : Mt cd n ρ (lo_moveProject ρ x) (mo_moveProject S x) := by
  have hPq := isP_eq h x
  obtain ⟨hW, hE, hT, ht, hpp, hF, hR⟩ := h.1
  have w2 := hW.2.1
  by_cases z : inR x (ρ.1 10 3) = false
  · exact Mt.no (z := 0) (w := 1) (S := S) (E := eI) (by rw [lo_moveProject, if_pos z]) eI_n (by rw [mo_moveProject, rf_moveProject, hPq, if_pos z]; rfl) hi.symm h
  · obtain ⟨p, hp, ex, ec⟩ := inR_nI (by omega) (show inR x (ρ.1 10 3) = true by simpa using z)
    have ef : fnd S (S.1 0 1) = pop ρ (ρ.1 0 0) := by rw [hpp.1, fnd_pop hW hE hT ht hpp (Nat.le_refl _)]
    have bad : lo_moveProject ρ x = (eS, 0, ρ) → canM S p = false → Mt cd n ρ (lo_moveProject ρ x) (mo_moveProject S x) := fun e1 e2 => Mt.no (z := 0) (w := 2) (S := S) (E := eS) e1 eS_n (by rw [mo_moveProject, rf_moveProject, hPq, if_neg z, ec, if_pos e2]; rfl) hS.symm h
    cases e9 : pop ρ (ρ.1 0 0) with
    | none =>
      refine bad (by rw [lo_moveProject, if_neg z, e9]) ?_
      rw [canM, ef, e9]
      exact Bool.and_false _
    | some t =>
      have htl := pop_lt hW _ _ e9
      obtain ⟨s1, s2⟩ := ht.2 p hp
      have hlet : p ≠ 0 → S.2.1 3 (8 * p + S.1 4 p - 1) = nI (ρ.1 2 p) := fun h0 => by
        obtain ⟨q, hq⟩ := par_some hT hp h0
        have hd := par_dep hW hE hp hq
        rw [s1, show 8 * p + dep ρ p - 1 = 8 * p + dep ρ q by omega, s2 _ (by omega), pth_last hW hE hp hq]
      have ecm : canM S p = cmL ρ p t := by
        unfold canM cmL
        rw [ef, e9]
        by_cases h0 : p = 0
        · rw [decide_eq_true h0]
          rfl
        · rw [decide_eq_false h0, Bool.not_false, Bool.true_and, Bool.true_and]
          show (!wIn S t p && canM2 S p t) = _
          rw [wIn_wi hW hE hT ht htl hp]
          congr 1
          unfold canM2 cmL2
          rw [hlet h0, chd_cho hW hE hT ht htl, show npj S = ρ.1 10 3 from ht.1, dpst_dpw hW hE hT ht hp _ (Nat.le_refl _), s1, (ht.2 t htl).1]
          congr 2
          have e1 : nI (dep ρ t + 1) = nI (dep ρ t) + 1 := by rw [← nI_add]; rfl
          rw [e1]
          congr 1
          grind
      by_cases y : cmL ρ p t = false
      · exact bad (by rw [lo_moveProject, if_neg z, e9, ec]; exact if_pos y) (by rw [ecm]; exact y)
      · have y1 : cmL ρ p t = true := by simpa using y
        obtain ⟨c1, c2, c3, c4⟩ := cmL_of hW hp htl y1
        have hbd : ∀ p, p < ρ.1 10 3 → ρ.1 2 p < 128 := fun p hp => (hW.2.2.2.2.2.2.1 p (np_lt hW hE hp)).1
        have esm : sameM S p = decide (par ρ p = some t) := by
          have h4 : 1 ≤ S.1 4 p := by
            rw [s1]
            have := (dep_0 hW hE hT hp).mp
            omega
          unfold sameM
          rw [ef, e9]
          show decide (chd S t (S.2.1 3 (8 * p + (S.1 4 p - 1))) = some p) = _
          rw [show 8 * p + (S.1 4 p - 1) = 8 * p + S.1 4 p - 1 by omega, hlet c1, chd_cho hW hE hT ht htl]
          refine decide_eq_decide.mpr ⟨fun e => (cho_par e).1, fun e => (cho_iff hT hbd p).mpr ⟨hp, e, rfl⟩⟩
        have emo : mo_moveProject S x = (0, mvT S p) := by
          rw [mo_moveProject, rf_moveProject, hPq, if_neg z, ec, ecm, if_neg y, gd0 rfl]
        by_cases q : par ρ p = some t
        · refine Mt.ok cd (v := 0) (ρ' := ρ) (S' := lkS S) (by rw [lo_moveProject, if_neg z, e9, ec]; show (if cmL ρ p t = false then _ else _) = _; rw [if_neg y, if_pos q]) ?_ (Rel_lk h.mono)
          rw [emo, mvT, esm, if_pos (decide_eq_true q)]
        · obtain ⟨k1, k2⟩ := Rel_move h.mono hp e9 y1
          refine Mt.ok cd (v := nI (cnw (mvL2 ρ p t) p (ρ.1 10 3))) (ρ' := mvL2 ρ p t) (S' := lkS (mvL S p (S.1 4 p - 1) (S.1 0 2))) (by rw [lo_moveProject, if_neg z, e9, ec]; show (if cmL ρ p t = false then _ else _) = _; rw [if_neg y, if_neg q]) ?_ k1
          rw [emo, mvT, esm, if_neg (by rw [decide_eq_false q]; decide), k2]
end RL14
