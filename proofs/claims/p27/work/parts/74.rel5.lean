/-! ===== the two sides: the relation, and the calls that only ask ===== -/
def Rx (ρ S : gSt) : Prop := ∀ a, 9 + ρ.1 10 3 ≤ a → a < 30 → S.2.1 12 a = -1 ∧ S.2.1 13 a = -1 ∧ S.2.1 14 a = -1 ∧ S.2.1 15 a = -1
def Ro (ρ : gSt) : Prop := ∀ r, r < ρ.1 10 5 → ρ.2.2 11 r = true → ρ.2.2 8 (ρ.1 7 r) = false
def Rl (ρ S : gSt) : Prop := ∀ a, a < 9 + ρ.1 10 3 → Ra ρ S a ∧ lkA S a = S.2.1 15 a
def Rel (n : Nat) (ρ S : gSt) : Prop := Rs ρ S ∧ Rc ρ S ∧ (S.2.2 0 5 = ρ.2.2 0 5 ∧ S.1 0 6 = ρ.1 0 6) ∧ Bd n ρ ∧ Ac ρ ∧ Rl ρ S ∧ Rx ρ S ∧ Ro ρ ∧ nC S
def cdf (a i s : Int32) (E : String) : Int32 := if E = eA then a else if E = eI then i else s
def Mt (cd : String → Int32) (n : Nat) (ρ : gSt) (L : lRes) (T : Int32 × Int32 × gSt) : Prop := (L.1 = "" ∧ T.1 = 0 ∧ L.2.1 = T.2.1 ∧ Rel (n + 1) L.2.2 T.2.2) ∨ (L.1 ≠ "" ∧ T.1 = cd L.1 ∧ Rel (n + 1) ρ T.2.2)
section RL5
variable {n : Nat} {ρ ρ' S S' : gSt}
theorem Rel.mono (h : Rel n ρ S) : Rel (n + 1) ρ S := by
  obtain ⟨h1, h2, h3, h4, h5⟩ := h
  refine ⟨h1, h2, h3, ⟨fun f hf => ?_, h4.2⟩, h5⟩
  have := h4.1 f hf
  omega
theorem Rel.SB (h : Rel n ρ S) : SB S := by
  obtain ⟨⟨hW, hE, hT, ht, hp, hF, hR⟩, -, ⟨-, h6⟩, -⟩ := h
  have w2 := hW.2.1
  have w3 := hW.2.2.1
  have w4 := hW.2.2.2.1
  have w5 := hW.2.2.2.2.1.1
  have w6 := hW.2.2.2.2.2.1
  refine ⟨by rw [hp.1]; exact w5, by rw [ht.1]; omega, by rw [hF.1]; omega, by rw [hR.1]; omega, by rw [h6, hF.1]; exact w6, fun p h => ?_, fun f h => ?_, fun r h => ?_⟩
  · rw [ht.1] at h
    rw [(ht.2 p h).1]
    exact dep_8 (np_9 hW hE h)
  · rw [hF.1] at h
    obtain ⟨f1, f2, f3, f4, f5⟩ := hF.2 f h
    rw [f1, f3, ht.1]
    have := fl_row hW hE h
    exact ⟨this.1, this.2.2⟩
  · rw [hR.1] at h
    rw [(hR.2 r h).1, hF.1, ← hE.1.2.1]
    exact hW.2.2.2.2.2.2.2.2 r (by have := hE.1.2.2; omega)
theorem Rel.SL (h : Rel n ρ S) : SL S := by
  obtain ⟨⟨hW, hE, hT, ht, -⟩, -⟩ := h
  intro p hp h0
  rw [ht.1] at hp
  rw [(ht.2 p hp).1]
  have := (dep_0 hW hE hT hp).mp
  omega
theorem Rel.u (h : Rel n ρ S) {a : Nat} (ha : a < 9 + ρ.1 10 3) : ρ.2.1 4 a = sumA S a (S.1 0 3) := by
  rw [(h.2.2.2.2.1 a ha).1, h.1.2.2.2.2.2.1.1, sum_u h.1 ha _ (Nat.le_refl _)]
theorem Rel.f (h : Rel n ρ S) {a : Nat} (ha : a < 9 + ρ.1 10 3) : ρ.2.1 5 a = nI (cntF S a (S.1 0 3)) := by
  rw [(h.2.2.2.2.1 a ha).2.1, h.1.2.2.2.2.2.1.1, cnt_f h.1 ha _ (Nat.le_refl _)]
/-- numbers looked up on both sides -/
theorem lt_pred {x : Int32} {n : Nat} (hn : n < 2 ^ 30) : x ≤ nI n - 1 ↔ x < nI n := by
  have e : (nI n).toInt = n := nI_toInt (by omega)
  have e1 : (1 : Int32).toInt = 1 := by decide
  rw [Int32.le_iff_toInt_le, Int32.lt_iff_toInt_lt, Jvm.Kit.i32_sub (by omega) (by omega), e, e1]
  omega
theorem isP_eq (h : Rel n ρ S) (x : Int32) : isP S x = inR x (ρ.1 10 3) := by
  have := h.1.1.2.1
  unfold isP inR
  rw [h.1.2.2.2.1.1]
  congr 1
  exact decide_eq_decide.mpr (lt_pred (by omega))
theorem inR_lt {x : Int32} {n : Nat} (hn : n < 2 ^ 31) (h : inR x n = true) : x.toNatClampNeg < n := by
  obtain ⟨p, h1, -, h3⟩ := inR_nI hn h
  omega
theorem isF_eq (h : Rel n ρ S) (x : Int32) : isF S x = lvf ρ x := by
  have w3 := h.1.1.2.2.1
  unfold isF lvf
  rw [h.1.2.2.2.2.2.1.1]
  have e : (decide (0 ≤ x) && decide (x ≤ nI (ρ.1 10 4) - 1)) = inR x (ρ.1 10 4) := by
    unfold inR
    congr 1
    exact decide_eq_decide.mpr (lt_pred (by omega))
  rw [e]
  by_cases z : inR x (ρ.1 10 4) = true
  · rw [(h.1.2.2.2.2.2.1.2 _ (inR_lt (by omega) z)).2.2.2.2]
  · rw [Bool.eq_false_iff.mpr z, Bool.false_and, Bool.false_and]
theorem isR_eq (h : Rel n ρ S) (x : Int32) : isR S x = lvR ρ x := by
  have w4 := h.1.1.2.2.2.1
  unfold isR lvR
  rw [h.1.2.2.2.2.2.2.1]
  have e : (decide (0 ≤ x) && decide (x ≤ nI (ρ.1 10 5) - 1)) = inR x (ρ.1 10 5) := by
    unfold inR
    congr 1
    exact decide_eq_decide.mpr (lt_pred (by omega))
  rw [e]
  by_cases z : inR x (ρ.1 10 5) = true
  · rw [(h.1.2.2.2.2.2.2.2 _ (inR_lt (by omega) z)).2.2]
  · rw [Bool.eq_false_iff.mpr z, Bool.false_and, Bool.false_and]
theorem acct_eq (h : Rel n ρ S) (kd x : Int32) : acct S kd x = acl ρ kd x := by
  have e6 : (decide (0 ≤ x) && decide (x ≤ 5)) = inR x 6 := by
    unfold inR
    congr 1
    exact decide_eq_decide.mpr (by have := lt_pred (x := x) (n := 6) (by decide); rwa [show nI 6 - 1 = 5 by decide] at this)
  have e3 : (decide (0 ≤ x) && decide (x ≤ 2)) = inR x 3 := by
    unfold inR
    congr 1
    exact decide_eq_decide.mpr (by have := lt_pred (x := x) (n := 3) (by decide); rwa [show nI 3 - 1 = 2 by decide] at this)
  unfold acct acl
  rw [e6, e3, isP_eq h]
  by_cases k0 : kd = 0
  · rw [if_pos k0]
    subst k0
    by_cases z : inR x 6 = true
    · rw [if_pos z, if_pos ⟨rfl, z⟩]
    · rw [if_neg z, if_neg (fun y => z y.2), if_neg (fun y => absurd y.1 (by decide)), if_neg (fun y => absurd y.1 (by decide))]
  · rw [if_neg k0, if_neg (c := kd = 0 ∧ inR x 6 = true) (fun y => k0 y.1)]
    by_cases k1 : kd = 1
    · rw [if_pos k1]
      subst k1
      by_cases z : inR x 3 = true
      · rw [if_pos z, if_pos ⟨rfl, z⟩]
      · rw [if_neg z, if_neg (fun y => z y.2), if_neg (fun y => absurd y.1 (by decide))]
    · rw [if_neg k1, if_neg (c := kd = 1 ∧ inR x 3 = true) (fun y => k1 y.1)]
      by_cases k2 : kd = 2
      · rw [if_pos k2]
        by_cases z : inR x (ρ.1 10 3) = true
        · rw [if_pos z, if_pos ⟨k2, z⟩]
        · rw [if_neg z, if_neg (fun y => z y.2)]
      · rw [if_neg k2, if_neg (fun y => k2 y.1)]
theorem acl_np (h : Rel n ρ S) {kd x : Int32} {a : Nat} (ha : acl ρ kd x = some a) : a < 9 + ρ.1 10 3 := by
  have h1 := acl_lt h.1.1 ha
  have h2 := h.1.1.1.2.1
  have h3 := h.1.2.1.1.1
  omega
theorem Mt.ok (cd : String → Int32) {v : Int32} {L : lRes} {T : Int32 × Int32 × gSt} (hL : L = ("", v, ρ')) (hT : T = (0, v, S')) (h : Rel (n + 1) ρ' S') : Mt cd n ρ L T := by
  subst hL hT
  exact Or.inl ⟨rfl, rfl, rfl, h⟩
theorem Mt.no {cd : String → Int32} {L : lRes} {T : Int32 × Int32 × gSt} {E : String} {z w : Int32} (hL : L = (E, 0, ρ)) (hE : E ≠ "") (hT : T = (w, z, S)) (hw : w = cd E) (h : Rel n ρ S) : Mt cd n ρ L T := by
  subst hL hT
  exact Or.inr ⟨hE, hw, h.mono⟩
theorem m_projects (h : Rel n ρ S) (cd : String → Int32) : Mt cd n ρ (lo_projects ρ) (mo_projects S) := Mt.ok cd rfl (by rw [mo_projects, h.1.2.2.2.1.1]) h.mono
theorem m_find (h : Rel n ρ S) (cd : String → Int32) : Mt cd n ρ (lo_find ρ) (mo_findProject S) := by
  obtain ⟨hW, hE, hT, ht, hp, -⟩ := h.1
  exact Mt.ok cd rfl (by rw [mo_findProject, hp.1, fnd_pop hW hE hT ht hp (Nat.le_refl _)]) h.mono
theorem m_acc (h : Rel n ρ S) {cd : String → Int32} (hc : cd eI = 1) {kd x : Int32} {g g' : Nat → Int32} (hg : ∀ a, a < 9 + ρ.1 10 3 → g a = g' a) {T : Int32 × Int32 × gSt} (hT : T = match acct S kd x with
    | none => (1, 0, S)
    | some a => (0, g' a, S)) : Mt cd n ρ (lo_acc ρ kd x g) T := by
  rw [acct_eq h] at hT
  cases ha : acl ρ kd x with
  | none =>
    rw [ha] at hT
    exact Mt.no (lo_acc_n ha) eI_n hT hc.symm h
  | some a =>
    rw [ha] at hT
    exact Mt.ok cd (lo_acc_s ha) (by rw [hT, hg a (acl_np h ha)]) h.mono
theorem m_used (h : Rel n ρ S) {cd : String → Int32} (hc : cd eI = 1) (kd x : Int32) : Mt cd n ρ (lo_used ρ kd x) (mo_used S kd x) := m_acc h hc (fun a ha => h.u ha) rfl
theorem m_filesOf (h : Rel n ρ S) {cd : String → Int32} (hc : cd eI = 1) (kd x : Int32) : Mt cd n ρ (lo_filesOf ρ kd x) (mo_filesOf S kd x) := m_acc h hc (g' := fun a => nI (cntF S a (S.1 0 3))) (fun a ha => h.f ha) rfl
theorem ubN_u (a : Nat) : ∀ k, ubN ρ a k = usum ρ a k := by
  intro k
  induction k with
  | zero => rfl
  | succ k ih =>
    show (if (!ρ.2.2 8 k && ctL ρ k a) = true then ubN ρ a k + bub ρ k (ρ.1 10 5) else ubN ρ a k) = usum ρ a k + uW ρ k a
    rw [ih]
    unfold uW
    by_cases z : ρ.2.2 8 k = false ∧ ctL ρ k a = true
    · rw [if_pos z, if_pos (by rw [z.1, z.2]; rfl)]
    · rw [if_neg z, Int32.add_zero, if_neg (fun y => z ?_)]
      obtain ⟨y1, y2⟩ := Bool.and_eq_true_iff.mp y
      exact ⟨by simpa using y1, y2⟩
theorem m_usedByFiles (h : Rel n ρ S) {cd : String → Int32} (hc : cd eI = 1) (kd x : Int32) : Mt cd n ρ (lo_usedByFiles ρ kd x) (mo_used S kd x) := m_acc h hc (fun a ha => by rw [ubN_u, ← (h.2.2.2.2.1 a ha).1]; exact h.u ha) rfl
theorem m_grace (h : Rel n ρ S) {cd : String → Int32} (hc : cd eI = 1) (kd x : Int32) : Mt cd n ρ (lo_grace ρ kd x) (mo_grace S kd x) := m_acc h hc (g' := grA S) (fun a ha => (gg_eq (h.2.2.2.2.2.1 a ha).1 h.2.1).1) rfl
theorem m_counted (h : Rel n ρ S) {cd : String → Int32} (hc : cd eI = 1) (hs : cd eS = 2) (kd x : Int32) : Mt cd n ρ (lo_counted ρ kd x) (mo_counted S kd x) := by
  have hb := h.2.2.1.1
  have ht := h.2.2.1.2
  cases ha : acl ρ kd x with
  | none => exact Mt.no (z := 0) (w := 1) (S := S) (E := eI) (by rw [lo_counted, if_pos ha]) eI_n (by rw [mo_counted, rf_counted, acct_eq h, if_pos ha]; rfl) hc.symm h
  | some a =>
    have hne : ¬ acl ρ kd x = none := by rw [ha]; simp
    by_cases z : ρ.2.2 0 5 = false
    · exact Mt.no (z := 0) (w := 2) (S := S) (E := eS) (by rw [lo_counted, if_neg hne, if_pos z]) eS_n (by rw [mo_counted, rf_counted, acct_eq h, if_neg hne, hb, if_pos z]; rfl) hs.symm h
    · have hl := acl_np h ha
      refine Mt.ok cd (v := ρ.2.1 6 a) (by rw [lo_counted, if_neg hne, if_neg z]; exact lo_acc_s ha) ?_ h.mono
      rw [mo_counted, rf_counted, acct_eq h, if_neg hne, hb, if_neg z, gd0 rfl, ht, ha]
      show (0, sumA S a _, S) = _
      rw [sum_u h.1 hl _ h.1.1.2.2.2.2.2.1, (h.2.2.2.2.1 a hl).2.2 (by simpa using z)]
theorem m_room (h : Rel n ρ S) {cd : String → Int32} (hc : cd eI = 1) (x : Int32) : Mt cd n ρ (lo_room ρ x) (mo_room S x) := by
  have hF := isF_eq h x
  by_cases z : lvf ρ x = false
  · exact Mt.no (z := 0) (w := 1) (S := S) (E := eI) (by rw [lo_room, if_pos z]) eI_n (by rw [mo_room, rf_delete, hF, z]; rfl) hc.symm h
  · have z1 : lvf ρ x = true := by simpa using z
    obtain ⟨f, hf, ex, ec, hl⟩ := lvf_nI h.1.1 z1
    obtain ⟨hW, hE, hT, ht, hp, hFf, hR⟩ := h.1
    obtain ⟨f1, f2, f3, f4, f5⟩ := hFf.2 f hf
    obtain ⟨r1, r2, r3⟩ := fl_row hW hE hf
    refine Mt.ok cd (v := rmN ρ f (rowN ρ f)) (by rw [lo_room, if_neg z, ec]) ?_ h.mono
    rw [mo_room, rf_delete, hF, if_pos z1, gd0 rfl, ec, f1, f3]
    show (0, _, S) = _
    rw [show (-1 : Int32) = rmN ρ f 0 from rfl, rmM_fir (S := S) (N := rowN ρ f) (E := rowE ρ f) (R := rmN ρ f) (rowN_le ρ f) (askd_row hW hE hT ht (fun _ => rfl) rfl f2 rfl r3) (fun j hj => ?_)]
    have ha := rowE_lt hW (fl_lt hW hE hf) hj
    have w1 := hW.1.2.1
    have e1 := hE.1.1
    have hl := h.2.2.2.2.2.1 (rowE ρ f j) (by omega)
    rw [← lf_eq hl.1 h.2.1 (h.u (by omega))]
    rfl
theorem m_letterAt (h : Rel n ρ S) {cd : String → Int32} (hc : cd eI = 1) (x pl : Int32) : Mt cd n ρ (lo_letterAt ρ x pl) (mo_letterAt S x pl) := by
  have hP := isP_eq h x
  by_cases z : inR x (ρ.1 10 3) = false ∨ pl < 0
  · refine Mt.no (z := 32) (w := 1) (S := S) (E := eI) (by rw [lo_letterAt, if_pos z]) eI_n ?_ hc.symm h
    rw [mo_letterAt, rf_letterAt, hP, if_neg (fun y => ?_)]
    · rfl
    · obtain ⟨y1, y2⟩ := Bool.and_eq_true_iff.mp y
      rcases z with z | z
      · rw [z] at y1
        cases y1
      · exact absurd (of_decide_eq_true y2) (Int32.not_le.mpr z)
  · have z1 : inR x (ρ.1 10 3) = true := by
      by_cases y : inR x (ρ.1 10 3) = true
      · exact y
      · exact absurd (Or.inl (by simpa using y)) z
    have z2 : 0 ≤ pl := Int32.not_lt.mp (fun y => z (Or.inr y))
    obtain ⟨hW, hE, hT, ht, hp, hFf, hR⟩ := h.1
    have w2 := hW.2.1
    obtain ⟨p, hp, ex, ec⟩ := inR_nI (by omega) z1
    obtain ⟨s1, s2⟩ := ht.2 p hp
    have d8 := dep_8 (np_9 hW hE hp)
    have hrf : rf_letterAt S x pl = 0 := by
      rw [rf_letterAt, hP, z1, decide_eq_true z2]
      rfl
    have ej := nonneg_nI z2
    have hlt : pl.toNatClampNeg < 2 ^ 31 := Int32.toNatClampNeg_lt _
    refine Mt.ok cd (v := if nI (dep ρ p) - 1 < pl then 32 else nI (ρ.1 2 ((upn ρ p (dep ρ p - 1 - pl.toNatClampNeg)).getD 0))) (by rw [lo_letterAt, if_neg z, ec]) ?_ h.mono
    rw [mo_letterAt, hrf, gd0 rfl, ec, s1]
    show (0, (if pl < nI (dep ρ p) then _ else 32), S) = _
    by_cases y : nI (dep ρ p) - 1 < pl
    · have hn : ¬ pl < nI (dep ρ p) := fun w => Int32.not_le.mpr y ((lt_pred (by omega)).mpr w)
      rw [if_pos y, if_neg hn]
    · have hn : pl < nI (dep ρ p) := (lt_pred (by omega)).mp (Int32.not_lt.mp y)
      have hk : pl.toNatClampNeg < dep ρ p := by
        rw [ej] at hn
        exact (nI_ltI (by omega) (by omega)).mp hn
      rw [if_neg y, if_pos hn, s2 _ hk]
      rfl
end RL5
