/-! ===== what is refused, and what changes nothing ===== -/
theorem i2c_nI : ∀ j, j < 1100 → (((nI j).toUInt32 % 65536).toInt32 = nI j) := by decide +kernel
section RF
variable {n : Nat} {ρ ρ' ρ1 S : gSt}
theorem no_I {L : lRes} (h : L = (eI, 0, ρ)) : wR L = cI ∧ nx ρ L = ρ := by
  subst h
  exact ⟨wR_I rfl, nx_no eI_n⟩
theorem no_A {L : lRes} (h : L = (eA, 0, ρ)) : wR L = cA ∧ nx ρ L = ρ := by
  subst h
  exact ⟨wR_A rfl, nx_no eA_n⟩
theorem no_S {L : lRes} (h : L = (eS, 0, ρ)) : wR L = cS ∧ nx ρ L = ρ := by
  subst h
  exact ⟨wR_S rfl, nx_no eS_n⟩
theorem sm_neg {k : Nat} (hk : k < 2 ^ 30) : (-1 - nI k : Int32) < 0 := by
  have e : (-1 : Int32).toInt = -1 := by decide
  have e2 := nI_toInt (n := k) (by omega)
  rw [Int32.lt_iff_toInt_lt, Jvm.Kit.i32_sub (by rw [e, e2]; omega) (by rw [e, e2]; omega), e, e2]
  show (-1 : Int) - k < 0
  omega
theorem inR_neg {k m : Nat} (hk : k < 2 ^ 30) : inR (-1 - nI k) m = false := inR_f1 (sm_neg hk)
theorem inR_big {k m : Nat} (h : m ≤ k) (hk : k < 2 ^ 31) : inR (nI k) m = false := inR_f2 (nI_le h hk)
theorem inR_ok {k m : Nat} (h : k < m) (hm : m < 2 ^ 31) : inR (nI k) m = true := inR_t (nI_pos (by omega)) (nI_lt h hm)
theorem rq_type {c : Int32} (h : c < 97 ∨ 122 < c) : lo_type ρ c = (eA, 0, ρ) := if_pos h
theorem rf_mv {x : Int32} (h : inR x (ρ.1 10 3) = false) : lo_moveProject ρ x = (eI, 0, ρ) := if_pos h
theorem rf_mv0 (h : inR (nI 0) (ρ.1 10 3) = true) : lo_moveProject ρ (nI 0) = (eS, 0, ρ) := by
  unfold lo_moveProject
  rw [if_neg (by rw [h]; decide)]
  cases pop ρ (ρ.1 0 0) with
  | none => rfl
  | some t => exact if_pos (by show cmL ρ 0 t = false; unfold cmL; rw [decide_eq_true rfl]; rfl)
theorem rf_lt {x y : Int32} (h : inR x (ρ.1 10 3) = false ∨ y < 0) : lo_letterAt ρ x y = (eI, 0, ρ) := if_pos h
theorem lt_sp (hW : RW ρ) (hE : RE ρ) {p k : Nat} (hp : p < ρ.1 10 3) (hk : 8 ≤ k) (hk2 : k < 2 ^ 30) : lo_letterAt ρ (nI p) (nI k) = ("", 32, ρ) := by
  have b2 := hW.2.1
  have hd := dep_8 (np_9 hW hE hp)
  unfold lo_letterAt
  rw [if_neg (fun z => z.elim (fun y => by rw [inR_ok hp (by omega)] at y; cases y) (nI_pos (by omega))), nI_clamp (by omega), if_pos]
  have e := nI_toInt (n := dep ρ p) (by omega)
  have e2 := nI_toInt (n := k) (by omega)
  have e1 : (1 : Int32).toInt = 1 := by decide
  rw [Int32.lt_iff_toInt_lt, Jvm.Kit.i32_sub (by rw [e, e1]; omega) (by rw [e, e1]; omega), e, e1, e2]
  omega
theorem rf_mf {x y : Int32} (h : inR x 6 = false ∨ inR y (ρ.1 10 3) = false) : lo_makeFile ρ x y = (eI, 0, ρ) := if_pos h
theorem rf_wr {x b : Int32} (h : lvf ρ x = false) : lo_write ρ x b = (eI, 0, ρ) := if_pos h
theorem rf_wrA {x b : Int32} (h : lvf ρ x = true) (hb : b < -1000 ∨ 1000 < b) : lo_write ρ x b = (eA, 0, ρ) := by
  unfold lo_write
  rw [if_neg (by rw [h]; decide), if_pos (hb.elim Or.inl (fun z => Or.inr (Or.inl z)))]
theorem rf_dl {x : Int32} (h : lvf ρ x = false) : lo_delete ρ x = (eI, 0, ρ) := if_pos h
theorem rf_mo {x y : Int32} (h : lvf ρ x = false) : lo_moveFile ρ x y = (eI, 0, ρ) := if_pos h
theorem rf_moP {x y : Int32} (h : inR y (ρ.1 10 3) = false) : lo_moveFile ρ x y = (eI, 0, ρ) := by
  unfold lo_moveFile
  rw [if_pos h]
  split <;> rfl
theorem rf_rs {x b : Int32} (h : lvf ρ x = false) : lo_reserve ρ x b = (eI, 0, ρ) := if_pos h
theorem rf_rsA {x b : Int32} (h : lvf ρ x = true) (hb : b < 1 ∨ 1000 < b) : lo_reserve ρ x b = (eA, 0, ρ) := by
  unfold lo_reserve
  rw [if_neg (by rw [h]; decide), if_pos hb]
theorem rf_st {x b : Int32} (h : inR x (ρ.1 10 5) = false) : lo_settle ρ x b = (eI, 0, ρ) := if_pos (by unfold lvR; rw [h]; rfl)
theorem rf_sl {kd x s h f : Int32} (ha : acl ρ kd x = none) : lo_setLimits ρ kd x s h f = (eI, 0, ρ) := by
  unfold lo_setLimits
  rw [ha]
theorem rf_slA {kd x s h f : Int32} {a : Nat} (ha : acl ρ kd x = some a) (hl : lmO s h f = false) : lo_setLimits ρ kd x s h f = (eA, 0, ρ) := by
  unfold lo_setLimits
  rw [ha]
  exact if_pos hl
theorem rf_ps {x : Int32} (h : x < 1 ∨ 1000 < x) : lo_pass ρ x = (eA, 0, ρ) := if_pos h
theorem rf_rm {x : Int32} (h : lvf ρ x = false) : lo_room ρ x = (eI, 0, ρ) := if_pos h
theorem rf_rc {x : Int32} (h : x < 1 ∨ 40 < x) : lo_recount ρ x = (eA, 0, ρ) := if_pos h
theorem rf_ct {kd x : Int32} (h : acl ρ kd x = none) : lo_counted ρ kd x = (eI, 0, ρ) := if_pos h
theorem rf_mk (hW : RW ρ) (h : 21 ≤ ρ.1 10 3 ∨ pop ρ (ρ.1 0 0) ≠ none) : lo_makeProject ρ = (eS, 0, ρ) := by
  unfold lo_makeProject
  split
  · rfl
  · rename_i h1
    cases pop ρ (ρ.1 0 0 - 1) with
    | none => rfl
    | some q =>
      refine if_pos ?_
      rcases h with h | h
      · exact h
      · exact absurd (Or.inr h) h1
theorem acl_k {kd x : Int32} (h0 : kd ≠ 0) (h1 : kd ≠ 1) (h2 : kd ≠ 2) : acl ρ kd x = none := by
  unfold acl
  rw [if_neg (fun z => h0 z.1), if_neg (fun z => h1 z.1), if_neg (fun z => h2 z.1)]
theorem acl_0f {x : Int32} (h : inR x 6 = false) : acl ρ 0 x = none := by
  unfold acl
  rw [if_neg (fun z => by rw [h] at z; exact absurd z.2 (by decide)), if_neg (fun z => absurd z.1 (by decide)), if_neg (fun z => absurd z.1 (by decide))]
theorem acl_1f {x : Int32} (h : inR x 3 = false) : acl ρ 1 x = none := by
  unfold acl
  rw [if_neg (fun z => absurd z.1 (by decide)), if_neg (fun z => by rw [h] at z; exact absurd z.2 (by decide)), if_neg (fun z => absurd z.1 (by decide))]
theorem acl_2f {x : Int32} (h : inR x (ρ.1 10 3) = false) : acl ρ 2 x = none := by
  unfold acl
  rw [if_neg (fun z => absurd z.1 (by decide)), if_neg (fun z => absurd z.1 (by decide)), if_neg (fun z => by rw [h] at z; exact absurd z.2 (by decide))]
/-- the accounts by kind and number -/
theorem acl_0s {k : Nat} (h : k < 6) : acl ρ 0 (nI k) = some k := by
  unfold acl
  rw [if_pos ⟨rfl, inR_ok h (by decide)⟩, nI_clamp (by omega)]
theorem acl_1s {k : Nat} (h : k < 3) : acl ρ 1 (nI k) = some (6 + k) := by
  unfold acl
  rw [if_neg (fun z => absurd z.1 (by decide)), if_pos ⟨rfl, inR_ok h (by decide)⟩, nI_clamp (by omega)]
theorem acl_2s (hW : RW ρ) {k : Nat} (h : k < ρ.1 10 3) : acl ρ 2 (nI k) = some (9 + k) := by
  have b2 := hW.2.1
  unfold acl
  rw [if_neg (fun z => absurd z.1 (by decide)), if_neg (fun z => absurd z.1 (by decide)), if_pos ⟨rfl, inR_ok h (by omega)⟩, nI_clamp (by omega)]
theorem acl_z (hW : RW ρ) {k : Nat} (h : k < 3) : ∃ a, acl ρ (nI k) (nI 0) = some a := by
  have b2 := hW.2.1
  have h3 : k = 0 ∨ k = 1 ∨ k = 2 := by omega
  rcases h3 with rfl | rfl | rfl
  · exact ⟨_, acl_0s (by decide)⟩
  · exact ⟨_, acl_1s (by decide)⟩
  · exact ⟨_, acl_2s hW (by omega)⟩
theorem lm_big {k h : Nat} {hi : Int32} (e : hi.toInt = h) (hk : h < k) (hk2 : k < 2 ^ 30) : isLm (nI k) hi = false := by
  have ek := nI_toInt (n := k) (by omega)
  unfold isLm
  rw [decide_eq_false (fun z => by
    have z := congrArg Int32.toInt z
    rw [ek, show (-1 : Int32).toInt = -1 by decide] at z
    omega), decide_eq_false (p := nI k ≤ hi) (fun z => by
    rw [Int32.le_iff_toInt_le, ek, e] at z
    omega), Bool.and_false]
  rfl
theorem lm_neg {k : Nat} {hi : Int32} (hk : k < 2 ^ 30) : isLm (-2 - nI k) hi = false := by
  have e : (-2 : Int32).toInt = -2 := by decide
  have e2 := nI_toInt (n := k) (by omega)
  have e3 : (-2 - nI k : Int32).toInt = -2 - k := by rw [Jvm.Kit.i32_sub (by rw [e, e2]; omega) (by rw [e, e2]; omega), e, e2]
  unfold isLm
  rw [decide_eq_false (fun z => by
    have z := congrArg Int32.toInt z
    rw [e3, show (-1 : Int32).toInt = -1 by decide] at z
    omega), decide_eq_false (p := 0 ≤ -2 - nI k) (fun z => by
    rw [Int32.le_iff_toInt_le, e3, show (0 : Int32).toInt = 0 by decide] at z
    omega), Bool.false_and]
  rfl
theorem lmO_1 {s h f : Int32} (hs : isLm s 100000 = false) : lmO s h f = false := by
  unfold lmO
  rw [hs]
  rfl
theorem lmO_2 {s h f : Int32} (hs : isLm h 100000 = false) : lmO s h f = false := by
  unfold lmO
  rw [hs, Bool.and_false]
  rfl
theorem lmO_3 {s h f : Int32} (hs : isLm f 100 = false) : lmO s h f = false := by
  unfold lmO
  rw [hs, Bool.and_false]
theorem lv_big (hW : RW ρ) {k : Nat} (h : 40 ≤ k) (hk : k < 2 ^ 31) : lvf ρ (nI k) = false := by
  have w3 := hW.2.2.1
  unfold lvf
  rw [inR_big (by omega) hk]
  rfl
theorem lv_neg {k : Nat} (hk : k < 2 ^ 30) : lvf ρ (-1 - nI k) = false := by
  unfold lvf
  rw [inR_neg hk]
  rfl
theorem lv_m1 : lvf ρ (-1) = false := by
  unfold lvf
  rw [inR_f1 (by decide)]
  rfl
theorem lv_in (hW : RW ρ) {f : Nat} (hf : f < 2 ^ 31) (h : lvf ρ (nI f) = true) : f < ρ.1 10 4 ∧ ρ.2.2 8 f = false := by
  have w3 := hW.2.2.1
  unfold lvf at h
  obtain ⟨h1, h2⟩ := Bool.and_eq_true_iff.mp h
  rw [nI_clamp hf] at h2
  refine ⟨?_, by simpa using h2⟩
  obtain ⟨p, hp, e, -⟩ := inR_nI (by omega) h1
  rw [(nI_eq hf (by omega)).mp e]
  exact hp
/-! ===== nothing is written: nothing is changed ===== -/
theorem chg_0 (hW : RW ρ) (hE : RE ρ) {f : Nat} (hf : f < ρ.1 10 4) : chg ρ f 0 0 = ρ := by
  refine Prod.ext (chg_1 ρ f 0 0) (Prod.ext ?_ (chg_2 ρ f 0 0))
  funext c a
  rw [chg_v hW hE hf]
  have e : dl 0 0 (decide (f < ρ.1 0 6)) c = 0 := by
    unfold dl
    repeat' split
    all_goals rfl
  rw [e]
  split <;> exact Int32.add_zero _
theorem ntv_id (h : Rel n ρ S) {a : Nat} (ha : a < 9 + ρ.1 10 3) (c : Nat) : ntv ρ c a = ρ.2.1 c a := by
  have hu := h.u ha
  have hR := h.2.2.2.2.2.1 a ha
  have hc := h.2.1
  obtain ⟨⟨⟨r1, -, -⟩, -, r2⟩, r3⟩ := hR
  have hlk := lkA_v (w := 0) (x := S) (a := a) r1 hu.symm
  rw [r3] at hlk
  have key : fO (ρ.2.1 1 a) (ρ.2.1 4 a) = ρ.2.1 7 a := by
    by_cases z : fO (ρ.2.1 1 a) (ρ.2.1 4 a) = 1
    · rw [if_pos z] at hlk
      rcases r2 with ⟨q1, -⟩ | ⟨q1, -⟩
      · rw [if_pos q1, q1, hc.1] at hlk
        have := hc.2.1
        rw [← hlk] at this
        exact absurd this (by decide)
      · rw [z, q1]
    · rw [if_neg z] at hlk
      have z0 : fO (ρ.2.1 1 a) (ρ.2.1 4 a) = 0 := by
        unfold fO at z ⊢
        split
        · rfl
        · split
          · rfl
          · rename_i y1 y2
            rw [if_neg y1, if_neg y2] at z
            exact absurd rfl z
      rcases r2 with ⟨-, q2⟩ | ⟨-, q2, q3, -⟩
      · rw [z0, q2]
      · rw [← q2, hlk] at q3
        exact absurd q3 (by decide)
  unfold ntv
  by_cases h7 : c = 7
  · rw [if_pos h7, h7, key]
  · rw [if_neg h7]
    by_cases h8 : c = 8
    · rw [if_pos h8, key, if_neg (fun z => by rw [z.1] at z; exact absurd z.2 (by decide)), h8]
    · rw [if_neg h8]
theorem ntS_id (h : Rel n ρ S) : ntS ρ = ρ := by
  refine Prod.ext (ntS_1 ρ) (Prod.ext ?_ ntS_2)
  funext c a
  unfold ntS
  rw [ntN_v]
  split
  · exact ntv_id h (by assumption) c
  · rfl
theorem sI_id (c i : Nat) : sI ρ c i (ρ.2.1 c i + 0) = ρ := by
  refine Prod.ext rfl (Prod.ext ?_ rfl)
  funext c' i'
  show up2 ρ.2.1 c i (ρ.2.1 c i + 0) c' i' = ρ.2.1 c' i'
  unfold up2
  split
  · rename_i z
    rw [z.1, z.2, Int32.add_zero]
  · rfl
theorem firP_none {g : Nat → Bool} (h : ∀ i, g i = false) : ∀ d i, firP g d i = none := by
  intro d
  induction d with
  | zero => intro i; rfl
  | succ d ih =>
    intro i
    unfold firP
    rw [if_neg (by rw [h]; decide)]
    exact ih _
theorem bar_00 (a : Nat) : barA ρ a 0 0 = false := by
  unfold barA fBar
  rw [decide_eq_false (show ¬ (0 : Int32) < 0 by decide)]
  rfl
theorem wr_0 (h : Iv n ρ) (hn : n ≤ 600) {f : Nat} (hf : f < 2 ^ 31) (hl : lvf ρ (nI f) = true) : lo_write ρ (nI f) (nI 0) = ("", ρ.2.1 9 f, ρ) ∧ 0 ≤ (ρ.2.1 9 f).toInt ∧ (ρ.2.1 9 f).toInt ≤ 600000 := by
  obtain ⟨⟨S, hR, hz⟩, -⟩ := h
  have hW := hR.1.1
  have hE := hR.1.2.1
  obtain ⟨h1, h2⟩ := lv_in hW hf hl
  obtain ⟨b1, b2⟩ := hR.2.2.2.1.1 f h1
  have e0 : (0 : Int32).toInt = 0 := by decide
  refine ⟨?_, b1, by omega⟩
  unfold lo_write
  rw [if_neg (by rw [hl]; decide), nI_clamp hf, show nI 0 = (0 : Int32) by decide, if_neg (fun z => ?_), Int32.add_zero]
  · have e : bpl ρ f 0 0 = none := firP_none (fun i => bar_00 _) _ _
    rw [e]
    show (("", ρ.2.1 9 f, ntS (chg (sI ρ 9 f (ρ.2.1 9 f)) f 0 0)) : lRes) = _
    have e2 := sI_id (ρ := ρ) 9 f
    rw [Int32.add_zero] at e2
    rw [e2, chg_0 hW hE h1, ntS_id hR]
  · rcases z with z | z | z
    · exact absurd z (by decide)
    · exact absurd z (by decide)
    · rw [Int32.add_zero, Int32.lt_iff_toInt_lt, e0] at z
      omega
/-! ===== room, and one block more ===== -/
theorem iMax_nn (v : Int32) : 0 ≤ (iMax 0 v).toInt := by
  unfold iMax
  split
  · rename_i h
    rw [Int32.lt_iff_toInt_lt] at h
    have e0 : (0 : Int32).toInt = 0 := by decide
    omega
  · decide
theorem lfA_ge (a : Nat) : -1 ≤ (lfA ρ a).toInt := by
  unfold lfA fLeft
  split
  · decide
  · split
    · decide
    · have := iMax_nn (ρ.2.1 2 a - ρ.2.1 4 a)
      omega
theorem rm_at (f : Nat) : ∀ k, rmN ρ f k = -1 ∨ ∃ i, i < k ∧ lfA ρ (rowE ρ f i) = rmN ρ f k ∧ 0 ≤ (rmN ρ f k).toInt := by
  intro k
  induction k with
  | zero => exact Or.inl rfl
  | succ k ih =>
    have hg := lfA_ge (ρ := ρ) (rowE ρ f k)
    show rmU (rmN ρ f k) (lfA ρ (rowE ρ f k)) = -1 ∨ ∃ i, i < k + 1 ∧ lfA ρ (rowE ρ f i) = rmU (rmN ρ f k) (lfA ρ (rowE ρ f k)) ∧ 0 ≤ (rmU (rmN ρ f k) (lfA ρ (rowE ρ f k))).toInt
    unfold rmU
    split
    · rename_i z
      refine Or.inr ⟨k, Nat.lt_succ_self _, rfl, ?_⟩
      have z1 := z.1
      rcases Int.lt_or_le (lfA ρ (rowE ρ f k)).toInt 0 with y | y
      · exact absurd (Int32.toInt_inj.mp (by rw [show (-1 : Int32).toInt = -1 by decide]; omega)) z1
      · exact y
    · rcases ih with h | ⟨i, hi, h1, h2⟩
      · exact Or.inl h
      · exact Or.inr ⟨i, by omega, h1, h2⟩
theorem firP_ex {g : Nat → Bool} : ∀ d i j, i ≤ j → j < i + d → g j = true → ∃ r, firP g d i = some r := by
  intro d
  induction d with
  | zero => intro i j h1 h2 _; omega
  | succ d ih =>
    intro i j h1 h2 h3
    unfold firP
    split
    · exact ⟨i, rfl⟩
    · by_cases z : j = i
      · rename_i y
        rw [z] at h3
        exact absurd h3 y
      · exact ih (i + 1) j (by omega) (by omega) h3
theorem rm_v {x : Int32} (h : lvf ρ x = true) : lo_room ρ x = ("", rmN ρ x.toNatClampNeg (rowN ρ x.toNatClampNeg), ρ) := if_neg (by rw [h]; decide)
/-- room is NONE or from 0 on; below 1000, one block more is barred -/
theorem rm_bar (h : Iv n ρ) (hn : n ≤ 600) {f : Nat} (hf : f < 2 ^ 31) (hl : lvf ρ (nI f) = true) : ∃ r, lo_room ρ (nI f) = ("", r, ρ) ∧ (r = -1 ∨ 0 ≤ r.toInt) ∧ (0 ≤ r.toInt → r.toInt ≤ 999 → ∃ w, lo_write ρ (nI f) (r + 1) = ("", w, ρ) ∧ w.toInt < -1) := by
  refine ⟨_, rm_v hl, ?_, ?_⟩
  · rcases rm_at (ρ := ρ) (nI f).toNatClampNeg (rowN ρ (nI f).toNatClampNeg) with h1 | ⟨i, -, -, h1⟩
    · exact Or.inl h1
    · exact Or.inr h1
  · rw [nI_clamp hf]
    generalize hr : rmN ρ f (rowN ρ f) = r
    intro r0 r9
    have hk := rm_at (ρ := ρ) f (rowN ρ f)
    rw [hr] at hk
    rcases hk with hk | ⟨i, hi, h1, -⟩
    · rw [hk] at r0
      exact absurd r0 (by decide)
    · have e1 : (1 : Int32).toInt = 1 := by decide
      have er : (r + 1).toInt = r.toInt + 1 := by rw [Jvm.Kit.i32_add (by rw [e1]; omega) (by rw [e1]; omega), e1]
      have hb : barA ρ (rowE ρ f i) (r + 1) 0 = true := by
        unfold barA fBar
        have e2 : fLeft (ρ.2.1 2 (rowE ρ f i)) (ρ.2.1 4 (rowE ρ f i)) (ρ.2.1 7 (rowE ρ f i)) (ρ.2.1 8 (rowE ρ f i)) (ρ.2.1 0 0) = r := h1
        have e0 : (0 : Int32).toInt = 0 := by decide
        rw [e2, decide_eq_true (p := 0 < r + 1) (by rw [Int32.lt_iff_toInt_lt, er, e0]; omega), decide_eq_false (p := r = -1) (fun z => by rw [z] at r0; exact absurd r0 (by decide)), decide_eq_true (p := r < r + 1) (by rw [Int32.lt_iff_toInt_lt, er]; omega)]
        rfl
      obtain ⟨p, hp⟩ := firP_ex (g := fun i => barA ρ (rowE ρ f i) (r + 1) 0) (rowN ρ f) 0 i (Nat.zero_le _) (by omega) hb
      have hp9 := firP_some _ _ hp
      have h11 := rowN_le ρ f
      obtain ⟨-, b1, b2⟩ := wr_0 h hn hf hl
      refine ⟨-2 - nI p, ?_, ?_⟩
      · unfold lo_write
        rw [if_neg (by rw [hl]; decide), nI_clamp hf, if_neg (fun z => ?_)]
        · show lb2 ρ (firP (fun i => barA ρ (rowE ρ f i) (r + 1) 0) (rowN ρ f) 0) _ = _
          rw [hp]
          rfl
        · rcases z with z | z | z
          · rw [Int32.lt_iff_toInt_lt, er, show (-1000 : Int32).toInt = -1000 by decide] at z
            omega
          · rw [Int32.lt_iff_toInt_lt, er, show (1000 : Int32).toInt = 1000 by decide] at z
            omega
          · rw [Int32.lt_iff_toInt_lt, Jvm.Kit.i32_add (by rw [er]; omega) (by rw [er]; omega), er, show (0 : Int32).toInt = 0 by decide] at z
            omega
      · have e2 := nI_toInt (n := p) (by omega)
        have e3 : (-2 : Int32).toInt = -2 := by decide
        rw [Jvm.Kit.i32_sub (by rw [e3, e2]; omega) (by rw [e3, e2]; omega), e3, e2]
        omega
end RF
