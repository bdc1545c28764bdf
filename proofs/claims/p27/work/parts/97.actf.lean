/-! ===== act: what holds is kept; which files there are ===== -/
section AF
variable {n : Nat} {ρ ρ' S : gSt}
theorem acK_el {P : lRes → Prop} {v y : Nat} (b0 : P (lo_type ρ (nI (97 + y % 3)))) (b1 : P (lo_clearPath ρ)) (b2 : P (lo_back ρ)) (b3 : P (lo_makeProject ρ)) (b4 : P (lo_moveProject ρ (nI (y % ρ.1 10 3)))) (b5 : 12 ≤ v → v < 15 → P (lo_makeFile ρ (nI (y / 21 % 6)) (nI (y % ρ.1 10 3)))) (b6 : P (lo_write ρ (nI (y % 10)) (nI (y / 10 % 80) - nI 20))) (b7 : v = 19 → y % 3 = 0 → P (lo_delete ρ (nI (y / 3 % 10)))) (b8 : P (lo_moveFile ρ (nI (y / 21 % 10)) (nI (y % ρ.1 10 3)))) (b9 : P (lo_reserve ρ (nI (y % 10)) (nI (y / 10 % 50)))) (b10 : P (lo_settle ρ (nI (y % 6)) (nI (y / 6 % 20)))) (b11 : P (lo_setLimits ρ (nI (y % 3)) (nI (acNr ρ y)) (acSl y) (acHl y) (acFl y))) (b12 : P (lo_pass ρ (nI (1 + y % 40)))) (b13 : P (lo_beginRecount ρ)) (b14 : P (lo_recount ρ (nI (1 + y % 4)))) : P (acK ρ v y) := by
  unfold acK
  by_cases h0 : v < 4
  · rw [if_pos h0]
    exact b0
  rw [if_neg h0]
  by_cases h1 : v < 5
  · rw [if_pos h1]
    by_cases h : y % 3 = 0
    · rw [if_pos h]
      exact b1
    · rw [if_neg h]
      exact b2
  rw [if_neg h1]
  by_cases h2 : v < 9
  · rw [if_pos h2]
    exact b3
  rw [if_neg h2]
  by_cases h3 : v < 12
  · rw [if_pos h3]
    exact b4
  rw [if_neg h3]
  by_cases h4 : v < 15
  · rw [if_pos h4]
    exact b5 (by omega) h4
  rw [if_neg h4]
  by_cases h5 : v < 19
  · rw [if_pos h5]
    exact b6
  rw [if_neg h5]
  by_cases h6 : v < 20
  · rw [if_pos h6]
    by_cases h : y % 3 = 0
    · rw [if_pos h]
      exact b7 (by omega) h
    · rw [if_neg h]
      exact b8
  rw [if_neg h6]
  by_cases h7 : v < 22
  · rw [if_pos h7]
    exact b9
  rw [if_neg h7]
  by_cases h8 : v < 24
  · rw [if_pos h8]
    exact b10
  rw [if_neg h8]
  by_cases h9 : v < 26
  · rw [if_pos h9]
    exact b11
  rw [if_neg h9]
  by_cases h10 : v < 28
  · rw [if_pos h10]
    exact b12
  rw [if_neg h10]
  by_cases h11 : v < 29
  · rw [if_pos h11]
    exact b13
  rw [if_neg h11]
  exact b14
theorem iv_acK (h : Iv n ρ) (hn : n ≤ 600) (v y : Nat) : Iv (n + 1) (nx ρ (acK ρ v y)) :=
  acK_el (P := fun L => Iv (n + 1) (nx ρ L)) (iv_type h _) (iv_clearPath h) (iv_back h) (iv_makeProject h) (iv_moveProject h _) (fun _ _ => iv_makeFile h hn _ _) (iv_write h hn _ _) (fun _ _ => iv_delete h hn _) (iv_moveFile h _ _) (iv_reserve h hn _ _) (iv_settle h hn _ _) (iv_setLimits h _ _ _ _ _) (iv_pass h _) (iv_beginRecount h) (iv_recount h _)
theorem iv_act (h : Iv n ρ) (hn : n ≤ 600) (x : Nat) : Iv (n + 1) (nx ρ (acL ρ x)) := iv_acK h hn _ _
/-- the files are the same -/
def lvS (ρ ρ' : gSt) : Prop := ρ'.1 10 4 = ρ.1 10 4 ∧ ∀ f, ρ'.2.2 8 f = ρ.2.2 8 f
theorem lvS.rf : lvS ρ ρ := ⟨rfl, fun _ => rfl⟩
theorem kB.lvS (h : kB ρ ρ') : lvS ρ ρ' := ⟨h.1.2.2, h.2.2⟩
theorem nx_lv {L : lRes} (h : lvS ρ L.2.2) : lvS ρ (nx ρ L) := by
  unfold nx
  split
  · exact h
  · exact lvS.rf
theorem lv_type (c : Int32) : lvS ρ (nx ρ (lo_type ρ c)) := nx_lv (by
  unfold lo_type
  split
  · exact lvS.rf
  · split
    · exact lvS.rf
    · refine ⟨?_, fun _ => rfl⟩
      show up2 (up2 ρ.1 1 (ρ.1 0 0) c.toNatClampNeg) 0 0 (ρ.1 0 0 + 1) 10 4 = _
      rw [up2_ne _ _ (Or.inl (by decide)), up2_ne _ _ (Or.inl (by decide))])
theorem lv_cut (k : Nat) : lvS ρ (sN ρ 0 0 k) := ⟨up2_ne (c := 0) (i := 0) (c' := 10) (i' := 4) ρ.1 k (Or.inl (by decide)), fun _ => rfl⟩
theorem lv_back : lvS ρ (nx ρ (lo_back ρ)) := nx_lv (by
  unfold lo_back
  split
  · exact lvS.rf
  · exact lv_cut _)
theorem lv_clear : lvS ρ (nx ρ (lo_clearPath ρ)) := nx_lv (lv_cut _)
theorem lv_makeProject : lvS ρ (nx ρ (lo_makeProject ρ)) := nx_lv (by
  unfold lo_makeProject
  split
  · exact lvS.rf
  · split
    · exact lvS.rf
    · split
      · exact lvS.rf
      · refine ⟨?_, fun _ => rfl⟩
        rename_i q _ _
        show up2 (mkP ρ q (ρ.1 1 (ρ.1 0 0 - 1))).1 10 3 (ρ.1 10 3 + 1) 10 4 = _
        rw [up2_ne _ _ (Or.inr (by decide)), mkP_c ρ q _ (by decide) (by decide) (by decide)])
theorem lv_acK {v y : Nat} (h1 : ¬ (12 ≤ v ∧ v ≤ 14)) (h2 : ¬ (v = 19 ∧ y % 3 = 0)) : lvS ρ (nx ρ (acK ρ v y)) :=
  acK_el (P := fun L => lvS ρ (nx ρ L)) (lv_type _) lv_clear lv_back lv_makeProject (k_move _).lvS (fun z1 z2 => absurd (⟨z1, by omega⟩ : 12 ≤ v ∧ v ≤ 14) h1) (k_write _ _).lvS (fun z1 z2 => absurd (⟨z1, z2⟩ : v = 19 ∧ y % 3 = 0) h2) (k_moveFile _ _).lvS (k_reserve _ _).lvS (k_settle _ _).lvS (k_setLimits _ _ _ _ _).lvS (k_pass _).lvS (nx_lv k_begin.lvS) (k_recount _).lvS
theorem lvS.live (h : lvS ρ ρ') (x : Int32) : lvf ρ' x = lvf ρ x := by
  unfold lvf
  rw [h.1, h.2]
/-- the law's row of files, and how many -/
def Lm (ρ : gSt) (m : Nat → Int32) (c : Nat) : Prop := Lv ρ m ∧ c = ρ.1 10 4
def up1 (m : Nat → Int32) (i : Nat) (v : Int32) : Nat → Int32 := fun j => if j = i then v else m j
theorem lf_at {f : Nat} (hf : f < 2 ^ 31) (hc : ρ.1 10 4 < 2 ^ 31) : lvf ρ (nI f) = (decide (f < ρ.1 10 4) && !ρ.2.2 8 f) := by
  unfold lvf
  rw [nI_clamp hf]
  by_cases z : f < ρ.1 10 4
  · rw [inR_ok z hc, decide_eq_true z]
  · rw [inR_big (by omega) hf, decide_eq_false z]
theorem Lm.same {m : Nat → Int32} {c : Nat} (h : Lm ρ m c) (hs : lvS ρ ρ') : Lm ρ' m c := ⟨fun f hf => by rw [hs.live]; exact h.1 f hf, h.2.trans hs.1.symm⟩
/-- the place 39, where nothing is made -/
theorem Lm.p39 {m : Nat → Int32} {c : Nat} (h : Lm ρ m c) : Lm ρ (up1 m 39 (if 39 < c then m 39 else 0)) c := by
  refine ⟨fun f hf => ?_, h.2⟩
  unfold up1
  by_cases z : f = 39
  · rw [if_pos z, z]
    by_cases y : 39 < c
    · rw [if_pos y]
      exact h.1 39 (by decide)
    · rw [if_neg y]
      refine Or.inr ⟨rfl, ?_⟩
      have h2 := h.2
      rw [lf_at (by decide) (by omega), decide_eq_false (by omega)]
      rfl
  · rw [if_neg z]
    exact h.1 f hf
theorem cSn : ¬ (0 : Int32) ≤ cS := by decide
theorem cIn : ¬ (0 : Int32) ≤ cI := by decide
/-- makeFile by act -/
theorem mk_act (h : Iv n ρ) {v y : Nat} (hv : 12 ≤ v ∧ v ≤ 14) : (¬ 0 ≤ wR (acK ρ v y) ∧ nx ρ (acK ρ v y) = ρ) ∨ (wR (acK ρ v y) = nI (ρ.1 10 4) ∧ ρ.1 10 4 < 40 ∧ (nx ρ (acK ρ v y)).1 10 4 = ρ.1 10 4 + 1 ∧ ∀ f, (nx ρ (acK ρ v y)).2.2 8 f = if f = ρ.1 10 4 then false else ρ.2.2 8 f) := by
  have w2 := h.w.1.2.1
  have e : acK ρ v y = lo_makeFile ρ (nI (y / 21 % 6)) (nI (y % ρ.1 10 3)) := by
    unfold acK
    rw [if_neg (by omega), if_neg (by omega), if_neg (by omega), if_neg (by omega), if_pos (by omega)]
  rw [e]
  have i1 : inR (nI (y / 21 % 6)) 6 = true := inR_ok (by omega) (by decide)
  have i2 : inR (nI (y % ρ.1 10 3)) (ρ.1 10 3) = true := inR_ok (Nat.mod_lt _ (by omega)) (by omega)
  unfold lo_makeFile
  rw [if_neg (by rw [i1, i2]; decide)]
  by_cases h40 : 40 ≤ ρ.1 10 4
  · rw [if_pos h40]
    left
    rw [wR_S rfl, nx_no eS_n]
    exact ⟨cSn, rfl⟩
  · rw [if_neg h40]
    generalize hb : bpl (mkF ρ (nI (y / 21 % 6)).toNatClampNeg (nI (y % ρ.1 10 3)).toNatClampNeg) (ρ.1 10 4) 0 1 = o
    cases o with
    | some p =>
      left
      have hp := firP_some _ _ hb
      have h11 := rowN_le (mkF ρ (nI (y / 21 % 6)).toNatClampNeg (nI (y % ρ.1 10 3)).toNatClampNeg) (ρ.1 10 4)
      rw [wR_ok lb2_fst, nx_ok lb2_fst]
      refine ⟨?_, rfl⟩
      show ¬ 0 ≤ (-2 - nI p : Int32)
      have e2 := nI_toInt (n := p) (by omega)
      have e3 : (-2 : Int32).toInt = -2 := by decide
      rw [Int32.le_iff_toInt_le, Jvm.Kit.i32_sub (by rw [e3, e2]; omega) (by rw [e3, e2]; omega), e3, e2, show (0 : Int32).toInt = 0 by decide]
      omega
    | none =>
      right
      rw [wR_ok lb2_fst, nx_ok lb2_fst]
      obtain ⟨g1, g2⟩ := mf_s (ρ := ρ) (nI (y / 21 % 6)).toNatClampNeg (nI (y % ρ.1 10 3)).toNatClampNeg
      exact ⟨rfl, by omega, g1, g2⟩
/-- delete by act -/
theorem dl_act (h : Iv n ρ) (hn : n ≤ 600) {y : Nat} (hy : y % 3 = 0) : (¬ 0 ≤ wR (acK ρ 19 y) ∧ nx ρ (acK ρ 19 y) = ρ) ∨ (0 ≤ wR (acK ρ 19 y) ∧ (nx ρ (acK ρ 19 y)).1 10 4 = ρ.1 10 4 ∧ ∀ f, (nx ρ (acK ρ 19 y)).2.2 8 f = if f = y / 3 % 10 then true else ρ.2.2 8 f) := by
  have hw := h.w
  have e : acK ρ 19 y = lo_delete ρ (nI (y / 3 % 10)) := by
    unfold acK
    rw [if_neg (by omega), if_neg (by omega), if_neg (by omega), if_neg (by omega), if_neg (by omega), if_neg (by omega), if_pos (by omega), if_pos hy]
  rw [e]
  obtain ⟨⟨S, hR, -⟩, -⟩ := h
  by_cases z : lvf ρ (nI (y / 3 % 10)) = false
  · left
    rw [rf_dl z, wR_I rfl, nx_no eI_n]
    exact ⟨cIn, rfl⟩
  · right
    obtain ⟨h1, -⟩ := lv_in hw.1 (by omega) (Bool.not_eq_false _ ▸ z)
    have e2 : lo_delete ρ (nI (y / 3 % 10)) = ("", bub ρ (nI (y / 3 % 10)).toNatClampNeg (ρ.1 10 5), ntS (dlL ρ (nI (y / 3 % 10)).toNatClampNeg)) := if_neg z
    rw [nI_clamp (by omega)] at e2
    rw [e2, wR_ok rfl, nx_ok rfl]
    have hb := bub_v hn hR h1
    refine ⟨?_, by rw [dl_1], fun f => dl_8 _ f⟩
    rw [Int32.le_iff_toInt_le, show (0 : Int32).toInt = 0 by decide]
    exact hb.1
/-- the row of files behind an act -/
def mdB (v : Nat) (w : Int32) : Bool := decide (12 ≤ v ∧ v ≤ 14) && decide (0 ≤ w)
def m1F (m : Nat → Int32) (c v : Nat) (w : Int32) : Nat → Int32 := if mdB v w = true then up1 m c 1 else up1 m 39 (if 39 < c then m 39 else 0)
def c1F (c v : Nat) (w : Int32) : Nat := if mdB v w = true then c + 1 else c
def m2F (m : Nat → Int32) (c v y : Nat) (w : Int32) : Nat → Int32 := if (v = 19 ∧ y % 3 = 0) ∧ 0 ≤ w then up1 (m1F m c v w) (y / 3 % 10) 0 else m1F m c v w
theorem m1_t {m : Nat → Int32} {c v : Nat} {w : Int32} (h : mdB v w = true) : m1F m c v w = up1 m c 1 ∧ c1F c v w = c + 1 := ⟨if_pos h, if_pos h⟩
theorem m1_f {m : Nat → Int32} {c v : Nat} {w : Int32} (h : mdB v w = false) : m1F m c v w = up1 m 39 (if 39 < c then m 39 else 0) ∧ c1F c v w = c := ⟨if_neg (by rw [h]; decide), if_neg (by rw [h]; decide)⟩
theorem Lm_act (h : Iv n ρ) (hn : n ≤ 600) {m : Nat → Int32} {c v y : Nat} (hm : Lm ρ m c) : Lm (nx ρ (acK ρ v y)) (m2F m c v y (wR (acK ρ v y))) (c1F c v (wR (acK ρ v y))) ∧ (mdB v (wR (acK ρ v y)) = true → c < 40) := by
  have hw := h.w
  have w3 := hw.1.2.2.1
  have hc := hm.2
  by_cases hv : 12 ≤ v ∧ v ≤ 14
  · have hm2 : m2F m c v y (wR (acK ρ v y)) = m1F m c v (wR (acK ρ v y)) := if_neg (fun z => by omega)
    rw [hm2]
    rcases mk_act h (y := y) hv with ⟨g1, g2⟩ | ⟨g1, g2, g3, g4⟩
    · have hb : mdB v (wR (acK ρ v y)) = false := by rw [mdB, decide_eq_false g1, Bool.and_false]
      rw [(m1_f (m := m) hb).1, (m1_f (m := m) hb).2, hb, g2]
      exact ⟨hm.p39, fun z => absurd z (by decide)⟩
    · have hb : mdB v (wR (acK ρ v y)) = true := by rw [mdB, decide_eq_true hv, g1, decide_eq_true (nI_pos' (by omega))]; rfl
      rw [(m1_t (m := m) hb).1, (m1_t (m := m) hb).2]
      refine ⟨⟨fun f hf => ?_, by rw [g3, hc]⟩, fun _ => by omega⟩
      rw [lf_at (by omega) (by omega), g3, g4]
      have h0 := hm.1 f hf
      rw [lf_at (by omega) (by omega)] at h0
      unfold up1
      by_cases z : f = c
      · rw [if_pos z, if_pos (z.trans hc), decide_eq_true (by omega)]
        exact Or.inl ⟨rfl, rfl⟩
      · rw [if_neg z, if_neg (fun y => z (y.trans hc.symm))]
        by_cases y : f < ρ.1 10 4
        · rw [decide_eq_true (by omega)]
          rw [decide_eq_true y] at h0
          exact h0
        · rw [decide_eq_false (by omega)]
          rw [decide_eq_false y] at h0
          exact h0
  · have hb : ∀ w, mdB v w = false := fun w => by rw [mdB, decide_eq_false hv, Bool.false_and]
    unfold m2F
    rw [(m1_f (m := m) (hb _)).1, (m1_f (m := m) (hb _)).2, hb]
    refine ⟨?_, fun z => absurd z (by decide)⟩
    by_cases h19 : v = 19 ∧ y % 3 = 0
    · obtain ⟨rfl, hy⟩ := h19
      rcases dl_act h hn hy with ⟨g1, g2⟩ | ⟨g1, g2, g3⟩
      · rw [if_neg (fun z => g1 z.2), g2]
        exact hm.p39
      · rw [if_pos ⟨⟨rfl, hy⟩, g1⟩]
        have hp := hm.p39
        refine ⟨fun f hf => ?_, hc.trans g2.symm⟩
        rw [lf_at (by omega) (by omega), g2, g3]
        have h0 := hp.1 f hf
        rw [lf_at (by omega) (by omega)] at h0
        generalize up1 m 39 (if 39 < c then m 39 else 0) = m1 at h0
        unfold up1
        by_cases z : f = y / 3 % 10
        · rw [if_pos z, if_pos z, Bool.not_true, Bool.and_false]
          exact Or.inr ⟨rfl, rfl⟩
        · rw [if_neg z, if_neg z]
          exact h0
    · rw [if_neg (fun z => h19 z.1)]
      exact hm.p39.same (lv_acK hv h19)
end AF
