/-! ===== the two sides: rows, bars, what is left ===== -/
def Ra (ρ S : gSt) (a : Nat) : Prop := (S.2.1 12 a = ρ.2.1 1 a ∧ S.2.1 13 a = ρ.2.1 2 a ∧ S.2.1 14 a = ρ.2.1 3 a) ∧ -1 ≤ (ρ.2.1 2 a).toInt ∧ ((S.2.1 15 a = -1 ∧ ρ.2.1 7 a = 0) ∨ (ρ.2.1 7 a = 1 ∧ S.2.1 15 a = ρ.2.1 8 a ∧ 0 ≤ (ρ.2.1 8 a).toInt ∧ (ρ.2.1 8 a).toInt ≤ (ρ.2.1 0 0).toInt))
def Rc (ρ S : gSt) : Prop := S.2.1 0 0 = ρ.2.1 0 0 ∧ 0 ≤ (ρ.2.1 0 0).toInt ∧ (ρ.2.1 0 0).toInt ≤ 100000
theorem iMax_0 (v : Int32) : iMax 0 v = 0 ↔ ¬ 0 < v := by
  unfold iMax
  by_cases h : 0 < v
  · rw [if_pos h]
    exact ⟨fun e => by rw [e] at h; exact absurd h (by decide), fun z => absurd h z⟩
  · rw [if_neg h]
    exact ⟨fun _ => h, fun _ => rfl⟩
theorem m1_ne {x : Int32} (h : 0 ≤ x.toInt) : ¬ x = -1 := fun e => by
  rw [e] at h
  exact absurd h (by decide)
section RA2
variable {ρ S : gSt}
theorem gr_v {w c : Int32} (h1 : 0 ≤ w.toInt) (h2 : w.toInt ≤ c.toInt) (h3 : c.toInt ≤ 100000) : (c - w).toInt = c.toInt - w.toInt ∧ (48 - (c - w)).toInt = 48 - (c.toInt - w.toInt) ∧ (48 - c + w).toInt = 48 - (c.toInt - w.toInt) := by
  have e1 : (c - w).toInt = c.toInt - w.toInt := Jvm.Kit.i32_sub (by omega) (by omega)
  have e48 : (48 : Int32).toInt = 48 := by decide
  have e2 : (48 - (c - w)).toInt = 48 - (c.toInt - w.toInt) := by rw [Jvm.Kit.i32_sub (by rw [e1, e48]; omega) (by rw [e1, e48]; omega), e1, e48]
  have e3 : (48 - c).toInt = 48 - c.toInt := by rw [Jvm.Kit.i32_sub (by rw [e48]; omega) (by rw [e48]; omega), e48]
  refine ⟨e1, e2, ?_⟩
  rw [Jvm.Kit.i32_add (by rw [e3]; omega) (by rw [e3]; omega), e3]
  omega
theorem gg_eq {a : Nat} (hA : Ra ρ S a) (hC : Rc ρ S) : fGrace (ρ.2.1 7 a) (ρ.2.1 8 a) (ρ.2.1 0 0) = grA S a ∧ (fGrace (ρ.2.1 7 a) (ρ.2.1 8 a) (ρ.2.1 0 0) = 0 ↔ ggn S a = true) := by
  obtain ⟨c1, c2, c3⟩ := hC
  obtain ⟨-, -, h | ⟨h1, h2, h3, h4⟩⟩ := hA
  · unfold fGrace grA ggn
    rw [h.1, h.2, if_pos rfl, if_pos rfl]
    exact ⟨rfl, fun e => absurd e (by decide), fun e => by simp at e⟩
  · obtain ⟨e1, e2, e3⟩ := gr_v h3 h4 c3
    have hne := m1_ne h3
    unfold fGrace grA ggn
    rw [h1, h2, c1, if_neg (by decide), if_neg hne, decide_eq_false hne]
    have e48 : (48 : Int32).toInt = 48 := by decide
    have e0 : (0 : Int32).toInt = 0 := by decide
    have key : (48 ≤ ρ.2.1 0 0 - ρ.2.1 8 a) ↔ ¬ 0 < 48 - (ρ.2.1 0 0 - ρ.2.1 8 a) := by
      rw [Int32.le_iff_toInt_le, Int32.lt_iff_toInt_lt, e1, e2, e48, e0]
      omega
    by_cases z : 48 ≤ ρ.2.1 0 0 - ρ.2.1 8 a
    · have hz := (iMax_0 _).mpr (key.mp z)
      rw [hz, decide_eq_true z]
      exact ⟨rfl, by decide⟩
    · have hp : 0 < 48 - (ρ.2.1 0 0 - ρ.2.1 8 a) := Classical.byContradiction (fun y => z (key.mpr y))
      rw [decide_eq_false z]
      have ev : 48 - (ρ.2.1 0 0 - ρ.2.1 8 a) = 48 - ρ.2.1 0 0 + ρ.2.1 8 a := Int32.toInt_inj.mp (e2.trans e3.symm)
      unfold iMax
      rw [if_pos hp]
      refine ⟨ev, fun y => ?_, fun y => (by cases y)⟩
      rw [y] at hp
      exact absurd hp (by decide)
theorem lf_eq {a : Nat} (hA : Ra ρ S a) (hC : Rc ρ S) (hU : ρ.2.1 4 a = sumA S a (S.1 0 3)) : lfA ρ a = lfM S a := by
  have hg := (gg_eq hA hC).2
  unfold lfA fLeft lfM lfO
  rw [hA.1.2.1, ← hU]
  by_cases z : ggn S a = true
  · rw [if_pos (hg.mpr z), if_pos (Or.inl z)]
  · rw [if_neg (fun y => z (hg.mp y))]
    by_cases y : ρ.2.1 2 a = -1
    · rw [if_pos y, if_pos y, if_neg (fun w => w.elim z (fun v => v.1 y))]
    · rw [if_neg y, if_neg y]
      unfold iMax
      by_cases v : ρ.2.1 2 a - ρ.2.1 4 a < 0
      · rw [if_pos (Or.inr ⟨y, v⟩), if_neg (fun w => ?_)]
        rw [Int32.lt_iff_toInt_lt] at v w
        omega
      · have hn : ¬ (ggn S a = true ∨ ¬ρ.2.1 2 a = -1 ∧ ρ.2.1 2 a - ρ.2.1 4 a < 0) := fun w => w.elim z (fun u => v u.2)
        rw [if_neg hn]
        by_cases w : 0 < ρ.2.1 2 a - ρ.2.1 4 a
        · rw [if_pos w]
        · rw [if_neg w]
          refine (Int32.toInt_inj.mp ?_)
          rw [Int32.lt_iff_toInt_lt] at v w
          have e0 : (0 : Int32).toInt = 0 := by decide
          omega
theorem bar_eq {a : Nat} {mb mr : Int32} (hA : Ra ρ S a) (hC : Rc ρ S) (hU : ρ.2.1 4 a = sumA S a (S.1 0 3)) (h0 : 0 ≤ (ρ.2.1 4 a).toInt) (hF : ρ.2.1 5 a = nI (cntF S a (S.1 0 3))) : barA ρ a mb mr = (brH S mb a || brF S mr a) := by
  have hg := (gg_eq hA hC).2
  have hh := hA.2.1
  have e0 : (0 : Int32).toInt = 0 := by decide
  unfold barA fBar brH brF
  rw [hA.1.2.1, hA.1.2.2, ← hU, ← hF]
  congr 1
  · by_cases b : 0 < mb
    · rw [decide_eq_true b, Bool.true_and, Bool.true_and]
      unfold fLeft
      by_cases z : ggn S a = true
      · rw [if_pos (hg.mpr z), z, decide_eq_true b, decide_eq_false (by decide : ¬ (0 : Int32) = -1), Bool.true_or, Bool.not_false, Bool.true_and]
      · rw [if_neg (fun y => z (hg.mp y)), Bool.eq_false_iff.mpr z, Bool.false_or]
        by_cases y : ρ.2.1 2 a = -1
        · rw [if_pos y, decide_eq_true y, decide_eq_true (rfl : (-1 : Int32) = -1), Bool.not_true, Bool.false_and, Bool.false_and]
        · rw [if_neg y, decide_eq_false y]
          have hu := Int32.toInt_lt (ρ.2.1 4 a)
          have hl := Int32.toInt_lt (ρ.2.1 2 a)
          have es : (ρ.2.1 2 a - ρ.2.1 4 a).toInt = (ρ.2.1 2 a).toInt - (ρ.2.1 4 a).toInt := Jvm.Kit.i32_sub (by omega) (by omega)
          have k1 : decide (iMax 0 (ρ.2.1 2 a - ρ.2.1 4 a) = -1) = false := by
            refine decide_eq_false (fun e => ?_)
            unfold iMax at e
            by_cases w : 0 < ρ.2.1 2 a - ρ.2.1 4 a
            · rw [if_pos w] at e
              rw [e] at w
              exact absurd w (by decide)
            · rw [if_neg w] at e
              exact absurd e (by decide)
          rw [k1, Bool.not_false, Bool.true_and, Bool.true_and, decide_eq_decide, lg_cmp_gt, Int64.lt_iff_toInt_lt, lg_i2l_add, Int32.toInt_toInt64]
          have b' := Int32.lt_iff_toInt_lt.mp b
          unfold iMax
          by_cases w : 0 < ρ.2.1 2 a - ρ.2.1 4 a
          · rw [if_pos w, Int32.lt_iff_toInt_lt, es]
            omega
          · rw [if_neg w, Int32.lt_iff_toInt_lt]
            rw [Int32.lt_iff_toInt_lt, es] at w
            omega
    · rw [decide_eq_false b, Bool.false_and, Bool.false_and, Bool.false_and]
  · rw [Bool.and_assoc]
theorem askO_up (hW : RW ρ) (hE : RE ρ) (hT : Tr ρ) (hS : Rt ρ S) {p j : Nat} (hp : p < ρ.1 10 3) (hj : 2 ≤ j) : askO S p j (npj S) = (upn ρ p (j - 2)).map (fun k => 9 + k) := by
  have key : ∀ k, k < ρ.1 10 3 → (askf S p j k = true ↔ upn ρ p (j - 2) = some k) := fun k hk => by
    unfold askf
    rw [Bool.and_eq_true, decide_eq_true_eq, (hS.2 k hk).1, (hS.2 p hp).1, wIn_wi hW hE hT hS hp hk, wi_iff (np_9 hW hE hp)]
    constructor
    · rintro ⟨h1, i, hi⟩
      have hd := (dep_up (np_9 hW hE hp) hi).2
      rw [show j - 2 = i by omega]
      exact hi
    · intro h
      have hd := (dep_up (np_9 hW hE hp) h).2
      exact ⟨by omega, _, h⟩
  unfold askO
  congr 1
  rw [show npj S = ρ.1 10 3 from hS.1]
  refine opt_ext (fun r => ?_)
  rw [lastP_iff _ (fun x y hx hy h1 h2 => ?_)]
  · refine ⟨fun ⟨h1, h2⟩ => (key r h1).mp h2, fun h => ?_⟩
    have := upn_np hW hE hp h
    exact ⟨this, (key r this).mpr h⟩
  · have := ((key x h1).mp hx).symm.trans ((key y h2).mp hy)
    exact Option.some.inj this
/-- the row of a file of owner o in project p -/
theorem askd_row (hW : RW ρ) (hE : RE ρ) (hT : Tr ρ) (hS : Rt ρ S) {ρ' : gSt} (h3 : ∀ q, ρ'.1 3 q = ρ.1 3 q) {f o p : Nat} (h4 : ρ'.1 4 f = o) (h5 : ρ'.1 5 f = 6 + o % 3) (h6 : ρ'.1 6 f = p) (hp : p < ρ.1 10 3) (j : Nat) : askd S o p j = if j < rowN ρ' f then some (rowE ρ' f j) else none := by
  have eu : ∀ k, upn ρ' p k = upn ρ p k := upn_c h3 p
  have eh : hgt ρ' p = dep ρ p + 1 := by
    rw [hgt_dep (by rw [eu]; exact np_9 hW hE hp)]
    congr 1
    have e9 : ∀ d k, dpu ρ' p d k = dpu ρ p d k := by
      intro d
      induction d with
      | zero => intro k; rfl
      | succ d ih =>
        intro k
        unfold dpu
        rw [eu]
        cases upn ρ p (k + 1) with
        | none => rfl
        | some x => exact ih (k + 1)
    exact e9 9 0
  have en : rowN ρ' f = dep ρ p + 3 := by
    unfold rowN
    rw [h6, eh]
    omega
  unfold askd
  rw [en]
  unfold rowE
  rw [h4, h5, h6, eu]
  by_cases z : j = 0
  · rw [if_pos z, if_pos (by omega), if_pos z]
  · rw [if_neg z, if_neg z]
    by_cases y : j = 1
    · rw [if_pos y, if_pos (by omega), if_pos y]
    · rw [if_neg y, if_neg y, askO_up hW hE hT hS hp (by omega)]
      by_cases w : j < dep ρ p + 3
      · rw [if_pos w]
        obtain ⟨q, hq⟩ := dep_some ρ p (j - 2) (by omega)
        rw [hq]
        rfl
      · rw [if_neg w, upn_n ρ p (dep_top (np_9 hW hE hp)) _ (by omega)]
        rfl
theorem brr_fir {o p N : Nat} {b mr : Int32} {E : Nat → Nat} {g : Nat → Bool} (hN : N ≤ 11) (hr : ∀ j, askd S o p j = if j < N then some (E j) else none) (hg : ∀ j, j < N → g j = (brH S b (E j) || brF S mr (E j))) : brr S o p b mr 12 0 = firP g N 0 := by
  have key : ∀ d j, j ≤ N → N < j + d → brr S o p b mr d j = firP g (N - j) j := by
    intro d
    induction d with
    | zero => intro j h1 h2; omega
    | succ d ih =>
      intro j h1 h2
      unfold brr
      rw [hr]
      by_cases z : j < N
      · rw [if_pos z, show N - j = (N - (j + 1)) + 1 by omega, firP, hg j z]
        show (if (brH S b (E j) || brF S mr (E j)) = true then some j else brr S o p b mr d (j + 1)) = _
        rw [ih (j + 1) (by omega) (by omega)]
      · rw [if_neg z, show N - j = 0 by omega]
        rfl
  exact key 12 0 (Nat.zero_le _) (by omega)
theorem rmM_fir {o p N : Nat} {E : Nat → Nat} {R : Nat → Int32} (hN : N ≤ 11) (hr : ∀ j, askd S o p j = if j < N then some (E j) else none) (hR : ∀ j, j < N → R (j + 1) = rmU (R j) (lfM S (E j))) : rmM S o p 12 0 (R 0) = R N := by
  have key : ∀ d j, j ≤ N → N < j + d → rmM S o p d j (R j) = R N := by
    intro d
    induction d with
    | zero => intro j h1 h2; omega
    | succ d ih =>
      intro j h1 h2
      unfold rmM
      rw [hr]
      by_cases z : j < N
      · rw [if_pos z]
        show rmM S o p d (j + 1) (rmU (R j) (lfM S (E j))) = _
        rw [← hR j z]
        exact ih (j + 1) (by omega) (by omega)
      · rw [if_neg z, show j = N by omega]
  exact key 12 0 (Nat.zero_le _) (by omega)
end RA2
