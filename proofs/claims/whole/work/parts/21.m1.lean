/-! ===== the model: small methods, paths ===== -/
def npj (S : gSt) : Nat := S.1 0 2
/-- the bounds of the counts -/
def SB (S : gSt) : Prop := S.1 0 1 ≤ 8 ∧ S.1 0 2 ≤ 21 ∧ S.1 0 3 ≤ 40 ∧ S.1 0 4 ≤ 30 ∧ S.1 0 6 ≤ S.1 0 3 ∧ (∀ p, p < S.1 0 2 → S.1 4 p ≤ 8) ∧ (∀ f, f < S.1 0 3 → S.1 5 f < 6 ∧ S.1 6 f < S.1 0 2) ∧ ∀ r, r < S.1 0 4 → S.1 9 r < S.1 0 3
def allB : Nat → (Nat → Bool) → Bool
  | 0, _ => true
  | k + 1, f => allB k f && f k
def lastP : Nat → (Nat → Bool) → Option Nat
  | 0, _ => none
  | k + 1, f => if f k = true then some k else lastP k f
/-- the letters of p's path begin with some of the buffer / of q's path -/
def bEq (S : gSt) (p n : Nat) : Bool := allB n (fun k => decide (S.2.1 3 (8 * p + k) = S.2.1 1 k))
def pEq (S : gSt) (p n : Nat) : Bool := decide (S.1 4 p = n) && bEq S p n
def lEq (S : gSt) (p q n : Nat) : Bool := allB n (fun k => decide (S.2.1 3 (8 * p + k) = S.2.1 3 (8 * q + k)))
def wIn (S : gSt) (p q : Nat) : Bool := decide (S.1 4 q ≤ S.1 4 p) && lEq S p q (S.1 4 q)
def fnd (S : gSt) (n : Nat) : Option Nat := lastP (npj S) (fun p => pEq S p n)
def chd (S : gSt) (q : Nat) (c : Int32) : Option Nat := lastP (npj S) (fun p => (decide (S.1 4 p = S.1 4 q + 1) && wIn S p q) && decide (S.2.1 3 (8 * p + S.1 4 q) = c))
def dpst (S : gSt) (q : Nat) : Nat → Nat
  | 0 => 0
  | k + 1 => if wIn S k q = true ∧ dpst S q k < S.1 4 k then S.1 4 k else dpst S q k
theorem bI_t : bI true = 1 := rfl
theorem bI_f : bI false = 0 := rfl
theorem bI_0 {b : Bool} : bI b = 0 ↔ b = false := by cases b <;> decide
theorem bI_n {b : Bool} : ¬ bI b = 0 ↔ b = true := by cases b <;> decide
theorem narrow_b (b : Bool) : narrow .boolean (.int (bI b)) = .int (bI b) := by cases b <;> rfl
theorem fits_b (b : Bool) : fits .boolean (.int (bI b)) = true := by cases b <;> rfl
set_option maxRecDepth 100000 in
set_option maxHeartbeats 4000000 in
theorem c_M_in (l : Launch) (hfl : l.stackTraces = false) (M : gMT) (σ : gS) (x lo hi : Int32) : Con l M yX5_in (.code yX5_in cX5_in 3 (Option.some FieldType.boolean)) 1 0 0 [.int x, .int lo, .int hi] σ (rI fun r σ2 => r = bI (decide (lo ≤ x) && decide (x ≤ hi)) ∧ σ2 = σ) (nX) := by
  refine g_con hfl (by decide) (lv := [(0, .int x), (1, .int lo), (2, .int hi)]) rfl rfl (Nat.le_of_ble_eq_true rfl) (fun X hX hC hR htb => ?_)
  refine g_iload_n (q := 1) (i := 0) hC dX5_in_0 rfl rfl rfl ?_
  refine g_iload_n (q := 2) (i := 1) hC dX5_in_1 rfl rfl rfl ?_
  refine g_icmp_lt (tgt := 14) (q := 5) hC dX5_in_2 (by decide) rfl (fun c_2 => ?_) (fun c_2 => ?_)
  · refine g_iconst (q := 15) (v := (0)) hC dX5_in_14 rfl rfl ?_
    have e : ¬ lo ≤ x := fun z => by
      rw [Int32.lt_iff_toInt_lt] at c_2
      rw [Int32.le_iff_toInt_le] at z
      omega
    exact g_zret hC hR (rfl) dX5_in_15 (by omega) (by omega) (⟨_, rfl, by rw [decide_eq_false e]; rfl, rfl⟩)
  · have e : lo ≤ x := by
      rw [Int32.lt_iff_toInt_lt] at c_2
      rw [Int32.le_iff_toInt_le]
      omega
    refine g_iload_n (q := 6) (i := 0) hC dX5_in_5 rfl rfl rfl ?_
    refine g_iload_n (q := 7) (i := 2) hC dX5_in_6 rfl rfl rfl ?_
    refine g_icmp_gt (tgt := 14) (q := 10) hC dX5_in_7 (by decide) rfl (fun c_7 => ?_) (fun c_7 => ?_)
    · refine g_iconst (q := 15) (v := (0)) hC dX5_in_14 rfl rfl ?_
      have e2 : ¬ x ≤ hi := fun z => by
        rw [Int32.lt_iff_toInt_lt] at c_7
        rw [Int32.le_iff_toInt_le] at z
        omega
      exact g_zret hC hR (rfl) dX5_in_15 (by omega) (by omega) (⟨_, rfl, by rw [decide_eq_true e, decide_eq_false e2]; rfl, rfl⟩)
    · refine g_iconst (q := 11) (v := (1)) hC dX5_in_10 rfl rfl ?_
      refine g_goto (tgt := 15) hC dX5_in_11 (by decide) ?_
      have e2 : x ≤ hi := by
        rw [Int32.lt_iff_toInt_lt] at c_7
        rw [Int32.le_iff_toInt_le]
        omega
      exact g_zret hC hR (rfl) dX5_in_15 (by omega) (by omega) (⟨_, rfl, by rw [decide_eq_true e, decide_eq_true e2]; rfl, rfl⟩)
set_option maxRecDepth 100000 in
set_option maxHeartbeats 4000000 in
theorem c_M_refused (l : Launch) (hfl : l.stackTraces = false) (M : gMT) (σ : gS) (φ : gS) (m : Nat) (ad : Nat → Nat) (rf w : Int32) (S : gSt) (hM : Mod M φ σ m ad rf S) : Con l M yX5_refused (.code yX5_refused cX5_refused 2 (Option.some FieldType.boolean)) 1 0 0 [.ref m, .int w] σ (rI fun r σ2 => r = (if w = 0 then 0 else 1) ∧ Mod M φ σ2 m ad w S) (nX) := by
  refine g_con hfl (by decide) (lv := [(0, .ref m), (1, .int w)]) rfl rfl (Nat.le_of_ble_eq_true rfl) (fun X hX hC hR htb => ?_)
  refine g_aload_n (q := 1) (i := 0) hC dX5_refused_0 rfl rfl rfl ?_
  refine g_iload_n (q := 2) (i := 1) hC dX5_refused_1 rfl rfl rfl ?_
  refine g_putf (q := 5) hC kf_X5_61 dX5_refused_2 hM.1 (Nat.le_of_ble_eq_true rfl) rfl rfl rfl ?_
  refine g_iload_n (q := 6) (i := 1) hC dX5_refused_5 rfl rfl rfl ?_
  refine g_if_eq (tgt := 13) (q := 9) hC dX5_refused_6 (by decide) rfl (fun c_6 => ?_) (fun c_6 => ?_)
  · refine g_iconst (q := 14) (v := (0)) hC dX5_refused_13 rfl rfl ?_
    exact g_zret hC hR (rfl) dX5_refused_14 (by omega) (by omega) (⟨_, rfl, by rw [if_pos c_6], hM.s0 w⟩)
  · refine g_iconst (q := 10) (v := (1)) hC dX5_refused_9 rfl rfl ?_
    refine g_goto (tgt := 14) hC dX5_refused_10 (by decide) ?_
    exact g_zret hC hR (rfl) dX5_refused_14 (by omega) (by omega) (⟨_, rfl, by rw [if_neg c_6], hM.s0 w⟩)
set_option maxRecDepth 100000 in
set_option maxHeartbeats 4000000 in
theorem c_M_fine (l : Launch) (hfl : l.stackTraces = false) (M : gMT) (σ : gS) (φ : gS) (m : Nat) (ad : Nat → Nat) (rf w : Int32) (S : gSt) (hM : Mod M φ σ m ad rf S) : Con l M yX5_fine (.code yX5_fine cX5_fine 2 (Option.some FieldType.int)) 1 0 0 [.ref m, .int w] σ (rI fun r σ2 => r = w ∧ Mod M φ σ2 m ad 0 S) (nX) := by
  refine g_con hfl (by decide) (lv := [(0, .ref m), (1, .int w)]) rfl rfl (Nat.le_of_ble_eq_true rfl) (fun X hX hC hR htb => ?_)
  refine g_aload_n (q := 1) (i := 0) hC dX5_fine_0 rfl rfl rfl ?_
  refine g_iconst (q := 2) (v := (0)) hC dX5_fine_1 rfl rfl ?_
  refine g_putf (q := 5) hC kf_X5_61 dX5_fine_2 hM.1 (Nat.le_of_ble_eq_true rfl) rfl rfl rfl ?_
  refine g_iload_n (q := 6) (i := 1) hC dX5_fine_5 rfl rfl rfl ?_
  exact g_iret hC hR dX5_fine_6 (by omega) (by omega) (⟨_, rfl, rfl, hM.s0 0⟩)
set_option maxRecDepth 100000 in
set_option maxHeartbeats 4000000 in
theorem c_M_thrown (l : Launch) (hfl : l.stackTraces = false) (M : gMT) (σ : gS) (φ : gS) (m : Nat) (ad : Nat → Nat) (rf : Int32) (S : gSt) (hM : Mod M φ σ m ad rf S) : Con l M yX5_thrown (.code yX5_thrown cX5_thrown 1 (Option.some FieldType.int)) 1 0 0 [.ref m] σ (rI fun r σ2 => r = rf ∧ σ2 = σ) (nX) := by
  refine g_con hfl (by decide) (lv := [(0, .ref m)]) rfl rfl (Nat.le_of_ble_eq_true rfl) (fun X hX hC hR htb => ?_)
  refine g_aload_n (q := 1) (i := 0) hC dX5_thrown_0 rfl rfl rfl ?_
  refine g_getf (q := 4) hC kg_X5_61 dX5_thrown_1 hM.1 rfl rfl ?_
  exact g_iret hC hR dX5_thrown_4 (by omega) (by omega) (⟨_, rfl, rfl, rfl⟩)
set_option maxRecDepth 100000 in
set_option maxHeartbeats 4000000 in
theorem c_M_isProject (l : Launch) (hfl : l.stackTraces = false) (M : gMT) (σ : gS) (φ : gS) (m : Nat) (ad : Nat → Nat) (rf x : Int32) (S : gSt) (hM : Mod M φ σ m ad rf S) : Con l M yX5_isProject (.code yX5_isProject cX5_isProject 2 (Option.some FieldType.boolean)) 2 0 0 [.ref m, .int x] σ (rI fun r σ2 => r = bI (decide (0 ≤ x) && decide (x ≤ nI (S.1 0 2) - 1)) ∧ σ2 = σ) (nX) := by
  refine g_con hfl (by decide) (lv := [(0, .ref m), (1, .int x)]) rfl rfl (Nat.le_of_ble_eq_true rfl) (fun X hX hC hR htb => ?_)
  refine g_iload_n (q := 1) (i := 1) hC dX5_isProject_0 rfl rfl rfl ?_
  refine g_iconst (q := 2) (v := (0)) hC dX5_isProject_1 rfl rfl ?_
  refine g_aload_n (q := 3) (i := 0) hC dX5_isProject_2 rfl rfl rfl ?_
  refine g_getf (q := 6) hC kg_X5_16 dX5_isProject_3 hM.1 rfl rfl ?_
  refine g_iconst (q := 7) (v := (1)) hC dX5_isProject_6 rfl rfl ?_
  refine g_isub (q := 8) hC dX5_isProject_7 rfl rfl ?_
  refine g_ci (q := 11) (g_runS hC ks_X5_78 md_X5_in (c_M_in _ hC.fl M _ x 0 _) dX5_isProject_8 (by decide) (by decide) (by omega) (by omega) rfl rfl (Nat.le_of_ble_eq_true rfl)) rfl (fun r σ ⟨e1, e2⟩ => ?_) (fun _ _ h9 => False.elim h9)
  subst e1 e2
  exact g_zret hC hR (narrow_b _) dX5_isProject_11 (by omega) (by omega) (⟨_, rfl, rfl, rfl⟩)
theorem allB_f {n k : Nat} {f : Nat → Bool} (h : allB k f = false) (hk : k ≤ n) : allB n f = false := by
  induction n with
  | zero =>
    have : k = 0 := by omega
    subst this
    exact h
  | succ n ih =>
    by_cases c : k = n + 1
    · subst c
      exact h
    · unfold allB
      rw [ih (by omega)]
      rfl
def pI (σ : gS) (v : Int32) : Int32 → gS → Prop := fun r σ2 => r = v ∧ σ2 = σ
set_option maxRecDepth 100000 in
set_option maxHeartbeats 4000000 in
theorem c_M_isWithin (l : Launch) (hfl : l.stackTraces = false) (M : gMT) (σ : gS) (φ : gS) (m p q : Nat) (ad : Nat → Nat) (rf : Int32) (S : gSt) (hM : Mod M φ σ m ad rf S) (hB : SB S) (hp : p < S.1 0 2) (hq : q < S.1 0 2) : Con l M yX5_isWithin (.code yX5_isWithin cX5_isWithin 5 (Option.some FieldType.boolean)) 1 0 0 [.ref m, .int (nI p), .int (nI q)] σ (rI (pI σ (bI (wIn S p q)))) (nX) := by
  refine g_con hfl (by decide) (lv := [(0, .ref m), (1, .int (nI p)), (2, .int (nI q))]) rfl rfl (Nat.le_of_ble_eq_true rfl) (fun X hX hC hR htb => ?_)
  obtain ⟨b1, b2, b3, b4, b5, b6, b7, b8⟩ := hB
  have hlp := b6 p hp
  have hlq := b6 q hq
  have loop : ∀ (d9 k : Nat) (b : Bool), k + d9 = S.1 4 q → b = (decide (S.1 4 q ≤ S.1 4 p) && lEq S p q k) → G X M 5 (gQ X M 0 0 (rI (pI σ (bI (wIn S p q)))) nX) 0 0 σ 24 [(4, .int (nI k)), (3, .int (bI b)), (0, .ref m), (1, .int (nI p)), (2, .int (nI q))] [] := by
    intro d9
    induction d9 with
    | zero =>
      intro k b h1 h2
      refine g_iload (q := 26) (i := 4) hC dX5_isWithin_24 rfl rfl ?_
      refine g_aload_n (q := 27) (i := 0) hC dX5_isWithin_26 rfl rfl rfl ?_
      refine g_getf (q := 30) hC kg_X5_23 dX5_isWithin_27 hM.1 rfl rfl ?_
      refine g_iload_n (q := 31) (i := 2) hC dX5_isWithin_30 rfl rfl rfl ?_
      refine g_iald (q := 32) (v := nI (S.1 4 q)) hC dX5_isWithin_31 hM.a4 (vp_in_nI (by omega) (by omega)) (by rw [nI_clamp (by omega)]) rfl ?_
      refine g_icmp_ge (tgt := 78) (q := 35) hC dX5_isWithin_32 (by decide) rfl (fun c_32 => ?_) (fun c_32 => ?_)
      · refine g_iload_n (q := 79) (i := 3) hC dX5_isWithin_78 rfl rfl rfl ?_
        exact g_zret hC hR (narrow_b _) dX5_isWithin_79 (by omega) (by omega) (⟨_, rfl, by rw [h2, show k = S.1 4 q by omega]; rfl, rfl⟩)
      · exact absurd (nI_le (by omega) (by omega)) c_32
    | succ d9 ih =>
      intro k b h1 h2
      refine g_iload (q := 26) (i := 4) hC dX5_isWithin_24 rfl rfl ?_
      refine g_aload_n (q := 27) (i := 0) hC dX5_isWithin_26 rfl rfl rfl ?_
      refine g_getf (q := 30) hC kg_X5_23 dX5_isWithin_27 hM.1 rfl rfl ?_
      refine g_iload_n (q := 31) (i := 2) hC dX5_isWithin_30 rfl rfl rfl ?_
      refine g_iald (q := 32) (v := nI (S.1 4 q)) hC dX5_isWithin_31 hM.a4 (vp_in_nI (by omega) (by omega)) (by rw [nI_clamp (by omega)]) rfl ?_
      refine g_icmp_ge (tgt := 78) (q := 35) hC dX5_isWithin_32 (by decide) rfl (fun c_32 => ?_) (fun c_32 => ?_)
      · exact absurd c_32 (nI_ge (by omega) (by omega))
      · refine g_iload_n (q := 36) (i := 3) hC dX5_isWithin_35 rfl rfl rfl ?_
        refine g_if_eq (tgt := 78) (q := 39) hC dX5_isWithin_36 (by decide) rfl (fun c_36 => ?_) (fun c_36 => ?_)
        · refine g_iload_n (q := 79) (i := 3) hC dX5_isWithin_78 rfl rfl rfl ?_
          have hb : b = false := bI_0.mp c_36
          have hw : wIn S p q = false := by
            unfold wIn
            rw [hb] at h2
            cases hd : decide (S.1 4 q ≤ S.1 4 p) with
            | false => rfl
            | true =>
              rw [hd, Bool.true_and] at h2
              rw [Bool.true_and]
              exact allB_f h2.symm (by omega)
          exact g_zret hC hR (narrow_b _) dX5_isWithin_79 (by omega) (by omega) (⟨_, rfl, by rw [hb, hw], rfl⟩)
        · refine g_aload_n (q := 40) (i := 0) hC dX5_isWithin_39 rfl rfl rfl ?_
          refine g_getf (q := 43) hC kg_X5_20 dX5_isWithin_40 hM.1 rfl rfl ?_
          refine g_bipush (q := 45) (v := nI 8) hC dX5_isWithin_43 rfl rfl ?_
          refine g_iload_n (q := 46) (i := 1) hC dX5_isWithin_45 rfl rfl rfl ?_
          refine g_imul (q := 47) (v := nI (8 * p)) hC dX5_isWithin_46 (pk_mul _ _) rfl ?_
          refine g_iload (q := 49) (i := 4) hC dX5_isWithin_47 rfl rfl ?_
          refine g_iadd (q := 50) (v := nI ((8 * p) + k)) hC dX5_isWithin_49 (nI_add _ _) rfl ?_
          refine g_cald (q := 51) (v := S.2.1 3 ((8 * p) + k)) hC dX5_isWithin_50 hM.a3 (vp_in_nI (by omega) (by omega)) (by rw [nI_clamp (by omega)]) rfl ?_
          refine g_aload_n (q := 52) (i := 0) hC dX5_isWithin_51 rfl rfl rfl ?_
          refine g_getf (q := 55) hC kg_X5_20 dX5_isWithin_52 hM.1 rfl rfl ?_
          refine g_bipush (q := 57) (v := nI 8) hC dX5_isWithin_55 rfl rfl ?_
          refine g_iload_n (q := 58) (i := 2) hC dX5_isWithin_57 rfl rfl rfl ?_
          refine g_imul (q := 59) (v := nI (8 * q)) hC dX5_isWithin_58 (pk_mul _ _) rfl ?_
          refine g_iload (q := 61) (i := 4) hC dX5_isWithin_59 rfl rfl ?_
          refine g_iadd (q := 62) (v := nI ((8 * q) + k)) hC dX5_isWithin_61 (nI_add _ _) rfl ?_
          refine g_cald (q := 63) (v := S.2.1 3 ((8 * q) + k)) hC dX5_isWithin_62 hM.a3 (vp_in_nI (by omega) (by omega)) (by rw [nI_clamp (by omega)]) rfl ?_
          refine g_icmp_ne (tgt := 70) (q := 66) hC dX5_isWithin_63 (by decide) rfl (fun c_63 => ?_) (fun c_63 => ?_)
          · have e2 : false = (decide (S.1 4 q ≤ S.1 4 p) && lEq S p q (k + 1)) := by
              have e3 : lEq S p q (k + 1) = (lEq S p q k && decide (S.2.1 3 (8 * p + k) = S.2.1 3 (8 * q + k))) := rfl
              rw [e3, decide_eq_false c_63]
              simp
            refine g_iconst (q := 71) (v := (0)) hC dX5_isWithin_70 rfl rfl ?_
            refine g_istore_n (q := 72) (i := 3) hC dX5_isWithin_71 rfl (by decide) rfl ?_
            refine g_iinc (q := 75) (i := 4) (v := nI (k + 1)) hC dX5_isWithin_72 rfl (nI_1 _) rfl ?_
            refine g_goto (tgt := 24) hC dX5_isWithin_75 (by decide) ?_
            refine g_sub (lv0 := [(4, .int (nI (k + 1))), (3, .int (bI false)), (0, .ref m), (1, .int (nI p)), (2, .int (nI q))]) ⟨rfl, rfl, rfl, rfl, rfl, trivial⟩ ?_
            exact ih (k + 1) false (by omega) e2
          · have hb : b = true := bI_n.mp c_36
            have e2 : true = (decide (S.1 4 q ≤ S.1 4 p) && lEq S p q (k + 1)) := by
              have e3 : lEq S p q (k + 1) = (lEq S p q k && decide (S.2.1 3 (8 * p + k) = S.2.1 3 (8 * q + k))) := rfl
              rw [e3, decide_eq_true c_63, Bool.and_true, ← h2, hb]
            refine g_iconst (q := 67) (v := (1)) hC dX5_isWithin_66 rfl rfl ?_
            refine g_goto (tgt := 71) hC dX5_isWithin_67 (by decide) ?_
            refine g_istore_n (q := 72) (i := 3) hC dX5_isWithin_71 rfl (by decide) rfl ?_
            refine g_iinc (q := 75) (i := 4) (v := nI (k + 1)) hC dX5_isWithin_72 rfl (nI_1 _) rfl ?_
            refine g_goto (tgt := 24) hC dX5_isWithin_75 (by decide) ?_
            refine g_sub (lv0 := [(4, .int (nI (k + 1))), (3, .int (bI true)), (0, .ref m), (1, .int (nI p)), (2, .int (nI q))]) ⟨rfl, rfl, rfl, rfl, rfl, trivial⟩ ?_
            exact ih (k + 1) true (by omega) e2
  refine g_aload_n (q := 1) (i := 0) hC dX5_isWithin_0 rfl rfl rfl ?_
  refine g_getf (q := 4) hC kg_X5_23 dX5_isWithin_1 hM.1 rfl rfl ?_
  refine g_iload_n (q := 5) (i := 1) hC dX5_isWithin_4 rfl rfl rfl ?_
  refine g_iald (q := 6) (v := nI (S.1 4 p)) hC dX5_isWithin_5 hM.a4 (vp_in_nI (by omega) (by omega)) (by rw [nI_clamp (by omega)]) rfl ?_
  refine g_aload_n (q := 7) (i := 0) hC dX5_isWithin_6 rfl rfl rfl ?_
  refine g_getf (q := 10) hC kg_X5_23 dX5_isWithin_7 hM.1 rfl rfl ?_
  refine g_iload_n (q := 11) (i := 2) hC dX5_isWithin_10 rfl rfl rfl ?_
  refine g_iald (q := 12) (v := nI (S.1 4 q)) hC dX5_isWithin_11 hM.a4 (vp_in_nI (by omega) (by omega)) (by rw [nI_clamp (by omega)]) rfl ?_
  refine g_icmp_lt (tgt := 19) (q := 15) hC dX5_isWithin_12 (by decide) rfl (fun c_12 => ?_) (fun c_12 => ?_)
  · have e : decide (S.1 4 q ≤ S.1 4 p) = false := decide_eq_false (fun z => absurd (nI_le z (by omega)) (fun w => by
      rw [Int32.lt_iff_toInt_lt] at c_12
      rw [Int32.le_iff_toInt_le] at w
      omega))
    refine g_iconst (q := 20) (v := (0)) hC dX5_isWithin_19 rfl rfl ?_
    refine g_istore_n (q := 21) (i := 3) hC dX5_isWithin_20 rfl (by decide) rfl ?_
    refine g_iconst (q := 22) (v := nI 0) hC dX5_isWithin_21 rfl rfl ?_
    refine g_istore (q := 24) (i := 4) hC dX5_isWithin_22 (by decide) rfl ?_
    refine g_sub (lv0 := [(4, .int (nI 0)), (3, .int (bI false)), (0, .ref m), (1, .int (nI p)), (2, .int (nI q))]) ⟨rfl, rfl, rfl, rfl, rfl, trivial⟩ ?_
    exact loop (S.1 4 q) 0 false (by omega) (by rw [e]; rfl)
  · have e : decide (S.1 4 q ≤ S.1 4 p) = true := decide_eq_true (by
      rcases Nat.lt_or_ge (S.1 4 p) (S.1 4 q) with z | z
      · exact absurd (nI_lt z (by omega)) c_12
      · exact z)
    refine g_iconst (q := 16) (v := (1)) hC dX5_isWithin_15 rfl rfl ?_
    refine g_goto (tgt := 20) hC dX5_isWithin_16 (by decide) ?_
    refine g_istore_n (q := 21) (i := 3) hC dX5_isWithin_20 rfl (by decide) rfl ?_
    refine g_iconst (q := 22) (v := nI 0) hC dX5_isWithin_21 rfl rfl ?_
    refine g_istore (q := 24) (i := 4) hC dX5_isWithin_22 (by decide) rfl ?_
    refine g_sub (lv0 := [(4, .int (nI 0)), (3, .int (bI true)), (0, .ref m), (1, .int (nI p)), (2, .int (nI q))]) ⟨rfl, rfl, rfl, rfl, rfl, trivial⟩ ?_
    exact loop (S.1 4 q) 0 true (by omega) (by rw [e]; rfl)
theorem oI_if (b : Bool) (p : Nat) (o : Option Nat) : (if b = true then nI p else oI o) = oI (if b = true then some p else o) := by cases b <;> rfl
set_option maxRecDepth 100000 in
set_option maxHeartbeats 4000000 in
theorem c_M_find (l : Launch) (hfl : l.stackTraces = false) (M : gMT) (σ : gS) (φ : gS) (m n : Nat) (ad : Nat → Nat) (rf : Int32) (S : gSt) (hM : Mod M φ σ m ad rf S) (hB : SB S) (hn : n ≤ 8) : Con l M yX5_find (.code yX5_find cX5_find 6 (Option.some FieldType.int)) 1 0 0 [.ref m, .int (nI n)] σ (rI (pI σ (oI (fnd S n)))) (nX) := by
  refine g_con hfl (by decide) (lv := [(0, .ref m), (1, .int (nI n))]) rfl rfl (Nat.le_of_ble_eq_true rfl) (fun X hX hC hR htb => ?_)
  obtain ⟨b1, b2, b3, b4, b5, b6, b7, b8⟩ := hB
  have loop : ∀ (d9 i : Nat) (fo : Option Nat), i + d9 = S.1 0 2 → fo = lastP i (fun p => pEq S p n) → G X M 6 (gQ X M 0 0 (rI (pI σ (oI (fnd S n)))) nX) 0 0 σ 4 [(3, .int (nI i)), (2, .int (oI fo)), (0, .ref m), (1, .int (nI n))] [] := by
    intro d9
    induction d9 with
    | zero =>
      intro i fo h1 h2
      refine g_iload_n (q := 5) (i := 3) hC dX5_find_4 rfl rfl rfl ?_
      refine g_aload_n (q := 6) (i := 0) hC dX5_find_5 rfl rfl rfl ?_
      refine g_getf (q := 9) hC kg_X5_16 dX5_find_6 hM.1 rfl rfl ?_
      refine g_icmp_ge (tgt := 95) (q := 12) hC dX5_find_9 (by decide) rfl (fun c_9 => ?_) (fun c_9 => ?_)
      · refine g_iload_n (q := 96) (i := 2) hC dX5_find_95 rfl rfl rfl ?_
        exact g_iret hC hR dX5_find_96 (by omega) (by omega) (⟨_, rfl, by rw [h2, show i = S.1 0 2 by omega]; rfl, rfl⟩)
      · exact absurd (nI_le (by omega) (by omega)) c_9
    | succ d9 ih =>
      intro i fo h1 h2
      have tail : ∀ (k : Nat) (b : Bool), b = pEq S i n → G X M 6 (gQ X M 0 0 (rI (pI σ (oI (fnd S n)))) nX) 0 0 σ 78 [(5, .int (nI k)), (4, .int (bI b)), (3, .int (nI i)), (2, .int (oI fo)), (0, .ref m), (1, .int (nI n))] [] := by
        intro k b hb
        refine g_iload (q := 80) (i := 4) hC dX5_find_78 rfl rfl ?_
        refine g_if_eq (tgt := 87) (q := 83) hC dX5_find_80 (by decide) rfl (fun c_80 => ?_) (fun c_80 => ?_)
        · have e : oI fo = oI (lastP (i + 1) (fun p => pEq S p n)) := by
            rw [lastP, if_neg (by rw [← hb, bI_0.mp c_80]; decide), h2]
          refine g_iload_n (q := 88) (i := 2) hC dX5_find_87 rfl rfl rfl ?_
          refine g_istore_n (q := 89) (i := 2) hC dX5_find_88 rfl (by decide) rfl ?_
          refine g_iinc (q := 92) (i := 3) (v := nI (i + 1)) hC dX5_find_89 rfl (nI_1 _) rfl ?_
          refine g_goto (tgt := 4) hC dX5_find_92 (by decide) ?_
          refine g_sub (lv0 := [(3, .int (nI (i + 1))), (2, .int (oI fo)), (0, .ref m), (1, .int (nI n))]) ⟨rfl, rfl, rfl, rfl, trivial⟩ ?_
          rw [e]
          exact ih (i + 1) _ (by omega) rfl
        · have e : nI i = oI (lastP (i + 1) (fun p => pEq S p n)) := by
            rw [lastP, if_pos (by rw [← hb]; exact bI_n.mp c_80)]
            rfl
          refine g_iload_n (q := 84) (i := 3) hC dX5_find_83 rfl rfl rfl ?_
          refine g_goto (tgt := 88) hC dX5_find_84 (by decide) ?_
          refine g_istore_n (q := 89) (i := 2) hC dX5_find_88 rfl (by decide) rfl ?_
          refine g_iinc (q := 92) (i := 3) (v := nI (i + 1)) hC dX5_find_89 rfl (nI_1 _) rfl ?_
          refine g_goto (tgt := 4) hC dX5_find_92 (by decide) ?_
          refine g_sub (lv0 := [(3, .int (nI (i + 1))), (2, .int (nI i)), (0, .ref m), (1, .int (nI n))]) ⟨rfl, rfl, rfl, rfl, trivial⟩ ?_
          rw [e]
          exact ih (i + 1) _ (by omega) rfl
      have inner : ∀ (e9 k : Nat) (b : Bool), k + e9 = n → b = (decide (S.1 4 i = n) && bEq S i k) → G X M 6 (gQ X M 0 0 (rI (pI σ (oI (fnd S n)))) nX) 0 0 σ 32 [(5, .int (nI k)), (4, .int (bI b)), (3, .int (nI i)), (2, .int (oI fo)), (0, .ref m), (1, .int (nI n))] [] := by
        intro e9
        induction e9 with
        | zero =>
          intro k b h3 h4
          refine g_iload (q := 34) (i := 5) hC dX5_find_32 rfl rfl ?_
          refine g_iload_n (q := 35) (i := 1) hC dX5_find_34 rfl rfl rfl ?_
          refine g_icmp_ge (tgt := 78) (q := 38) hC dX5_find_35 (by decide) rfl (fun c_35 => ?_) (fun c_35 => ?_)
          · exact tail k b (by rw [h4, show k = n by omega]; rfl)
          · exact absurd (nI_le (by omega) (by omega)) c_35
        | succ e9 ih2 =>
          intro k b h3 h4
          refine g_iload (q := 34) (i := 5) hC dX5_find_32 rfl rfl ?_
          refine g_iload_n (q := 35) (i := 1) hC dX5_find_34 rfl rfl rfl ?_
          refine g_icmp_ge (tgt := 78) (q := 38) hC dX5_find_35 (by decide) rfl (fun c_35 => ?_) (fun c_35 => ?_)
          · exact absurd c_35 (nI_ge (by omega) (by omega))
          · refine g_iload (q := 40) (i := 4) hC dX5_find_38 rfl rfl ?_
            refine g_if_eq (tgt := 78) (q := 43) hC dX5_find_40 (by decide) rfl (fun c_40 => ?_) (fun c_40 => ?_)
            · have hb : b = false := bI_0.mp c_40
              have hw : pEq S i n = false := by
                unfold pEq
                rw [hb] at h4
                cases hd : decide (S.1 4 i = n) with
                | false => rfl
                | true =>
                  rw [hd, Bool.true_and] at h4
                  rw [Bool.true_and]
                  exact allB_f h4.symm (by omega)
              exact tail k b (by rw [hb, hw])
            · refine g_aload_n (q := 44) (i := 0) hC dX5_find_43 rfl rfl rfl ?_
              refine g_getf (q := 47) hC kg_X5_20 dX5_find_44 hM.1 rfl rfl ?_
              refine g_bipush (q := 49) (v := nI 8) hC dX5_find_47 rfl rfl ?_
              refine g_iload_n (q := 50) (i := 3) hC dX5_find_49 rfl rfl rfl ?_
              refine g_imul (q := 51) (v := nI (8 * i)) hC dX5_find_50 (pk_mul _ _) rfl ?_
              refine g_iload (q := 53) (i := 5) hC dX5_find_51 rfl rfl ?_
              refine g_iadd (q := 54) (v := nI ((8 * i) + k)) hC dX5_find_53 (nI_add _ _) rfl ?_
              refine g_cald (q := 55) (v := S.2.1 3 ((8 * i) + k)) hC dX5_find_54 hM.a3 (vp_in_nI (by omega) (by omega)) (by rw [nI_clamp (by omega)]) rfl ?_
              refine g_aload_n (q := 56) (i := 0) hC dX5_find_55 rfl rfl rfl ?_
              refine g_getf (q := 59) hC kg_X5_7 dX5_find_56 hM.1 rfl rfl ?_
              refine g_iload (q := 61) (i := 5) hC dX5_find_59 rfl rfl ?_
              refine g_cald (q := 62) (v := S.2.1 1 k) hC dX5_find_61 hM.a1 (vp_in_nI (by omega) (by omega)) (by rw [nI_clamp (by omega)]) rfl ?_
              refine g_icmp_ne (tgt := 69) (q := 65) hC dX5_find_62 (by decide) rfl (fun c_62 => ?_) (fun c_62 => ?_)
              · have e2 : false = (decide (S.1 4 i = n) && bEq S i (k + 1)) := by
                  have e3 : bEq S i (k + 1) = (bEq S i k && decide (S.2.1 3 (8 * i + k) = S.2.1 1 k)) := rfl
                  rw [e3, decide_eq_false c_62]
                  simp
                refine g_iconst (q := 70) (v := (0)) hC dX5_find_69 rfl rfl ?_
                refine g_istore (q := 72) (i := 4) hC dX5_find_70 (by decide) rfl ?_
                refine g_iinc (q := 75) (i := 5) (v := nI (k + 1)) hC dX5_find_72 rfl (nI_1 _) rfl ?_
                refine g_goto (tgt := 32) hC dX5_find_75 (by decide) ?_
                refine g_sub (lv0 := [(5, .int (nI (k + 1))), (4, .int (bI false)), (3, .int (nI i)), (2, .int (oI fo)), (0, .ref m), (1, .int (nI n))]) ⟨rfl, rfl, rfl, rfl, rfl, rfl, trivial⟩ ?_
                exact ih2 (k + 1) false (by omega) e2
              · have hb : b = true := bI_n.mp c_40
                have e2 : true = (decide (S.1 4 i = n) && bEq S i (k + 1)) := by
                  have e3 : bEq S i (k + 1) = (bEq S i k && decide (S.2.1 3 (8 * i + k) = S.2.1 1 k)) := rfl
                  rw [e3, decide_eq_true c_62, Bool.and_true, ← h4, hb]
                refine g_iconst (q := 66) (v := (1)) hC dX5_find_65 rfl rfl ?_
                refine g_goto (tgt := 70) hC dX5_find_66 (by decide) ?_
                refine g_istore (q := 72) (i := 4) hC dX5_find_70 (by decide) rfl ?_
                refine g_iinc (q := 75) (i := 5) (v := nI (k + 1)) hC dX5_find_72 rfl (nI_1 _) rfl ?_
                refine g_goto (tgt := 32) hC dX5_find_75 (by decide) ?_
                refine g_sub (lv0 := [(5, .int (nI (k + 1))), (4, .int (bI true)), (3, .int (nI i)), (2, .int (oI fo)), (0, .ref m), (1, .int (nI n))]) ⟨rfl, rfl, rfl, rfl, rfl, rfl, trivial⟩ ?_
                exact ih2 (k + 1) true (by omega) e2
      have hli := b6 i (by omega)
      refine g_iload_n (q := 5) (i := 3) hC dX5_find_4 rfl rfl rfl ?_
      refine g_aload_n (q := 6) (i := 0) hC dX5_find_5 rfl rfl rfl ?_
      refine g_getf (q := 9) hC kg_X5_16 dX5_find_6 hM.1 rfl rfl ?_
      refine g_icmp_ge (tgt := 95) (q := 12) hC dX5_find_9 (by decide) rfl (fun c_9 => ?_) (fun c_9 => ?_)
      · exact absurd c_9 (nI_ge (by omega) (by omega))
      · refine g_aload_n (q := 13) (i := 0) hC dX5_find_12 rfl rfl rfl ?_
        refine g_getf (q := 16) hC kg_X5_23 dX5_find_13 hM.1 rfl rfl ?_
        refine g_iload_n (q := 17) (i := 3) hC dX5_find_16 rfl rfl rfl ?_
        refine g_iald (q := 18) (v := nI (S.1 4 i)) hC dX5_find_17 hM.a4 (vp_in_nI (by omega) (by omega)) (by rw [nI_clamp (by omega)]) rfl ?_
        refine g_iload_n (q := 19) (i := 1) hC dX5_find_18 rfl rfl rfl ?_
        refine g_icmp_ne (tgt := 26) (q := 22) hC dX5_find_19 (by decide) rfl (fun c_19 => ?_) (fun c_19 => ?_)
        · have e : decide (S.1 4 i = n) = false := decide_eq_false (fun z => c_19 (by rw [z]))
          refine g_iconst (q := 27) (v := (0)) hC dX5_find_26 rfl rfl ?_
          refine g_istore (q := 29) (i := 4) hC dX5_find_27 (by decide) rfl ?_
          refine g_iconst (q := 30) (v := nI 0) hC dX5_find_29 rfl rfl ?_
          refine g_istore (q := 32) (i := 5) hC dX5_find_30 (by decide) rfl ?_
          refine g_sub (lv0 := [(5, .int (nI 0)), (4, .int (bI false)), (3, .int (nI i)), (2, .int (oI fo)), (0, .ref m), (1, .int (nI n))]) ⟨rfl, rfl, rfl, rfl, rfl, rfl, trivial⟩ ?_
          exact inner n 0 false (by omega) (by rw [e]; rfl)
        · have e : decide (S.1 4 i = n) = true := decide_eq_true ((nI_eq (by omega) (by omega)).mp c_19)
          refine g_iconst (q := 23) (v := (1)) hC dX5_find_22 rfl rfl ?_
          refine g_goto (tgt := 27) hC dX5_find_23 (by decide) ?_
          refine g_istore (q := 29) (i := 4) hC dX5_find_27 (by decide) rfl ?_
          refine g_iconst (q := 30) (v := nI 0) hC dX5_find_29 rfl rfl ?_
          refine g_istore (q := 32) (i := 5) hC dX5_find_30 (by decide) rfl ?_
          refine g_sub (lv0 := [(5, .int (nI 0)), (4, .int (bI true)), (3, .int (nI i)), (2, .int (oI fo)), (0, .ref m), (1, .int (nI n))]) ⟨rfl, rfl, rfl, rfl, rfl, rfl, trivial⟩ ?_
          exact inner n 0 true (by omega) (by rw [e]; rfl)
  refine g_iconst (q := 1) (v := (-1)) hC dX5_find_0 rfl rfl ?_
  refine g_istore_n (q := 2) (i := 2) hC dX5_find_1 rfl (by decide) rfl ?_
  refine g_iconst (q := 3) (v := nI 0) hC dX5_find_2 rfl rfl ?_
  refine g_istore_n (q := 4) (i := 3) hC dX5_find_3 rfl (by decide) rfl ?_
  refine g_sub (lv0 := [(3, .int (nI 0)), (2, .int (oI none)), (0, .ref m), (1, .int (nI n))]) ⟨rfl, rfl, rfl, rfl, trivial⟩ ?_
  exact loop (S.1 0 2) 0 none (by omega) rfl
set_option maxRecDepth 100000 in
set_option maxHeartbeats 4000000 in
theorem c_M_findN (l : Launch) (hfl : l.stackTraces = false) (M : gMT) (σ : gS) (φ : gS) (m : Nat) (ad : Nat → Nat) (rf : Int32) (S : gSt) (hM : Mod M φ σ m ad rf S) (hB : SB S) : Con l M yX5_find (.code yX5_find cX5_find 6 (Option.some FieldType.int)) 1 0 0 [.ref m, .int (-1)] σ (rI (pI σ (-1))) (nX) := by
  refine g_con hfl (by decide) (lv := [(0, .ref m), (1, .int (-1))]) rfl rfl (Nat.le_of_ble_eq_true rfl) (fun X hX hC hR htb => ?_)
  obtain ⟨b1, b2, b3, b4, b5, b6, b7, b8⟩ := hB
  have loop : ∀ (d9 i : Nat), i + d9 = S.1 0 2 → G X M 6 (gQ X M 0 0 (rI (pI σ (-1))) nX) 0 0 σ 4 [(3, .int (nI i)), (2, .int (-1)), (0, .ref m), (1, .int (-1))] [] := by
    intro d9
    induction d9 with
    | zero =>
      intro i h1
      refine g_iload_n (q := 5) (i := 3) hC dX5_find_4 rfl rfl rfl ?_
      refine g_aload_n (q := 6) (i := 0) hC dX5_find_5 rfl rfl rfl ?_
      refine g_getf (q := 9) hC kg_X5_16 dX5_find_6 hM.1 rfl rfl ?_
      refine g_icmp_ge (tgt := 95) (q := 12) hC dX5_find_9 (by decide) rfl (fun c_9 => ?_) (fun c_9 => ?_)
      · refine g_iload_n (q := 96) (i := 2) hC dX5_find_95 rfl rfl rfl ?_
        exact g_iret hC hR dX5_find_96 (by omega) (by omega) (⟨_, rfl, rfl, rfl⟩)
      · exact absurd (nI_le (by omega) (by omega)) c_9
    | succ d9 ih =>
      intro i h1
      have hli := b6 i (by omega)
      refine g_iload_n (q := 5) (i := 3) hC dX5_find_4 rfl rfl rfl ?_
      refine g_aload_n (q := 6) (i := 0) hC dX5_find_5 rfl rfl rfl ?_
      refine g_getf (q := 9) hC kg_X5_16 dX5_find_6 hM.1 rfl rfl ?_
      refine g_icmp_ge (tgt := 95) (q := 12) hC dX5_find_9 (by decide) rfl (fun c_9 => ?_) (fun c_9 => ?_)
      · exact absurd c_9 (nI_ge (by omega) (by omega))
      · refine g_aload_n (q := 13) (i := 0) hC dX5_find_12 rfl rfl rfl ?_
        refine g_getf (q := 16) hC kg_X5_23 dX5_find_13 hM.1 rfl rfl ?_
        refine g_iload_n (q := 17) (i := 3) hC dX5_find_16 rfl rfl rfl ?_
        refine g_iald (q := 18) (v := nI (S.1 4 i)) hC dX5_find_17 hM.a4 (vp_in_nI (by omega) (by omega)) (by rw [nI_clamp (by omega)]) rfl ?_
        refine g_iload_n (q := 19) (i := 1) hC dX5_find_18 rfl rfl rfl ?_
        refine g_icmp_ne (tgt := 26) (q := 22) hC dX5_find_19 (by decide) rfl (fun c_19 => ?_) (fun c_19 => ?_)
        · refine g_iconst (q := 27) (v := (0)) hC dX5_find_26 rfl rfl ?_
          refine g_istore (q := 29) (i := 4) hC dX5_find_27 (by decide) rfl ?_
          refine g_iconst (q := 30) (v := (0)) hC dX5_find_29 rfl rfl ?_
          refine g_istore (q := 32) (i := 5) hC dX5_find_30 (by decide) rfl ?_
          refine g_iload (q := 34) (i := 5) hC dX5_find_32 rfl rfl ?_
          refine g_iload_n (q := 35) (i := 1) hC dX5_find_34 rfl rfl rfl ?_
          refine g_icmp_ge (tgt := 78) (q := 38) hC dX5_find_35 (by decide) rfl (fun c_35 => ?_) (fun c_35 => ?_)
          · refine g_iload (q := 80) (i := 4) hC dX5_find_78 rfl rfl ?_
            refine g_if_eq (tgt := 87) (q := 83) hC dX5_find_80 (by decide) rfl (fun c_80 => ?_) (fun c_80 => ?_)
            · refine g_iload_n (q := 88) (i := 2) hC dX5_find_87 rfl rfl rfl ?_
              refine g_istore_n (q := 89) (i := 2) hC dX5_find_88 rfl (by decide) rfl ?_
              refine g_iinc (q := 92) (i := 3) (v := nI (i + 1)) hC dX5_find_89 rfl (nI_1 _) rfl ?_
              refine g_goto (tgt := 4) hC dX5_find_92 (by decide) ?_
              refine g_sub (lv0 := [(3, .int (nI (i + 1))), (2, .int (-1)), (0, .ref m), (1, .int (-1))]) ⟨rfl, rfl, rfl, rfl, trivial⟩ ?_
              exact ih (i + 1) (by omega)
            · exact absurd rfl c_80
          · exact absurd (by decide) c_35
        · exact absurd c_19 (fun z => by
            have h := nI_pos' (n := S.1 4 i) (by omega)
            rw [z] at h
            exact absurd h (by decide))
  refine g_iconst (q := 1) (v := (-1)) hC dX5_find_0 rfl rfl ?_
  refine g_istore_n (q := 2) (i := 2) hC dX5_find_1 rfl (by decide) rfl ?_
  refine g_iconst (q := 3) (v := nI 0) hC dX5_find_2 rfl rfl ?_
  refine g_istore_n (q := 4) (i := 3) hC dX5_find_3 rfl (by decide) rfl ?_
  refine g_sub (lv0 := [(3, .int (nI 0)), (2, .int (-1)), (0, .ref m), (1, .int (-1))]) ⟨rfl, rfl, rfl, rfl, trivial⟩ ?_
  exact loop (S.1 0 2) 0 (by omega)
