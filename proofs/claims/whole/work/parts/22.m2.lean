/-! ===== the model: deepest, child, typing, making and finding projects ===== -/
theorem lastP_some {n : Nat} {f : Nat → Bool} {p : Nat} (h : lastP n f = some p) : p < n ∧ f p = true := by
  induction n with
  | zero => cases h
  | succ n ih =>
    unfold lastP at h
    split at h
    · cases h
      exact ⟨by omega, by assumption⟩
    · exact ⟨by have := (ih h).1; omega, (ih h).2⟩
theorem lastP_none {n : Nat} {f : Nat → Bool} (h : lastP n f = none) : ∀ p, p < n → f p = false := by
  induction n with
  | zero => intro p hp; omega
  | succ n ih =>
    unfold lastP at h
    split at h
    · cases h
    · intro p hp
      by_cases c : p = n
      · subst c
        exact Bool.eq_false_iff.mpr (by assumption)
      · exact ih h p (by omega)
theorem dpst_le {S : gSt} (hB : SB S) (q : Nat) : ∀ k, k ≤ S.1 0 2 → dpst S q k ≤ 8 := by
  intro k
  induction k with
  | zero => intro _; exact Nat.zero_le _
  | succ k ih =>
    intro hk
    unfold dpst
    split
    · exact hB.2.2.2.2.2.1 k (by omega)
    · exact ih (by omega)
set_option maxRecDepth 100000 in
set_option maxHeartbeats 4000000 in
theorem c_M_deepest (l : Launch) (hfl : l.stackTraces = false) (M : gMT) (σ : gS) (φ : gS) (m q : Nat) (ad : Nat → Nat) (rf : Int32) (S : gSt) (hM : Mod M φ σ m ad rf S) (hB : SB S) (hq : q < S.1 0 2) : Con l M yX5_deepest (.code yX5_deepest cX5_deepest 4 (Option.some FieldType.int)) 2 0 0 [.ref m, .int (nI q)] σ (rI (pI σ (nI (dpst S q (npj S))))) (nX) := by
  refine g_con hfl (by decide) (lv := [(0, .ref m), (1, .int (nI q))]) rfl rfl (Nat.le_of_ble_eq_true rfl) (fun X hX hC hR htb => ?_)
  have hB0 := hB
  obtain ⟨b1, b2, b3, b4, b5, b6, b7, b8⟩ := hB
  have loop : ∀ (d9 i : Nat), i + d9 = S.1 0 2 → G X M 4 (gQ X M 0 0 (rI (pI σ (nI (dpst S q (npj S))))) nX) 0 0 σ 4 [(3, .int (nI i)), (2, .int (nI (dpst S q i))), (0, .ref m), (1, .int (nI q))] [] := by
    intro d9
    induction d9 with
    | zero =>
      intro i h1
      refine g_iload_n (q := 5) (i := 3) hC dX5_deepest_4 rfl rfl rfl ?_
      refine g_aload_n (q := 6) (i := 0) hC dX5_deepest_5 rfl rfl rfl ?_
      refine g_getf (q := 9) hC kg_X5_16 dX5_deepest_6 hM.1 rfl rfl ?_
      refine g_icmp_ge (tgt := 48) (q := 12) hC dX5_deepest_9 (by decide) rfl (fun c_9 => ?_) (fun c_9 => ?_)
      · refine g_iload_n (q := 49) (i := 2) hC dX5_deepest_48 rfl rfl rfl ?_
        exact g_iret hC hR dX5_deepest_49 (by omega) (by omega) (⟨_, rfl, by rw [show i = S.1 0 2 by omega]; rfl, rfl⟩)
      · exact absurd (nI_le (by omega) (by omega)) c_9
    | succ d9 ih =>
      intro i h1
      have hli := b6 i (by omega)
      have hdi := dpst_le hB0 q i (by omega)
      have e0 : dpst S q (i + 1) = if wIn S i q = true ∧ dpst S q i < S.1 4 i then S.1 4 i else dpst S q i := rfl
      refine g_iload_n (q := 5) (i := 3) hC dX5_deepest_4 rfl rfl rfl ?_
      refine g_aload_n (q := 6) (i := 0) hC dX5_deepest_5 rfl rfl rfl ?_
      refine g_getf (q := 9) hC kg_X5_16 dX5_deepest_6 hM.1 rfl rfl ?_
      refine g_icmp_ge (tgt := 48) (q := 12) hC dX5_deepest_9 (by decide) rfl (fun c_9 => ?_) (fun c_9 => ?_)
      · exact absurd c_9 (nI_ge (by omega) (by omega))
      · refine g_aload_n (q := 13) (i := 0) hC dX5_deepest_12 rfl rfl rfl ?_
        refine g_iload_n (q := 14) (i := 3) hC dX5_deepest_13 rfl rfl rfl ?_
        refine g_iload_n (q := 15) (i := 1) hC dX5_deepest_14 rfl rfl rfl ?_
        refine g_ci (q := 18) (g_runV hC kv_X5_82 md_X5_isWithin (c_M_isWithin _ hC.fl M _ φ m i q ad rf S hM hB0 (by omega) hq) (ci := 5) rfl hM.1 dX5_deepest_15 (by decide) (by decide) (by omega) (by omega) rfl rfl (Nat.le_of_ble_eq_true rfl)) rfl (fun r σ ⟨e1, e2⟩ => ?_) (fun _ _ h9 => False.elim h9)
        subst e1 e2
        refine g_if_eq (tgt := 40) (q := 21) hC dX5_deepest_18 (by decide) rfl (fun c_18 => ?_) (fun c_18 => ?_)
        · rw [if_neg (fun z => by rw [bI_0.mp c_18] at z; exact absurd z.1 (by decide))] at e0
          refine g_iload_n (q := 41) (i := 2) hC dX5_deepest_40 rfl rfl rfl ?_
          refine g_istore_n (q := 42) (i := 2) hC dX5_deepest_41 rfl (by decide) rfl ?_
          refine g_iinc (q := 45) (i := 3) (v := (nI (i + 1))) hC dX5_deepest_42 rfl (nI_1 _) rfl ?_
          refine g_goto (tgt := 4) hC dX5_deepest_45 (by decide) ?_
          refine g_sub (lv0 := [(3, .int (nI (i + 1))), (2, .int (nI (dpst S q i))), (0, .ref m), (1, .int (nI q))]) ⟨rfl, rfl, rfl, rfl, trivial⟩ ?_
          rw [← e0]
          exact ih (i + 1) (by omega)
        · refine g_aload_n (q := 22) (i := 0) hC dX5_deepest_21 rfl rfl rfl ?_
          refine g_getf (q := 25) hC kg_X5_23 dX5_deepest_22 hM.1 rfl rfl ?_
          refine g_iload_n (q := 26) (i := 3) hC dX5_deepest_25 rfl rfl rfl ?_
          refine g_iald (q := 27) (v := nI (S.1 4 i)) hC dX5_deepest_26 hM.a4 (vp_in_nI (by omega) (by omega)) (by rw [nI_clamp (by omega)]) rfl ?_
          refine g_iload_n (q := 28) (i := 2) hC dX5_deepest_27 rfl rfl rfl ?_
          refine g_icmp_le (tgt := 40) (q := 31) hC dX5_deepest_28 (by decide) rfl (fun c_28 => ?_) (fun c_28 => ?_)
          · rw [if_neg (fun z => by
              have h := nI_lt z.2 (by omega)
              rw [Int32.lt_iff_toInt_lt] at h
              rw [Int32.le_iff_toInt_le] at c_28
              omega)] at e0
            refine g_iload_n (q := 41) (i := 2) hC dX5_deepest_40 rfl rfl rfl ?_
            refine g_istore_n (q := 42) (i := 2) hC dX5_deepest_41 rfl (by decide) rfl ?_
            refine g_iinc (q := 45) (i := 3) (v := (nI (i + 1))) hC dX5_deepest_42 rfl (nI_1 _) rfl ?_
            refine g_goto (tgt := 4) hC dX5_deepest_45 (by decide) ?_
            refine g_sub (lv0 := [(3, .int (nI (i + 1))), (2, .int (nI (dpst S q i))), (0, .ref m), (1, .int (nI q))]) ⟨rfl, rfl, rfl, rfl, trivial⟩ ?_
            rw [← e0]
            exact ih (i + 1) (by omega)
          · rw [if_pos ⟨bI_n.mp c_18, by
              rcases Nat.lt_or_ge (dpst S q i) (S.1 4 i) with z | z
              · exact z
              · exact absurd (nI_le z (by omega)) c_28⟩] at e0
            refine g_aload_n (q := 32) (i := 0) hC dX5_deepest_31 rfl rfl rfl ?_
            refine g_getf (q := 35) hC kg_X5_23 dX5_deepest_32 hM.1 rfl rfl ?_
            refine g_iload_n (q := 36) (i := 3) hC dX5_deepest_35 rfl rfl rfl ?_
            refine g_iald (q := 37) (v := nI (S.1 4 i)) hC dX5_deepest_36 hM.a4 (vp_in_nI (by omega) (by omega)) (by rw [nI_clamp (by omega)]) rfl ?_
            refine g_goto (tgt := 41) hC dX5_deepest_37 (by decide) ?_
            refine g_istore_n (q := 42) (i := 2) hC dX5_deepest_41 rfl (by decide) rfl ?_
            refine g_iinc (q := 45) (i := 3) (v := (nI (i + 1))) hC dX5_deepest_42 rfl (nI_1 _) rfl ?_
            refine g_goto (tgt := 4) hC dX5_deepest_45 (by decide) ?_
            refine g_sub (lv0 := [(3, .int (nI (i + 1))), (2, .int (nI (S.1 4 i))), (0, .ref m), (1, .int (nI q))]) ⟨rfl, rfl, rfl, rfl, trivial⟩ ?_
            rw [← e0]
            exact ih (i + 1) (by omega)
  refine g_iconst (q := 1) (v := nI 0) hC dX5_deepest_0 rfl rfl ?_
  refine g_istore_n (q := 2) (i := 2) hC dX5_deepest_1 rfl (by decide) rfl ?_
  refine g_iconst (q := 3) (v := nI 0) hC dX5_deepest_2 rfl rfl ?_
  refine g_istore_n (q := 4) (i := 3) hC dX5_deepest_3 rfl (by decide) rfl ?_
  refine g_sub (lv0 := [(3, .int (nI 0)), (2, .int (nI 0)), (0, .ref m), (1, .int (nI q))]) ⟨rfl, rfl, rfl, rfl, trivial⟩ ?_
  exact loop (S.1 0 2) 0 (by omega)
set_option maxRecDepth 100000 in
set_option maxHeartbeats 4000000 in
theorem c_M_child (l : Launch) (hfl : l.stackTraces = false) (M : gMT) (σ : gS) (φ : gS) (m q : Nat) (ad : Nat → Nat) (rf c9 : Int32) (S : gSt) (hM : Mod M φ σ m ad rf S) (hB : SB S) (hq : q < S.1 0 2) : Con l M yX5_child (.code yX5_child cX5_child 6 (Option.some FieldType.int)) 2 0 0 [.ref m, .int (nI q), .int c9] σ (rI (pI σ (oI (chd S q c9)))) (nX) := by
  refine g_con hfl (by decide) (lv := [(0, .ref m), (1, .int (nI q)), (2, .int c9)]) rfl rfl (Nat.le_of_ble_eq_true rfl) (fun X hX hC hR htb => ?_)
  have hB0 := hB
  obtain ⟨b1, b2, b3, b4, b5, b6, b7, b8⟩ := hB
  have hlq := b6 q hq
  have loop : ∀ (d9 i : Nat) (fo : Option Nat), i + d9 = S.1 0 2 → fo = lastP i (fun p => (decide (S.1 4 p = S.1 4 q + 1) && wIn S p q) && decide (S.2.1 3 (8 * p + S.1 4 q) = c9)) → G X M 6 (gQ X M 0 0 (rI (pI σ (oI (chd S q c9)))) nX) 0 0 σ 5 [(4, .int (nI i)), (3, .int (oI fo)), (0, .ref m), (1, .int (nI q)), (2, .int c9)] [] := by
    intro d9
    induction d9 with
    | zero =>
      intro i fo h1 h2
      refine g_iload (q := 7) (i := 4) hC dX5_child_5 rfl rfl ?_
      refine g_aload_n (q := 8) (i := 0) hC dX5_child_7 rfl rfl rfl ?_
      refine g_getf (q := 11) hC kg_X5_16 dX5_child_8 hM.1 rfl rfl ?_
      refine g_icmp_ge (tgt := 88) (q := 14) hC dX5_child_11 (by decide) rfl (fun c_11 => ?_) (fun c_11 => ?_)
      · refine g_iload_n (q := 89) (i := 3) hC dX5_child_88 rfl rfl rfl ?_
        exact g_iret hC hR dX5_child_89 (by omega) (by omega) (⟨_, rfl, by rw [h2, show i = S.1 0 2 by omega]; rfl, rfl⟩)
      · exact absurd (nI_le (by omega) (by omega)) c_11
    | succ d9 ih =>
      intro i fo h1 h2
      have hli := b6 i (by omega)
      have tail : ∀ (b : Bool), b = (decide (S.1 4 i = S.1 4 q + 1) && wIn S i q) → G X M 6 (gQ X M 0 0 (rI (pI σ (oI (chd S q c9)))) nX) 0 0 σ 49 [(5, .int (bI b)), (4, .int (nI i)), (3, .int (oI fo)), (0, .ref m), (1, .int (nI q)), (2, .int c9)] [] := by
        intro b hb
        have e0 : lastP (i + 1) (fun p => (decide (S.1 4 p = S.1 4 q + 1) && wIn S p q) && decide (S.2.1 3 (8 * p + S.1 4 q) = c9)) = if (b && decide (S.2.1 3 (8 * i + S.1 4 q) = c9)) = true then some i else fo := by
          rw [lastP, hb, h2]
        have no : (b && decide (S.2.1 3 (8 * i + S.1 4 q) = c9)) = false → G X M 6 (gQ X M 0 0 (rI (pI σ (oI (chd S q c9)))) nX) 0 0 σ 80 [(5, .int (bI b)), (4, .int (nI i)), (3, .int (oI fo)), (0, .ref m), (1, .int (nI q)), (2, .int c9)] [] := by
          intro hz
          rw [if_neg (by rw [hz]; decide)] at e0
          refine g_iload_n (q := 81) (i := 3) hC dX5_child_80 rfl rfl rfl ?_
          refine g_istore_n (q := 82) (i := 3) hC dX5_child_81 rfl (by decide) rfl ?_
          refine g_iinc (q := 85) (i := 4) (v := (nI (i + 1))) hC dX5_child_82 rfl (nI_1 _) rfl ?_
          refine g_goto (tgt := 5) hC dX5_child_85 (by decide) ?_
          refine g_sub (lv0 := [(4, .int (nI (i + 1))), (3, .int (oI fo)), (0, .ref m), (1, .int (nI q)), (2, .int c9)]) ⟨rfl, rfl, rfl, rfl, rfl, trivial⟩ ?_
          rw [← e0]
          exact ih (i + 1) _ (by omega) rfl
        refine g_iload (q := 51) (i := 5) hC dX5_child_49 rfl rfl ?_
        refine g_if_eq (tgt := 80) (q := 54) hC dX5_child_51 (by decide) rfl (fun c_51 => ?_) (fun c_51 => ?_)
        · exact no (by rw [bI_0.mp c_51]; rfl)
        · have hbt := bI_n.mp c_51
          have hle : S.1 4 q + 1 = S.1 4 i := by
            rw [hbt] at hb
            have := (Bool.and_eq_true_iff.mp hb.symm).1
            exact (of_decide_eq_true this).symm
          refine g_aload_n (q := 55) (i := 0) hC dX5_child_54 rfl rfl rfl ?_
          refine g_getf (q := 58) hC kg_X5_20 dX5_child_55 hM.1 rfl rfl ?_
          refine g_bipush (q := 60) (v := nI 8) hC dX5_child_58 rfl rfl ?_
          refine g_iload (q := 62) (i := 4) hC dX5_child_60 rfl rfl ?_
          refine g_imul (q := 63) (v := (nI (8 * i))) hC dX5_child_62 (pk_mul _ _) rfl ?_
          refine g_aload_n (q := 64) (i := 0) hC dX5_child_63 rfl rfl rfl ?_
          refine g_getf (q := 67) hC kg_X5_23 dX5_child_64 hM.1 rfl rfl ?_
          refine g_iload_n (q := 68) (i := 1) hC dX5_child_67 rfl rfl rfl ?_
          refine g_iald (q := 69) (v := nI (S.1 4 q)) hC dX5_child_68 hM.a4 (vp_in_nI (by omega) (by omega)) (by rw [nI_clamp (by omega)]) rfl ?_
          refine g_iadd (q := 70) (v := (nI ((8 * i) + (S.1 4 q)))) hC dX5_child_69 (nI_add _ _) rfl ?_
          refine g_cald (q := 71) (v := S.2.1 3 ((8 * i) + (S.1 4 q))) hC dX5_child_70 hM.a3 (vp_in_nI (by omega) (by omega)) (by rw [nI_clamp (by omega)]) rfl ?_
          refine g_iload_n (q := 72) (i := 2) hC dX5_child_71 rfl rfl rfl ?_
          refine g_icmp_ne (tgt := 80) (q := 75) hC dX5_child_72 (by decide) rfl (fun c_72 => ?_) (fun c_72 => ?_)
          · exact no (by rw [decide_eq_false c_72]; simp)
          · rw [if_pos (by rw [hbt, decide_eq_true c_72]; rfl)] at e0
            refine g_iload (q := 77) (i := 4) hC dX5_child_75 rfl rfl ?_
            refine g_goto (tgt := 81) hC dX5_child_77 (by decide) ?_
            refine g_istore_n (q := 82) (i := 3) hC dX5_child_81 rfl (by decide) rfl ?_
            refine g_iinc (q := 85) (i := 4) (v := (nI (i + 1))) hC dX5_child_82 rfl (nI_1 _) rfl ?_
            refine g_goto (tgt := 5) hC dX5_child_85 (by decide) ?_
            refine g_sub (lv0 := [(4, .int (nI (i + 1))), (3, .int (nI i)), (0, .ref m), (1, .int (nI q)), (2, .int c9)]) ⟨rfl, rfl, rfl, rfl, rfl, trivial⟩ ?_
            show G X M 6 _ 0 0 σ 5 [(4, .int (nI (i + 1))), (3, .int (oI (some i))), (0, .ref m), (1, .int (nI q)), (2, .int c9)] []
            rw [← e0]
            exact ih (i + 1) _ (by omega) rfl
      refine g_iload (q := 7) (i := 4) hC dX5_child_5 rfl rfl ?_
      refine g_aload_n (q := 8) (i := 0) hC dX5_child_7 rfl rfl rfl ?_
      refine g_getf (q := 11) hC kg_X5_16 dX5_child_8 hM.1 rfl rfl ?_
      refine g_icmp_ge (tgt := 88) (q := 14) hC dX5_child_11 (by decide) rfl (fun c_11 => ?_) (fun c_11 => ?_)
      · exact absurd c_11 (nI_ge (by omega) (by omega))
      · refine g_aload_n (q := 15) (i := 0) hC dX5_child_14 rfl rfl rfl ?_
        refine g_getf (q := 18) hC kg_X5_23 dX5_child_15 hM.1 rfl rfl ?_
        refine g_iload (q := 20) (i := 4) hC dX5_child_18 rfl rfl ?_
        refine g_iald (q := 21) (v := nI (S.1 4 i)) hC dX5_child_20 hM.a4 (vp_in_nI (by omega) (by omega)) (by rw [nI_clamp (by omega)]) rfl ?_
        refine g_aload_n (q := 22) (i := 0) hC dX5_child_21 rfl rfl rfl ?_
        refine g_getf (q := 25) hC kg_X5_23 dX5_child_22 hM.1 rfl rfl ?_
        refine g_iload_n (q := 26) (i := 1) hC dX5_child_25 rfl rfl rfl ?_
        refine g_iald (q := 27) (v := nI (S.1 4 q)) hC dX5_child_26 hM.a4 (vp_in_nI (by omega) (by omega)) (by rw [nI_clamp (by omega)]) rfl ?_
        refine g_iconst (q := 28) (v := nI 1) hC dX5_child_27 rfl rfl ?_
        refine g_iadd (q := 29) (v := (nI ((S.1 4 q) + 1))) hC dX5_child_28 (nI_add _ _) rfl ?_
        refine g_icmp_ne (tgt := 46) (q := 32) hC dX5_child_29 (by decide) rfl (fun c_29 => ?_) (fun c_29 => ?_)
        · have e : decide (S.1 4 i = S.1 4 q + 1) = false := decide_eq_false (fun z => c_29 (by rw [z]))
          refine g_iconst (q := 47) (v := (0)) hC dX5_child_46 rfl rfl ?_
          refine g_istore (q := 49) (i := 5) hC dX5_child_47 (by decide) rfl ?_
          refine g_sub (lv0 := [(5, .int (bI false)), (4, .int (nI i)), (3, .int (oI fo)), (0, .ref m), (1, .int (nI q)), (2, .int c9)]) ⟨rfl, rfl, rfl, rfl, rfl, rfl, trivial⟩ ?_
          exact tail false (by rw [e]; rfl)
        · have e : decide (S.1 4 i = S.1 4 q + 1) = true := decide_eq_true ((nI_eq (by omega) (by omega)).mp c_29)
          refine g_aload_n (q := 33) (i := 0) hC dX5_child_32 rfl rfl rfl ?_
          refine g_iload (q := 35) (i := 4) hC dX5_child_33 rfl rfl ?_
          refine g_iload_n (q := 36) (i := 1) hC dX5_child_35 rfl rfl rfl ?_
          refine g_ci (q := 39) (g_runV hC kv_X5_82 md_X5_isWithin (c_M_isWithin _ hC.fl M _ φ m i q ad rf S hM hB0 (by omega) hq) (ci := 5) rfl hM.1 dX5_child_36 (by decide) (by decide) (by omega) (by omega) rfl rfl (Nat.le_of_ble_eq_true rfl)) rfl (fun r σ ⟨e1, e2⟩ => ?_) (fun _ _ h9 => False.elim h9)
          subst e1 e2
          refine g_if_eq (tgt := 46) (q := 42) hC dX5_child_39 (by decide) rfl (fun c_39 => ?_) (fun c_39 => ?_)
          · have ew := bI_0.mp c_39
            refine g_iconst (q := 47) (v := (0)) hC dX5_child_46 rfl rfl ?_
            refine g_istore (q := 49) (i := 5) hC dX5_child_47 (by decide) rfl ?_
            refine g_sub (lv0 := [(5, .int (bI false)), (4, .int (nI i)), (3, .int (oI fo)), (0, .ref m), (1, .int (nI q)), (2, .int c9)]) ⟨rfl, rfl, rfl, rfl, rfl, rfl, trivial⟩ ?_
            exact tail false (by rw [e, ew]; rfl)
          · have ew := bI_n.mp c_39
            refine g_iconst (q := 43) (v := (1)) hC dX5_child_42 rfl rfl ?_
            refine g_goto (tgt := 47) hC dX5_child_43 (by decide) ?_
            refine g_istore (q := 49) (i := 5) hC dX5_child_47 (by decide) rfl ?_
            refine g_sub (lv0 := [(5, .int (bI true)), (4, .int (nI i)), (3, .int (oI fo)), (0, .ref m), (1, .int (nI q)), (2, .int c9)]) ⟨rfl, rfl, rfl, rfl, rfl, rfl, trivial⟩ ?_
            exact tail true (by rw [e, ew]; rfl)
  refine g_iconst (q := 1) (v := (-1)) hC dX5_child_0 rfl rfl ?_
  refine g_istore_n (q := 2) (i := 3) hC dX5_child_1 rfl (by decide) rfl ?_
  refine g_iconst (q := 3) (v := nI 0) hC dX5_child_2 rfl rfl ?_
  refine g_istore (q := 5) (i := 4) hC dX5_child_3 (by decide) rfl ?_
  refine g_sub (lv0 := [(4, .int (nI 0)), (3, .int (oI none)), (0, .ref m), (1, .int (nI q)), (2, .int c9)]) ⟨rfl, rfl, rfl, rfl, rfl, trivial⟩ ?_
  exact loop (S.1 0 2) 0 none (by omega) rfl
