/-! ===== the model: usage, sums, look ===== -/
set_option maxRecDepth 100000 in
set_option maxHeartbeats 4000000 in
theorem c_M_usage (l : Launch) (hfl : l.stackTraces = false) (M : gMT) (σ : gS) (φ : gS) (m f : Nat) (ad : Nat → Nat) (rf : Int32) (S : gSt) (hM : Mod M φ σ m ad rf S) (hB : SB S) (hf : f < 40) : Con l M yX5_usage (.code yX5_usage cX5_usage 4 (Option.some FieldType.int)) 2 0 0 [.ref m, .int (nI f)] σ (rI (pI σ (usg S f (S.1 0 4)))) (nX) := by
  refine g_con hfl (by decide) (lv := [(0, .ref m), (1, .int (nI f))]) rfl rfl (Nat.le_of_ble_eq_true rfl) (fun X hX hC hR htb => ?_)
  have hB0 := hB
  obtain ⟨b1, b2, b3, b4, b5, b6, b7, b8⟩ := hB
  have loop : ∀ (d9 i : Nat), i + d9 = S.1 0 4 → G X M 4 (gQ X M 0 0 (rI (pI σ (usg S f (S.1 0 4)))) nX) 0 0 σ 22 [(3, .int (nI i)), (2, .int (usg S f i)), (0, .ref m), (1, .int (nI f))] [] := by
    intro d9
    induction d9 with
    | zero =>
      intro i h1
      refine g_iload_n (q := 23) (i := 3) hC dX5_usage_22 rfl rfl rfl ?_
      refine g_aload_n (q := 24) (i := 0) hC dX5_usage_23 rfl rfl rfl ?_
      refine g_getf (q := 27) hC kg_X5_106 dX5_usage_24 hM.1 rfl rfl ?_
      refine g_icmp_ge (tgt := 68) (q := 30) hC dX5_usage_27 (by decide) rfl (fun c_27 => ?_) (fun c_27 => ?_)
      · refine g_iload_n (q := 69) (i := 2) hC dX5_usage_68 rfl rfl rfl ?_
        exact g_iret hC hR dX5_usage_69 (by omega) (by omega) (⟨_, rfl, by rw [show i = S.1 0 4 by omega], rfl⟩)
      · exact absurd (nI_le (by omega) (by omega)) c_27
    | succ d9 ih =>
      intro i h1
      have hri := b8 i (by omega)
      have e0 : usg S f (i + 1) = usg S f i + (if S.1 9 i = f ∧ S.2.2 11 i = true then S.2.1 10 i else 0) := rfl
      have tail : ∀ v : Int32, v = (if S.1 9 i = f ∧ S.2.2 11 i = true then S.2.1 10 i else 0) → G X M 4 (gQ X M 0 0 (rI (pI σ (usg S f (S.1 0 4)))) nX) 0 0 σ 60 [(3, .int (nI i)), (2, .int (usg S f i)), (0, .ref m), (1, .int (nI f))] [.int v, .int (usg S f i)] := by
        intro v hv
        rw [← hv] at e0
        refine g_iadd (q := 61) (v := (usg S f (i + 1))) hC dX5_usage_60 e0.symm rfl ?_
        refine g_istore_n (q := 62) (i := 2) hC dX5_usage_61 rfl (by decide) rfl ?_
        refine g_iinc (q := 65) (i := 3) (v := (nI (i + 1))) hC dX5_usage_62 rfl (nI_1 _) rfl ?_
        refine g_goto (tgt := 22) hC dX5_usage_65 (by decide) ?_
        refine g_sub (lv0 := [(3, .int (nI (i + 1))), (2, .int (usg S f (i + 1))), (0, .ref m), (1, .int (nI f))]) ⟨rfl, rfl, rfl, rfl, trivial⟩ ?_
        exact ih (i + 1) (by omega)
      refine g_iload_n (q := 23) (i := 3) hC dX5_usage_22 rfl rfl rfl ?_
      refine g_aload_n (q := 24) (i := 0) hC dX5_usage_23 rfl rfl rfl ?_
      refine g_getf (q := 27) hC kg_X5_106 dX5_usage_24 hM.1 rfl rfl ?_
      refine g_icmp_ge (tgt := 68) (q := 30) hC dX5_usage_27 (by decide) rfl (fun c_27 => ?_) (fun c_27 => ?_)
      · exact absurd c_27 (nI_ge (by omega) (by omega))
      · refine g_iload_n (q := 31) (i := 2) hC dX5_usage_30 rfl rfl rfl ?_
        refine g_aload_n (q := 32) (i := 0) hC dX5_usage_31 rfl rfl rfl ?_
        refine g_getf (q := 35) hC kg_X5_40 dX5_usage_32 hM.1 rfl rfl ?_
        refine g_iload_n (q := 36) (i := 3) hC dX5_usage_35 rfl rfl rfl ?_
        refine g_iald (q := 37) (v := nI (S.1 9 i)) hC dX5_usage_36 hM.a9 (vp_in_nI (by omega) (by omega)) (by rw [nI_clamp (by omega)]) rfl ?_
        refine g_iload_n (q := 38) (i := 1) hC dX5_usage_37 rfl rfl rfl ?_
        refine g_icmp_ne (tgt := 59) (q := 41) hC dX5_usage_38 (by decide) rfl (fun c_38 => ?_) (fun c_38 => ?_)
        · refine g_iconst (q := 60) (v := (0)) hC dX5_usage_59 rfl rfl ?_
          exact tail 0 (by rw [if_neg (fun z => c_38 (by rw [z.1]))])
        · have e9 := (nI_eq (by omega) (by omega)).mp c_38
          refine g_aload_n (q := 42) (i := 0) hC dX5_usage_41 rfl rfl rfl ?_
          refine g_getf (q := 45) hC kg_X5_46 dX5_usage_42 hM.1 rfl rfl ?_
          refine g_iload_n (q := 46) (i := 3) hC dX5_usage_45 rfl rfl rfl ?_
          refine g_zald (q := 47) (v := bI (S.2.2 11 i)) hC dX5_usage_46 hM.a11 (vp_in_nI (by omega) (by omega)) (by rw [nI_clamp (by omega)]) rfl ?_
          refine g_if_eq (tgt := 59) (q := 50) hC dX5_usage_47 (by decide) rfl (fun c_47 => ?_) (fun c_47 => ?_)
          · refine g_iconst (q := 60) (v := (0)) hC dX5_usage_59 rfl rfl ?_
            exact tail 0 (by rw [if_neg (fun z => by rw [bI_0.mp c_47] at z; exact absurd z.2 (by decide))])
          · refine g_aload_n (q := 51) (i := 0) hC dX5_usage_50 rfl rfl rfl ?_
            refine g_getf (q := 54) hC kg_X5_43 dX5_usage_51 hM.1 rfl rfl ?_
            refine g_iload_n (q := 55) (i := 3) hC dX5_usage_54 rfl rfl rfl ?_
            refine g_iald (q := 56) (v := S.2.1 10 i) hC dX5_usage_55 hM.a10 (vp_in_nI (by omega) (by omega)) (by rw [nI_clamp (by omega)]) rfl ?_
            refine g_goto (tgt := 60) hC dX5_usage_56 (by decide) ?_
            exact tail _ (by rw [if_pos ⟨e9, bI_n.mp c_47⟩])
  refine g_aload_n (q := 1) (i := 0) hC dX5_usage_0 rfl rfl rfl ?_
  refine g_getf (q := 4) hC kg_X5_36 dX5_usage_1 hM.1 rfl rfl ?_
  refine g_iload_n (q := 5) (i := 1) hC dX5_usage_4 rfl rfl rfl ?_
  refine g_zald (q := 6) (v := bI (S.2.2 8 f)) hC dX5_usage_5 hM.a8 (vp_in_nI (by omega) (by omega)) (by rw [nI_clamp (by omega)]) rfl ?_
  refine g_if_eq (tgt := 13) (q := 9) hC dX5_usage_6 (by decide) rfl (fun c_6 => ?_) (fun c_6 => ?_)
  · refine g_aload_n (q := 14) (i := 0) hC dX5_usage_13 rfl rfl rfl ?_
    refine g_getf (q := 17) hC kg_X5_33 dX5_usage_14 hM.1 rfl rfl ?_
    refine g_iload_n (q := 18) (i := 1) hC dX5_usage_17 rfl rfl rfl ?_
    refine g_iald (q := 19) (v := S.2.1 7 f) hC dX5_usage_18 hM.a7 (vp_in_nI (by omega) (by omega)) (by rw [nI_clamp (by omega)]) rfl ?_
    refine g_istore_n (q := 20) (i := 2) hC dX5_usage_19 rfl (by decide) rfl ?_
    refine g_iconst (q := 21) (v := nI 0) hC dX5_usage_20 rfl rfl ?_
    refine g_istore_n (q := 22) (i := 3) hC dX5_usage_21 rfl (by decide) rfl ?_
    have e : usg S f 0 = S.2.1 7 f := by rw [usg, if_neg (by rw [bI_0.mp c_6]; decide)]
    refine g_sub (lv0 := [(3, .int (nI 0)), (2, .int (S.2.1 7 f)), (0, .ref m), (1, .int (nI f))]) ⟨rfl, rfl, rfl, rfl, trivial⟩ ?_
    rw [← e]
    exact loop (S.1 0 4) 0 (by omega)
  · refine g_iconst (q := 10) (v := (0)) hC dX5_usage_9 rfl rfl ?_
    refine g_goto (tgt := 19) hC dX5_usage_10 (by decide) ?_
    refine g_istore_n (q := 20) (i := 2) hC dX5_usage_19 rfl (by decide) rfl ?_
    refine g_iconst (q := 21) (v := nI 0) hC dX5_usage_20 rfl rfl ?_
    refine g_istore_n (q := 22) (i := 3) hC dX5_usage_21 rfl (by decide) rfl ?_
    have e : usg S f 0 = 0 := by rw [usg, if_pos (bI_n.mp c_6)]
    refine g_sub (lv0 := [(3, .int (nI 0)), (2, .int 0), (0, .ref m), (1, .int (nI f))]) ⟨rfl, rfl, rfl, rfl, trivial⟩ ?_
    rw [← e]
    exact loop (S.1 0 4) 0 (by omega)
set_option maxRecDepth 100000 in
set_option maxHeartbeats 4000000 in
theorem c_M_sum (l : Launch) (hfl : l.stackTraces = false) (M : gMT) (σ : gS) (φ : gS) (m a n : Nat) (ad : Nat → Nat) (rf : Int32) (S : gSt) (hM : Mod M φ σ m ad rf S) (hB : SB S) (ha : a < 9 + S.1 0 2) (hn : n ≤ S.1 0 3) : Con l M yX5_sum (.code yX5_sum cX5_sum 5 (Option.some FieldType.int)) 3 0 0 [.ref m, .int (nI a), .int (nI n)] σ (rI (pI σ (sumA S a n))) (nX) := by
  refine g_con hfl (by decide) (lv := [(0, .ref m), (1, .int (nI a)), (2, .int (nI n))]) rfl rfl (Nat.le_of_ble_eq_true rfl) (fun X hX hC hR htb => ?_)
  have hB0 := hB
  obtain ⟨b1, b2, b3, b4, b5, b6, b7, b8⟩ := hB
  have loop : ∀ (d9 i : Nat), i + d9 = n → G X M 5 (gQ X M 0 0 (rI (pI σ (sumA S a n))) nX) 0 0 σ 5 [(4, .int (nI i)), (3, .int (sumA S a i)), (0, .ref m), (1, .int (nI a)), (2, .int (nI n))] [] := by
    intro d9
    induction d9 with
    | zero =>
      intro i h1
      refine g_iload (q := 7) (i := 4) hC dX5_sum_5 rfl rfl ?_
      refine g_iload_n (q := 8) (i := 2) hC dX5_sum_7 rfl rfl rfl ?_
      refine g_icmp_ge (tgt := 40) (q := 11) hC dX5_sum_8 (by decide) rfl (fun c_8 => ?_) (fun c_8 => ?_)
      · refine g_iload_n (q := 41) (i := 3) hC dX5_sum_40 rfl rfl rfl ?_
        exact g_iret hC hR dX5_sum_41 (by omega) (by omega) (⟨_, rfl, by rw [show i = n by omega], rfl⟩)
      · exact absurd (nI_le (by omega) (by omega)) c_8
    | succ d9 ih =>
      intro i h1
      have e0 : sumA S a (i + 1) = sumA S a i + (if cts S i a = true then usg S i (S.1 0 4) else 0) := rfl
      have tail : ∀ v : Int32, v = (if cts S i a = true then usg S i (S.1 0 4) else 0) → G X M 5 (gQ X M 0 0 (rI (pI σ (sumA S a n))) nX) 0 0 σ 32 [(4, .int (nI i)), (3, .int (sumA S a i)), (0, .ref m), (1, .int (nI a)), (2, .int (nI n))] [.int v, .int (sumA S a i)] := by
        intro v hv
        rw [← hv] at e0
        refine g_iadd (q := 33) (v := (sumA S a (i + 1))) hC dX5_sum_32 e0.symm rfl ?_
        refine g_istore_n (q := 34) (i := 3) hC dX5_sum_33 rfl (by decide) rfl ?_
        refine g_iinc (q := 37) (i := 4) (v := (nI (i + 1))) hC dX5_sum_34 rfl (nI_1 _) rfl ?_
        refine g_goto (tgt := 5) hC dX5_sum_37 (by decide) ?_
        refine g_sub (lv0 := [(4, .int (nI (i + 1))), (3, .int (sumA S a (i + 1))), (0, .ref m), (1, .int (nI a)), (2, .int (nI n))]) ⟨rfl, rfl, rfl, rfl, rfl, trivial⟩ ?_
        exact ih (i + 1) (by omega)
      refine g_iload (q := 7) (i := 4) hC dX5_sum_5 rfl rfl ?_
      refine g_iload_n (q := 8) (i := 2) hC dX5_sum_7 rfl rfl rfl ?_
      refine g_icmp_ge (tgt := 40) (q := 11) hC dX5_sum_8 (by decide) rfl (fun c_8 => ?_) (fun c_8 => ?_)
      · exact absurd c_8 (nI_ge (by omega) (by omega))
      · refine g_iload_n (q := 12) (i := 3) hC dX5_sum_11 rfl rfl rfl ?_
        refine g_aload_n (q := 13) (i := 0) hC dX5_sum_12 rfl rfl rfl ?_
        refine g_iload (q := 15) (i := 4) hC dX5_sum_13 rfl rfl ?_
        refine g_iload_n (q := 16) (i := 1) hC dX5_sum_15 rfl rfl rfl ?_
        refine g_ci (q := 19) (g_runV hC kv_X5_109 md_X5_counts (c_M_counts _ hC.fl M _ φ m i a ad rf S hM hB0 (by omega) ha) (ci := 5) rfl hM.1 dX5_sum_16 (by decide) (by decide) (by omega) (by omega) rfl rfl (Nat.le_of_ble_eq_true rfl)) rfl (fun r σ ⟨e1, e2⟩ => ?_) (fun _ _ h9 => False.elim h9)
        subst e1 e2
        refine g_if_eq (tgt := 31) (q := 22) hC dX5_sum_19 (by decide) rfl (fun c_19 => ?_) (fun c_19 => ?_)
        · refine g_iconst (q := 32) (v := (0)) hC dX5_sum_31 rfl rfl ?_
          exact tail 0 (by rw [if_neg (fun z => by rw [bI_0.mp c_19] at z; cases z)])
        · refine g_aload_n (q := 23) (i := 0) hC dX5_sum_22 rfl rfl rfl ?_
          refine g_iload (q := 25) (i := 4) hC dX5_sum_23 rfl rfl ?_
          refine g_ci (q := 28) (g_runV hC kv_X5_112 md_X5_usage (c_M_usage _ hC.fl M _ φ m i ad rf S hM hB0 (by omega)) (ci := 5) rfl hM.1 dX5_sum_25 (by decide) (by decide) (by omega) (by omega) rfl rfl (Nat.le_of_ble_eq_true rfl)) rfl (fun r σ ⟨e1, e2⟩ => ?_) (fun _ _ h9 => False.elim h9)
          subst e1 e2
          refine g_goto (tgt := 32) hC dX5_sum_28 (by decide) ?_
          exact tail _ (by rw [if_pos (bI_n.mp c_19)])
  refine g_iconst (q := 1) (v := (0)) hC dX5_sum_0 rfl rfl ?_
  refine g_istore_n (q := 2) (i := 3) hC dX5_sum_1 rfl (by decide) rfl ?_
  refine g_iconst (q := 3) (v := nI 0) hC dX5_sum_2 rfl rfl ?_
  refine g_istore (q := 5) (i := 4) hC dX5_sum_3 (by decide) rfl ?_
  refine g_sub (lv0 := [(4, .int (nI 0)), (3, .int 0), (0, .ref m), (1, .int (nI a)), (2, .int (nI n))]) ⟨rfl, rfl, rfl, rfl, rfl, trivial⟩ ?_
  exact loop n 0 (by omega)
theorem cntF_le (S : gSt) (a : Nat) : ∀ n, cntF S a n ≤ n := by
  intro n
  induction n with
  | zero => exact Nat.le_refl _
  | succ n ih =>
    unfold cntF
    split <;> omega
set_option maxRecDepth 100000 in
set_option maxHeartbeats 4000000 in
theorem c_M_countFiles (l : Launch) (hfl : l.stackTraces = false) (M : gMT) (σ : gS) (φ : gS) (m a : Nat) (ad : Nat → Nat) (rf : Int32) (S : gSt) (hM : Mod M φ σ m ad rf S) (hB : SB S) (ha : a < 9 + S.1 0 2) : Con l M yX5_countFiles (.code yX5_countFiles cX5_countFiles 4 (Option.some FieldType.int)) 3 0 0 [.ref m, .int (nI a)] σ (rI (pI σ (nI (cntF S a (S.1 0 3))))) (nX) := by
  refine g_con hfl (by decide) (lv := [(0, .ref m), (1, .int (nI a))]) rfl rfl (Nat.le_of_ble_eq_true rfl) (fun X hX hC hR htb => ?_)
  have hB0 := hB
  obtain ⟨b1, b2, b3, b4, b5, b6, b7, b8⟩ := hB
  have loop : ∀ (d9 i : Nat), i + d9 = S.1 0 3 → G X M 4 (gQ X M 0 0 (rI (pI σ (nI (cntF S a (S.1 0 3))))) nX) 0 0 σ 4 [(3, .int (nI i)), (2, .int (nI (cntF S a i))), (0, .ref m), (1, .int (nI a))] [] := by
    intro d9
    induction d9 with
    | zero =>
      intro i h1
      refine g_iload_n (q := 5) (i := 3) hC dX5_countFiles_4 rfl rfl rfl ?_
      refine g_aload_n (q := 6) (i := 0) hC dX5_countFiles_5 rfl rfl rfl ?_
      refine g_getf (q := 9) hC kg_X5_115 dX5_countFiles_6 hM.1 rfl rfl ?_
      refine g_icmp_ge (tgt := 35) (q := 12) hC dX5_countFiles_9 (by decide) rfl (fun c_9 => ?_) (fun c_9 => ?_)
      · refine g_iload_n (q := 36) (i := 2) hC dX5_countFiles_35 rfl rfl rfl ?_
        exact g_iret hC hR dX5_countFiles_36 (by omega) (by omega) (⟨_, rfl, by rw [show i = S.1 0 3 by omega], rfl⟩)
      · exact absurd (nI_le (by omega) (by omega)) c_9
    | succ d9 ih =>
      intro i h1
      have e0 : cntF S a (i + 1) = cntF S a i + (if cts S i a = true then 1 else 0) := rfl
      have tail : ∀ v : Nat, v = (if cts S i a = true then 1 else 0) → G X M 4 (gQ X M 0 0 (rI (pI σ (nI (cntF S a (S.1 0 3))))) nX) 0 0 σ 27 [(3, .int (nI i)), (2, .int (nI (cntF S a i))), (0, .ref m), (1, .int (nI a))] [.int (nI v), .int (nI (cntF S a i))] := by
        intro v hv
        rw [← hv] at e0
        refine g_iadd (q := 28) (v := nI (cntF S a (i + 1))) hC dX5_countFiles_27 (by rw [e0, nI_add]) rfl ?_
        refine g_istore_n (q := 29) (i := 2) hC dX5_countFiles_28 rfl (by decide) rfl ?_
        refine g_iinc (q := 32) (i := 3) (v := (nI (i + 1))) hC dX5_countFiles_29 rfl (nI_1 _) rfl ?_
        refine g_goto (tgt := 4) hC dX5_countFiles_32 (by decide) ?_
        refine g_sub (lv0 := [(3, .int (nI (i + 1))), (2, .int (nI (cntF S a (i + 1)))), (0, .ref m), (1, .int (nI a))]) ⟨rfl, rfl, rfl, rfl, trivial⟩ ?_
        exact ih (i + 1) (by omega)
      refine g_iload_n (q := 5) (i := 3) hC dX5_countFiles_4 rfl rfl rfl ?_
      refine g_aload_n (q := 6) (i := 0) hC dX5_countFiles_5 rfl rfl rfl ?_
      refine g_getf (q := 9) hC kg_X5_115 dX5_countFiles_6 hM.1 rfl rfl ?_
      refine g_icmp_ge (tgt := 35) (q := 12) hC dX5_countFiles_9 (by decide) rfl (fun c_9 => ?_) (fun c_9 => ?_)
      · exact absurd c_9 (nI_ge (by omega) (by omega))
      · refine g_iload_n (q := 13) (i := 2) hC dX5_countFiles_12 rfl rfl rfl ?_
        refine g_aload_n (q := 14) (i := 0) hC dX5_countFiles_13 rfl rfl rfl ?_
        refine g_iload_n (q := 15) (i := 3) hC dX5_countFiles_14 rfl rfl rfl ?_
        refine g_iload_n (q := 16) (i := 1) hC dX5_countFiles_15 rfl rfl rfl ?_
        refine g_ci (q := 19) (g_runV hC kv_X5_109 md_X5_counts (c_M_counts _ hC.fl M _ φ m i a ad rf S hM hB0 (by omega) ha) (ci := 5) rfl hM.1 dX5_countFiles_16 (by decide) (by decide) (by omega) (by omega) rfl rfl (Nat.le_of_ble_eq_true rfl)) rfl (fun r σ ⟨e1, e2⟩ => ?_) (fun _ _ h9 => False.elim h9)
        subst e1 e2
        refine g_if_eq (tgt := 26) (q := 22) hC dX5_countFiles_19 (by decide) rfl (fun c_19 => ?_) (fun c_19 => ?_)
        · refine g_iconst (q := 27) (v := nI 0) hC dX5_countFiles_26 rfl rfl ?_
          exact tail 0 (by rw [if_neg (fun z => by rw [bI_0.mp c_19] at z; cases z)])
        · refine g_iconst (q := 23) (v := nI 1) hC dX5_countFiles_22 rfl rfl ?_
          refine g_goto (tgt := 27) hC dX5_countFiles_23 (by decide) ?_
          exact tail 1 (by rw [if_pos (bI_n.mp c_19)])
  refine g_iconst (q := 1) (v := nI 0) hC dX5_countFiles_0 rfl rfl ?_
  refine g_istore_n (q := 2) (i := 2) hC dX5_countFiles_1 rfl (by decide) rfl ?_
  refine g_iconst (q := 3) (v := nI 0) hC dX5_countFiles_2 rfl rfl ?_
  refine g_istore_n (q := 4) (i := 3) hC dX5_countFiles_3 rfl (by decide) rfl ?_
  refine g_sub (lv0 := [(3, .int (nI 0)), (2, .int (nI 0)), (0, .ref m), (1, .int (nI a))]) ⟨rfl, rfl, rfl, rfl, trivial⟩ ?_
  exact loop (S.1 0 3) 0 (by omega)
/-! states that differ in one column of ints -/
def colI (S : gSt) (c : Nat) (g : Nat → Int32) : gSt := (S.1, (fun c' i => if c' = c then g i else S.2.1 c' i), S.2.2)
def eqX (x : Nat) (S S2 : gSt) : Prop := S2.1 = S.1 ∧ S2.2.2 = S.2.2 ∧ ∀ c, c ≠ x → S2.2.1 c = S.2.1 c
theorem eqX_col (S : gSt) (c : Nat) (g : Nat → Int32) : eqX c S (colI S c g) := ⟨rfl, rfl, fun c' h => by
  funext i
  exact if_neg h⟩
theorem lEq_X {x : Nat} {S S2 : gSt} (h : eqX x S S2) (hx : x ≠ 3) (p q n : Nat) : lEq S2 p q n = lEq S p q n := by
  unfold lEq
  rw [h.2.2 3 (Ne.symm hx)]
theorem wIn_X {x : Nat} {S S2 : gSt} (h : eqX x S S2) (hx : x ≠ 3) (p q : Nat) : wIn S2 p q = wIn S p q := by
  unfold wIn
  rw [lEq_X h hx, h.1]
theorem cts_X {x : Nat} {S S2 : gSt} (h : eqX x S S2) (hx : x ≠ 3) (f a : Nat) : cts S2 f a = cts S f a := by
  unfold cts
  rw [wIn_X h hx, h.1, h.2.1]
theorem usg_X {x : Nat} {S S2 : gSt} (h : eqX x S S2) (h7 : x ≠ 7) (h10 : x ≠ 10) (f : Nat) : ∀ n, usg S2 f n = usg S f n := by
  intro n
  induction n with
  | zero => rw [usg, usg, h.2.1, h.2.2 7 (Ne.symm h7)]
  | succ n ih => rw [usg, usg, ih, h.1, h.2.1, h.2.2 10 (Ne.symm h10)]
theorem sumA_X {x : Nat} {S S2 : gSt} (h : eqX x S S2) (hx : x ≠ 3) (h7 : x ≠ 7) (h10 : x ≠ 10) (a : Nat) : ∀ n, sumA S2 a n = sumA S a n := by
  intro n
  induction n with
  | zero => rfl
  | succ n ih => rw [sumA, sumA, ih, cts_X h hx, usg_X h h7 h10, h.1]
theorem SB_X {x : Nat} {S S2 : gSt} (h : eqX x S S2) (hB : SB S) : SB S2 := by
  unfold SB
  rw [h.1]
  exact hB
def lkA (S : gSt) (a : Nat) : Int32 := if (!decide (S.2.1 12 a = -1) && decide (S.2.1 12 a < sumA S a (S.1 0 3))) = true then (if S.2.1 15 a = -1 then S.2.1 0 0 else S.2.1 15 a) else -1
def lkN (S : gSt) (n : Nat) : gSt := colI S 15 (fun a => if a < n then lkA S a else S.2.1 15 a)
def lkS (S : gSt) : gSt := lkN S (9 + S.1 0 2)
theorem lkN_0 (S : gSt) : lkN S 0 = S := by
  have e : (fun c' i => if c' = 15 then (if i < 0 then lkA S i else S.2.1 15 i) else S.2.1 c' i) = S.2.1 := by
    funext c' i
    by_cases h : c' = 15
    · subst h
      rw [if_pos rfl, if_neg (Nat.not_lt_zero _)]
    · rw [if_neg h]
  unfold lkN colI
  rw [e]
theorem lkN_s (S : gSt) (n : Nat) : sI (lkN S n) 15 n (lkA S n) = lkN S (n + 1) := by
  have e : up2 (lkN S n).2.1 15 n (lkA S n) = (lkN S (n + 1)).2.1 := by
    funext c' i
    unfold lkN colI up2
    dsimp only
    by_cases h : c' = 15
    · subst h
      rw [if_pos rfl, if_pos rfl]
      by_cases hi : i = n
      · subst hi
        rw [if_pos ⟨rfl, rfl⟩, if_pos (by omega)]
      · rw [if_neg (fun z => hi z.2)]
        by_cases hl : i < n
        · rw [if_pos hl, if_pos (by omega)]
        · rw [if_neg hl, if_neg (by omega)]
    · rw [if_neg (fun z => h z.1), if_neg h, if_neg h]
  unfold sI
  rw [e]
  rfl
theorem lk_1 (S : gSt) (n : Nat) : (lkN S n).1 = S.1 := rfl
theorem lk_2 (S : gSt) (n : Nat) : (lkN S n).2.2 = S.2.2 := rfl
theorem lk_col (S : gSt) (n : Nat) {c : Nat} (h : c ≠ 15) : (lkN S n).2.1 c = S.2.1 c := (eqX_col S 15 _).2.2 c h
theorem lk_15 (S : gSt) (n : Nat) : (lkN S n).2.1 15 n = S.2.1 15 n := by
  show (if (15 : Nat) = 15 then (if n < n then lkA S n else S.2.1 15 n) else S.2.1 15 n) = S.2.1 15 n
  rw [if_pos rfl, if_neg (Nat.lt_irrefl _)]
set_option maxRecDepth 100000 in
set_option maxHeartbeats 4000000 in
theorem c_M_look (l : Launch) (hfl : l.stackTraces = false) (M : gMT) (σ : gS) (φ : gS) (m : Nat) (ad : Nat → Nat) (rf : Int32) (S : gSt) (hM : Mod M φ σ m ad rf S) (hB : SB S) : Con l M yX5_look (.code yX5_look cX5_look 3 (Option.none : Option FieldType)) 4 0 0 [.ref m] σ (rV fun σ2 => Mod M φ σ2 m ad rf (lkS S)) (nX) := by
  refine g_con hfl (by decide) (lv := [(0, .ref m)]) rfl rfl (Nat.le_of_ble_eq_true rfl) (fun X hX hC hR htb => ?_)
  have hB0 := hB
  obtain ⟨b1, b2, b3, b4, b5, b6, b7, b8⟩ := hB
  have loop : ∀ (d9 i : Nat) (σ3 : gS), i + d9 = 9 + S.1 0 2 → Mod M φ σ3 m ad rf (lkN S i) → G X M 3 (gQ X M 0 0 (rV fun σ2 => Mod M φ σ2 m ad rf (lkS S)) nX) 0 0 σ3 2 [(1, .int (nI i)), (0, .ref m)] [] := by
    intro d9
    induction d9 with
    | zero =>
      intro i σ3 h1 hM3
      have e1 : (lkN S i).1 0 2 = S.1 0 2 := rfl
      refine g_iload_n (q := 3) (i := 1) hC dX5_look_2 rfl rfl rfl ?_
      refine g_bipush (q := 5) (v := nI 9) hC dX5_look_3 rfl rfl ?_
      refine g_aload_n (q := 6) (i := 0) hC dX5_look_5 rfl rfl rfl ?_
      refine g_getf (q := 9) hC kg_X5_16 dX5_look_6 hM3.1 rfl rfl ?_
      refine g_iadd (q := 10) (v := (nI (9 + ((lkN S i).1 0 2)))) hC dX5_look_9 (nI_add _ _) rfl ?_
      refine g_icmp_ge (tgt := 90) (q := 13) hC dX5_look_10 (by decide) rfl (fun c_10 => ?_) (fun c_10 => ?_)
      · skip
        exact g_vret hC hR dX5_look_90 (by omega) (by omega) (⟨rfl, by rw [show i = 9 + S.1 0 2 by omega] at hM3; exact hM3⟩)
      · exact absurd (nI_le (show 9 + S.1 0 2 ≤ i by omega) (by omega)) c_10
    | succ d9 ih =>
      intro i σ3 h1 hM3
      have e1 : (lkN S i).1 0 2 = S.1 0 2 := rfl
      have e3 : (lkN S i).1 0 3 = S.1 0 3 := rfl
      have hX9 := eqX_col S 15 (fun a => if a < i then lkA S a else S.2.1 15 a)
      have hB3 : SB (lkN S i) := SB_X hX9 hB0
      have esum : sumA (lkN S i) i (S.1 0 3) = sumA S i (S.1 0 3) := sumA_X hX9 (by decide) (by decide) (by decide) i _
      have e12 : (lkN S i).2.1 12 = S.2.1 12 := lk_col S i (by decide)
      have store : ∀ v : Int32, v = lkA S i → ∀ w : Int32, G X M 3 (gQ X M 0 0 (rV fun σ2 => Mod M φ σ2 m ad rf (lkS S)) nX) 0 0 σ3 83 [(2, .int w), (1, .int (nI i)), (0, .ref m)] [.int v, .int (nI i), .ref (ad 15)] := by
        intro v hv w
        refine g_iast (q := 84) hC dX5_look_83 hM3.a15 (vp_in_nI (by omega) (by omega)) rfl ?_
        rw [nI_clamp (by omega)]
        have hM4 := hM3.w15 i v
        rw [hv, lkN_s] at hM4
        rw [hv]
        refine g_iinc (q := 87) (i := 1) (v := (nI (i + 1))) hC dX5_look_84 rfl (nI_1 _) rfl ?_
        refine g_goto (tgt := 2) hC dX5_look_87 (by decide) ?_
        refine g_sub (lv0 := [(1, .int (nI (i + 1))), (0, .ref m)]) ⟨rfl, rfl, trivial⟩ ?_
        exact ih (i + 1) _ (by omega) hM4
      have tail : ∀ b : Bool, b = (!decide (S.2.1 12 i = -1) && decide (S.2.1 12 i < sumA S i (S.1 0 3))) → G X M 3 (gQ X M 0 0 (rV fun σ2 => Mod M φ σ2 m ad rf (lkS S)) nX) 0 0 σ3 46 [(1, .int (nI i)), (0, .ref m)] [.int (bI b)] := by
        intro b hb
        refine g_istore_n (q := 47) (i := 2) hC dX5_look_46 rfl (by decide) rfl ?_
        refine g_aload_n (q := 48) (i := 0) hC dX5_look_47 rfl rfl rfl ?_
        refine g_getf (q := 51) hC kg_X5_58 dX5_look_48 hM3.1 rfl rfl ?_
        refine g_iload_n (q := 52) (i := 1) hC dX5_look_51 rfl rfl rfl ?_
        refine g_iload_n (q := 53) (i := 2) hC dX5_look_52 rfl rfl rfl ?_
        refine g_if_ne (tgt := 60) (q := 56) hC dX5_look_53 (by decide) rfl (fun c_53 => ?_) (fun c_53 => ?_)
        · refine g_aload_n (q := 61) (i := 0) hC dX5_look_60 rfl rfl rfl ?_
          refine g_getf (q := 64) hC kg_X5_58 dX5_look_61 hM3.1 rfl rfl ?_
          refine g_iload_n (q := 65) (i := 1) hC dX5_look_64 rfl rfl rfl ?_
          refine g_iald (q := 66) (v := (lkN S i).2.1 15 i) hC dX5_look_65 hM3.a15 (vp_in_nI (by omega) (by omega)) (by rw [nI_clamp (by omega)]) rfl ?_
          refine g_iconst (q := 67) (v := (-1)) hC dX5_look_66 rfl rfl ?_
          refine g_icmp_ne (tgt := 77) (q := 70) hC dX5_look_67 (by decide) rfl (fun c_67 => ?_) (fun c_67 => ?_)
          · refine g_aload_n (q := 78) (i := 0) hC dX5_look_77 rfl rfl rfl ?_
            refine g_getf (q := 81) hC kg_X5_58 dX5_look_78 hM3.1 rfl rfl ?_
            refine g_iload_n (q := 82) (i := 1) hC dX5_look_81 rfl rfl rfl ?_
            refine g_iald (q := 83) (v := (lkN S i).2.1 15 i) hC dX5_look_82 hM3.a15 (vp_in_nI (by omega) (by omega)) (by rw [nI_clamp (by omega)]) rfl ?_
            refine g_sub (lv0 := [(2, .int (bI b)), (1, .int (nI i)), (0, .ref m)]) ⟨rfl, rfl, rfl, trivial⟩ ?_
            exact store _ (by rw [lkA, if_pos (by rw [← hb]; exact bI_n.mp c_53), lk_15, if_neg (by rw [← lk_15 S i]; exact c_67)]) _
          · refine g_aload_n (q := 71) (i := 0) hC dX5_look_70 rfl rfl rfl ?_
            refine g_getf (q := 74) hC kg_X5_122 dX5_look_71 hM3.1 rfl rfl ?_
            refine g_goto (tgt := 83) hC dX5_look_74 (by decide) ?_
            refine g_sub (lv0 := [(2, .int (bI b)), (1, .int (nI i)), (0, .ref m)]) ⟨rfl, rfl, rfl, trivial⟩ ?_
            exact store _ (by rw [lkA, if_pos (by rw [← hb]; exact bI_n.mp c_53), if_pos (by rw [← lk_15 S i]; exact c_67), lk_col S i (by decide)]) _
        · refine g_iconst (q := 57) (v := (-1)) hC dX5_look_56 rfl rfl ?_
          refine g_goto (tgt := 83) hC dX5_look_57 (by decide) ?_
          refine g_sub (lv0 := [(2, .int (bI b)), (1, .int (nI i)), (0, .ref m)]) ⟨rfl, rfl, rfl, trivial⟩ ?_
          exact store _ (by rw [lkA, if_neg (by rw [← hb, bI_0.mp c_53]; decide)]) _
      refine g_iload_n (q := 3) (i := 1) hC dX5_look_2 rfl rfl rfl ?_
      refine g_bipush (q := 5) (v := nI 9) hC dX5_look_3 rfl rfl ?_
      refine g_aload_n (q := 6) (i := 0) hC dX5_look_5 rfl rfl rfl ?_
      refine g_getf (q := 9) hC kg_X5_16 dX5_look_6 hM3.1 rfl rfl ?_
      refine g_iadd (q := 10) (v := (nI (9 + ((lkN S i).1 0 2)))) hC dX5_look_9 (nI_add _ _) rfl ?_
      refine g_icmp_ge (tgt := 90) (q := 13) hC dX5_look_10 (by decide) rfl (fun c_10 => ?_) (fun c_10 => ?_)
      · exact absurd c_10 (nI_ge (show i < 9 + S.1 0 2 by omega) (by omega))
      · refine g_aload_n (q := 14) (i := 0) hC dX5_look_13 rfl rfl rfl ?_
        refine g_getf (q := 17) hC kg_X5_49 dX5_look_14 hM3.1 rfl rfl ?_
        refine g_iload_n (q := 18) (i := 1) hC dX5_look_17 rfl rfl rfl ?_
        refine g_iald (q := 19) (v := (lkN S i).2.1 12 i) hC dX5_look_18 hM3.a12 (vp_in_nI (by omega) (by omega)) (by rw [nI_clamp (by omega)]) rfl ?_
        refine g_iconst (q := 20) (v := (-1)) hC dX5_look_19 rfl rfl ?_
        refine g_icmp_eq (tgt := 45) (q := 23) hC dX5_look_20 (by decide) rfl (fun c_20 => ?_) (fun c_20 => ?_)
        · refine g_iconst (q := 46) (v := (0)) hC dX5_look_45 rfl rfl ?_
          exact tail false (by rw [← e12, decide_eq_true c_20]; rfl)
        · refine g_aload_n (q := 24) (i := 0) hC dX5_look_23 rfl rfl rfl ?_
          refine g_iload_n (q := 25) (i := 1) hC dX5_look_24 rfl rfl rfl ?_
          refine g_aload_n (q := 26) (i := 0) hC dX5_look_25 rfl rfl rfl ?_
          refine g_getf (q := 29) hC kg_X5_115 dX5_look_26 hM3.1 rfl rfl ?_
          refine g_ci (q := 32) (g_runV hC kv_X5_118 md_X5_sum (c_M_sum _ hC.fl M _ φ m i (S.1 0 3) ad rf (lkN S i) hM3 hB3 (by rw [e1]; omega) (Nat.le_refl _)) (ci := 5) rfl hM3.1 dX5_look_29 (by decide) (by decide) (by omega) (by omega) rfl rfl (Nat.le_of_ble_eq_true rfl)) rfl (fun r σ ⟨q1, q2⟩ => ?_) (fun _ _ h9 => False.elim h9)
          subst q1 q2
          refine g_aload_n (q := 33) (i := 0) hC dX5_look_32 rfl rfl rfl ?_
          refine g_getf (q := 36) hC kg_X5_49 dX5_look_33 hM3.1 rfl rfl ?_
          refine g_iload_n (q := 37) (i := 1) hC dX5_look_36 rfl rfl rfl ?_
          refine g_iald (q := 38) (v := (lkN S i).2.1 12 i) hC dX5_look_37 hM3.a12 (vp_in_nI (by omega) (by omega)) (by rw [nI_clamp (by omega)]) rfl ?_
          refine g_icmp_le (tgt := 45) (q := 41) hC dX5_look_38 (by decide) rfl (fun c_38 => ?_) (fun c_38 => ?_)
          · refine g_iconst (q := 46) (v := (0)) hC dX5_look_45 rfl rfl ?_
            exact tail false (by
              have hz : decide (S.2.1 12 i < sumA S i (S.1 0 3)) = false := decide_eq_false (fun z => by
                rw [esum, e12] at c_38
                rw [Int32.le_iff_toInt_le] at c_38
                rw [Int32.lt_iff_toInt_lt] at z
                omega)
              rw [hz, Bool.and_false])
          · refine g_iconst (q := 42) (v := (1)) hC dX5_look_41 rfl rfl ?_
            refine g_goto (tgt := 46) hC dX5_look_42 (by decide) ?_
            exact tail true (by
              rw [esum, e12] at c_38
              rw [e12] at c_20
              have hz : decide (S.2.1 12 i < sumA S i (S.1 0 3)) = true := decide_eq_true (by
                rw [Int32.le_iff_toInt_le] at c_38
                rw [Int32.lt_iff_toInt_lt]
                omega)
              rw [hz, decide_eq_false c_20]
              rfl)
  refine g_iconst (q := 1) (v := nI 0) hC dX5_look_0 rfl rfl ?_
  refine g_istore_n (q := 2) (i := 1) hC dX5_look_1 rfl (by decide) rfl ?_
  refine g_sub (lv0 := [(1, .int (nI 0)), (0, .ref m)]) ⟨rfl, rfl, trivial⟩ ?_
  exact loop (9 + S.1 0 2) 0 σ (by omega) (by rw [lkN_0]; exact hM)
