/-! ===== Math.max, Math.min; the accounts ===== -/
/-- what an account's object holds: soft, hard, file limit, blocks, files, counted, over, since -/
def accV (s h f u n c o w : Int32) : List Value := [.int s, .int h, .int f, .int u, .int n, .int c, .int o, .int w]
def fOver (s u : Int32) : Prop := ¬ s = -1 ∧ s < u
def fO (s u : Int32) : Int32 := if s = -1 then 0 else if u ≤ s then 0 else 1
def fGrace (o w clk : Int32) : Int32 := if o = 0 then -1 else iMax 0 (48 - (clk - w))
def fLeft (h u o w clk : Int32) : Int32 := if fGrace o w clk = 0 then 0 else if h = -1 then -1 else iMax 0 (h - u)
def fBar (h f u n o w mb mf clk : Int32) : Bool := (decide (0 < mb) && !decide (fLeft h u o w clk = -1) && decide (fLeft h u o w clk < mb)) || (decide (0 < mf) && !decide (f = -1) && decide (f < n + mf))
def bI (b : Bool) : Int32 := if b = true then 1 else 0
set_option maxRecDepth 100000 in
set_option maxHeartbeats 4000000 in
theorem c_X0_add (l : Launch) (hfl : l.stackTraces = false) (M : gMT) (σ : gS) (a : Nat) (s h f u n c o w b m : Int32) (hA : σ a = some (oB 0 (accV s h f u n c o w))) : Con l M yX0_add (.code yX0_add cX0_add 3 (Option.none : Option FieldType)) 1 0 0 [.ref a, .int b, .int m] σ (rV fun σ2 => σ2 = gUp σ a (oB 0 (accV s h f (u + b) (n + m) c o w))) (nX) := by
  refine g_con hfl (by decide) (lv := [(0, .ref a), (1, .int b), (2, .int m)]) rfl rfl (Nat.le_of_ble_eq_true rfl) (fun X hX hC hR htb => ?_)
  refine g_aload_n (q := 1) (i := 0) hC dX0_add_0 rfl rfl rfl ?_
  refine g_dup (q := 2) hC dX0_add_1 rfl rfl ?_
  refine g_getf (q := 5) hC kg_X0_21 dX0_add_2 hA rfl rfl ?_
  refine g_iload_n (q := 6) (i := 1) hC dX0_add_5 rfl rfl rfl ?_
  refine g_iadd (q := 7) hC dX0_add_6 rfl rfl ?_
  refine g_putf (q := 10) hC kf_X0_21 dX0_add_7 hA (Nat.le_of_ble_eq_true rfl) rfl rfl rfl ?_
  refine g_aload_n (q := 11) (i := 0) hC dX0_add_10 rfl rfl rfl ?_
  refine g_dup (q := 12) hC dX0_add_11 rfl rfl ?_
  refine g_getf (q := 15) hC kg_X0_24 dX0_add_12 (gUp_self _ _ _) rfl rfl ?_
  refine g_iload_n (q := 16) (i := 2) hC dX0_add_15 rfl rfl rfl ?_
  refine g_iadd (q := 17) hC dX0_add_16 rfl rfl ?_
  refine g_putf2 (q := 20) hC kf_X0_24 dX0_add_17 (Nat.le_of_ble_eq_true rfl) rfl rfl rfl ?_
  exact g_vret hC hR dX0_add_20 (by omega) (by omega) (⟨rfl, rfl⟩)
set_option maxRecDepth 100000 in
set_option maxHeartbeats 4000000 in
theorem c_X0_noteOver (l : Launch) (hfl : l.stackTraces = false) (M : gMT) (σ : gS) (a : Nat) (s h f u n c o w clk : Int32) (hA : σ a = some (oB 0 (accV s h f u n c o w))) : Con l M yX0_noteOver (.code yX0_noteOver cX0_noteOver 3 (Option.none : Option FieldType)) 1 0 0 [.ref a, .int clk] σ (rV fun σ2 => σ2 = gUp σ a (oB 0 (accV s h f u n c (fO s u) (if fO s u = 1 ∧ o = 0 then clk else w)))) (nX) := by
  refine g_con hfl (by decide) (lv := [(0, .ref a), (1, .int clk)]) rfl rfl (Nat.le_of_ble_eq_true rfl) (fun X hX hC hR htb => ?_)
  have tail : ∀ (v : Int32) (σ9 : gS) (w9 : Int32), v = fO s u → w9 = (if fO s u = 1 ∧ o = 0 then clk else w) → σ9 a = some (oB 0 (accV s h f u n c o w9)) → gUp σ9 a (oB 0 (accV s h f u n c v w9)) = gUp σ a (oB 0 (accV s h f u n c v w9)) → narrow .boolean (.int v) = .int v → fits .boolean (.int v) = true → G X M 3 (gQ X M 0 0 (rV fun σ2 => σ2 = gUp σ a (oB 0 (accV s h f u n c (fO s u) (if fO s u = 1 ∧ o = 0 then clk else w)))) nX) 0 0 σ9 41 [(2, .int v), (0, .ref a), (1, .int clk)] [] := by
    intro v σ9 w9 hv hw hA9 he hn9 hf9
    refine g_aload_n (q := 42) (i := 0) hC dX0_noteOver_41 rfl rfl rfl ?_
    refine g_iload_n (q := 43) (i := 2) hC dX0_noteOver_42 rfl rfl rfl ?_
    refine g_putf (q := 46) hC kf_X0_30 dX0_noteOver_43 hA9 (Nat.le_of_ble_eq_true rfl) hn9 hf9 rfl ?_
    exact g_vret hC hR dX0_noteOver_46 (by omega) (by omega) (⟨rfl, by subst hv hw; exact he⟩)
  refine g_aload_n (q := 1) (i := 0) hC dX0_noteOver_0 rfl rfl rfl ?_
  refine g_getf (q := 4) hC kg_X0_9 dX0_noteOver_1 hA rfl rfl ?_
  refine g_iconst (q := 5) (v := (-1)) hC dX0_noteOver_4 rfl rfl ?_
  refine g_icmp_eq (tgt := 23) (q := 8) hC dX0_noteOver_5 (by decide) rfl (fun c_5 => ?_) (fun c_5 => ?_)
  · refine g_iconst (q := 24) (v := (0)) hC dX0_noteOver_23 rfl rfl ?_
    refine g_istore_n (q := 25) (i := 2) hC dX0_noteOver_24 rfl (by decide) rfl ?_
    refine g_iload_n (q := 26) (i := 2) hC dX0_noteOver_25 rfl rfl rfl ?_
    refine g_if_eq (tgt := 41) (q := 29) hC dX0_noteOver_26 (by decide) rfl (fun c_26 => ?_) (fun c_26 => ?_)
    · have e : fO s u = 0 := by rw [fO, if_pos c_5]
      refine g_sub (lv0 := [(2, .int 0), (0, .ref a), (1, .int clk)]) ⟨rfl, rfl, rfl, trivial⟩ ?_
      exact (tail 0 σ w e.symm (by rw [e]; rfl) hA rfl rfl rfl)
    · exact absurd rfl c_26
  · refine g_aload_n (q := 9) (i := 0) hC dX0_noteOver_8 rfl rfl rfl ?_
    refine g_getf (q := 12) hC kg_X0_21 dX0_noteOver_9 hA rfl rfl ?_
    refine g_aload_n (q := 13) (i := 0) hC dX0_noteOver_12 rfl rfl rfl ?_
    refine g_getf (q := 16) hC kg_X0_9 dX0_noteOver_13 hA rfl rfl ?_
    refine g_icmp_le (tgt := 23) (q := 19) hC dX0_noteOver_16 (by decide) rfl (fun c_16 => ?_) (fun c_16 => ?_)
    · refine g_iconst (q := 24) (v := (0)) hC dX0_noteOver_23 rfl rfl ?_
      refine g_istore_n (q := 25) (i := 2) hC dX0_noteOver_24 rfl (by decide) rfl ?_
      refine g_iload_n (q := 26) (i := 2) hC dX0_noteOver_25 rfl rfl rfl ?_
      refine g_if_eq (tgt := 41) (q := 29) hC dX0_noteOver_26 (by decide) rfl (fun c_26 => ?_) (fun c_26 => ?_)
      · have e : fO s u = 0 := by rw [fO, if_neg c_5, if_pos c_16]
        refine g_sub (lv0 := [(2, .int 0), (0, .ref a), (1, .int clk)]) ⟨rfl, rfl, rfl, trivial⟩ ?_
        exact (tail 0 σ w e.symm (by rw [e]; rfl) hA rfl rfl rfl)
      · exact absurd rfl c_26
    · have e : fO s u = 1 := by rw [fO, if_neg c_5, if_neg c_16]
      refine g_iconst (q := 20) (v := (1)) hC dX0_noteOver_19 rfl rfl ?_
      refine g_goto (tgt := 24) hC dX0_noteOver_20 (by decide) ?_
      refine g_istore_n (q := 25) (i := 2) hC dX0_noteOver_24 rfl (by decide) rfl ?_
      refine g_iload_n (q := 26) (i := 2) hC dX0_noteOver_25 rfl rfl rfl ?_
      refine g_if_eq (tgt := 41) (q := 29) hC dX0_noteOver_26 (by decide) rfl (fun c_26 => ?_) (fun c_26 => ?_)
      · exact absurd c_26 (by decide)
      · refine g_aload_n (q := 30) (i := 0) hC dX0_noteOver_29 rfl rfl rfl ?_
        refine g_getf (q := 33) hC kg_X0_30 dX0_noteOver_30 hA rfl rfl ?_
        refine g_if_ne (tgt := 41) (q := 36) hC dX0_noteOver_33 (by decide) rfl (fun c_33 => ?_) (fun c_33 => ?_)
        · refine g_sub (lv0 := [(2, .int 1), (0, .ref a), (1, .int clk)]) ⟨rfl, rfl, rfl, trivial⟩ ?_
          exact tail 1 σ w e.symm (by rw [if_neg (fun z => c_33 z.2)]) hA rfl rfl rfl
        · refine g_aload_n (q := 37) (i := 0) hC dX0_noteOver_36 rfl rfl rfl ?_
          refine g_iload_n (q := 38) (i := 1) hC dX0_noteOver_37 rfl rfl rfl ?_
          refine g_putf (q := 41) hC kf_X0_34 dX0_noteOver_38 hA (Nat.le_of_ble_eq_true rfl) rfl rfl rfl ?_
          refine g_sub (lv0 := [(2, .int 1), (0, .ref a), (1, .int clk)]) ⟨rfl, rfl, rfl, trivial⟩ ?_
          exact tail 1 _ clk e.symm (by rw [if_pos ⟨e, c_33⟩]) (gUp_self _ _ _) (gUp_up _ _ _ _) rfl rfl
set_option maxRecDepth 100000 in
set_option maxHeartbeats 4000000 in
theorem c_X0_graceLeft (l : Launch) (hfl : l.stackTraces = false) (M : gMT) (σ : gS) (a : Nat) (s h f u n c o w clk : Int32) (hA : σ a = some (oB 0 (accV s h f u n c o w))) : Con l M yX0_graceLeft (.code yX0_graceLeft cX0_graceLeft 2 (Option.some FieldType.int)) 2 0 0 [.ref a, .int clk] σ (rI fun r σ2 => r = fGrace o w clk ∧ σ2 = σ) (nX) := by
  refine g_con hfl (by decide) (lv := [(0, .ref a), (1, .int clk)]) rfl rfl (Nat.le_of_ble_eq_true rfl) (fun X hX hC hR htb => ?_)
  refine g_aload_n (q := 1) (i := 0) hC dX0_graceLeft_0 rfl rfl rfl ?_
  refine g_getf (q := 4) hC kg_X0_30 dX0_graceLeft_1 hA rfl rfl ?_
  refine g_if_ne (tgt := 9) (q := 7) hC dX0_graceLeft_4 (by decide) rfl (fun c_4 => ?_) (fun c_4 => ?_)
  · refine g_iconst (q := 10) (v := (0)) hC dX0_graceLeft_9 rfl rfl ?_
    refine g_bipush (q := 12) (v := (48)) hC dX0_graceLeft_10 rfl rfl ?_
    refine g_iload_n (q := 13) (i := 1) hC dX0_graceLeft_12 rfl rfl rfl ?_
    refine g_aload_n (q := 14) (i := 0) hC dX0_graceLeft_13 rfl rfl rfl ?_
    refine g_getf (q := 17) hC kg_X0_34 dX0_graceLeft_14 hA rfl rfl ?_
    refine g_isub (q := 18) hC dX0_graceLeft_17 rfl rfl ?_
    refine g_isub (q := 19) hC dX0_graceLeft_18 rfl rfl ?_
    refine g_max (q := 22) hC ks_X0_37 md_J9_max_7cf53 dX0_graceLeft_19 (by decide) (Nat.le_of_ble_eq_true rfl) (by omega) (by omega) rfl ?_
    exact g_iret hC hR dX0_graceLeft_22 (by omega) (by omega) (⟨_, rfl, by rw [fGrace, if_neg c_4], rfl⟩)
  · refine g_iconst (q := 8) (v := (-1)) hC dX0_graceLeft_7 rfl rfl ?_
    exact g_iret hC hR dX0_graceLeft_8 (by omega) (by omega) (⟨_, rfl, by rw [fGrace, if_pos c_4], rfl⟩)
set_option maxRecDepth 100000 in
set_option maxHeartbeats 4000000 in
theorem c_X0_blocksLeft (l : Launch) (hfl : l.stackTraces = false) (M : gMT) (σ : gS) (a : Nat) (s h f u n c o w clk : Int32) (hA : σ a = some (oB 0 (accV s h f u n c o w))) : Con l M yX0_blocksLeft (.code yX0_blocksLeft cX0_blocksLeft 2 (Option.some FieldType.int)) 3 0 0 [.ref a, .int clk] σ (rI fun r σ2 => r = fLeft h u o w clk ∧ σ2 = σ) (nX) := by
  refine g_con hfl (by decide) (lv := [(0, .ref a), (1, .int clk)]) rfl rfl (Nat.le_of_ble_eq_true rfl) (fun X hX hC hR htb => ?_)
  refine g_aload_n (q := 1) (i := 0) hC dX0_blocksLeft_0 rfl rfl rfl ?_
  refine g_iload_n (q := 2) (i := 1) hC dX0_blocksLeft_1 rfl rfl rfl ?_
  refine g_ci (q := 5) (g_runV hC kv_X0_43 md_X0_graceLeft (c_X0_graceLeft _ hC.fl M _ a s h f u n c o w clk hA) (ci := 0) rfl hA dX0_blocksLeft_2 (by decide) (by decide) (by omega) (by omega) rfl rfl (Nat.le_of_ble_eq_true rfl)) rfl (fun r σ ⟨e1, e2⟩ => ?_) (fun _ _ h9 => False.elim h9)
  subst e2
  refine g_if_ne (tgt := 10) (q := 8) hC dX0_blocksLeft_5 (by decide) rfl (fun c_5 => ?_) (fun c_5 => ?_)
  · refine g_aload_n (q := 11) (i := 0) hC dX0_blocksLeft_10 rfl rfl rfl ?_
    refine g_getf (q := 14) hC kg_X0_15 dX0_blocksLeft_11 hA rfl rfl ?_
    refine g_iconst (q := 15) (v := (-1)) hC dX0_blocksLeft_14 rfl rfl ?_
    refine g_icmp_ne (tgt := 22) (q := 18) hC dX0_blocksLeft_15 (by decide) rfl (fun c_15 => ?_) (fun c_15 => ?_)
    · refine g_iconst (q := 23) (v := (0)) hC dX0_blocksLeft_22 rfl rfl ?_
      refine g_aload_n (q := 24) (i := 0) hC dX0_blocksLeft_23 rfl rfl rfl ?_
      refine g_getf (q := 27) hC kg_X0_15 dX0_blocksLeft_24 hA rfl rfl ?_
      refine g_aload_n (q := 28) (i := 0) hC dX0_blocksLeft_27 rfl rfl rfl ?_
      refine g_getf (q := 31) hC kg_X0_21 dX0_blocksLeft_28 hA rfl rfl ?_
      refine g_isub (q := 32) hC dX0_blocksLeft_31 rfl rfl ?_
      refine g_max (q := 35) hC ks_X0_37 md_J9_max_7cf53 dX0_blocksLeft_32 (by decide) (Nat.le_of_ble_eq_true rfl) (by omega) (by omega) rfl ?_
      exact g_iret hC hR dX0_blocksLeft_35 (by omega) (by omega) (⟨_, rfl, by rw [fLeft, if_neg (by rw [← e1]; exact c_5), if_neg c_15], rfl⟩)
    · refine g_iconst (q := 19) (v := (-1)) hC dX0_blocksLeft_18 rfl rfl ?_
      refine g_goto (tgt := 35) hC dX0_blocksLeft_19 (by decide) ?_
      exact g_iret hC hR dX0_blocksLeft_35 (by omega) (by omega) (⟨_, rfl, by rw [fLeft, if_neg (by rw [← e1]; exact c_5), if_pos c_15], rfl⟩)
  · refine g_iconst (q := 9) (v := (0)) hC dX0_blocksLeft_8 rfl rfl ?_
    exact g_iret hC hR dX0_blocksLeft_9 (by omega) (by omega) (⟨_, rfl, by rw [fLeft, if_pos (by rw [← e1]; exact c_5)], rfl⟩)
