/-! ===== the ledger: take, noteOverAccounts, chargeFilesWithin, small ones ===== -/
set_option maxRecDepth 100000 in
set_option maxHeartbeats 4000000 in
theorem c_L_take (l : Launch) (hfl : l.stackTraces = false) (M : gMT) (σ : gS) (A : gAd) (ρ : gSt) (W : gWt) (f : Nat) (hr : Raw M σ A ρ W) (hW : RW ρ) (hf : f < ρ.1 11 3) : Con l M yX4_take (.code yX4_take cX4_take 5 (Option.none : Option FieldType)) 9 2 25 [.ref (A 0 0), .ref (A 3 f)] σ (rV (eP M σ A (tkS ρ f))) (nX) := by
  refine g_con hfl (by decide) (lv := [(0, .ref (A 0 0)), (1, .ref (A 3 f))]) rfl rfl (Nat.le_of_ble_eq_true rfl) (fun X hX hC hR htb => ?_)
  have hn := rowN_le ρ f
  have loop : ∀ (b : Int32), ρ.2.2 8 f = false → b = bub ρ f (ρ.1 10 5) → ∀ (d9 i : Nat) (σ3 : gS) (W3 : gWt), i + d9 = rowN ρ f → Raw M σ3 A (tkN ρ f b i) W3 → gFF σ σ3 → rowOk ρ W3 f → G X M 5 (gQ X M 2 25 (rV (eP M σ A (tkS ρ f))) nX) 2 25 σ3 23 [(4, .int (nI i)), (3, .ref (A 5 7)), (2, .int b), (0, .ref (A 0 0)), (1, .ref (A 3 f))] [] := by
    intro b hdl hb d9
    induction d9 with
    | zero =>
      intro i σ3 W3 h1 hr3 hF hok
      obtain ⟨k1, k2⟩ := hok
      refine g_iload (q := 25) (i := 4) hC dX4_take_23 rfl rfl ?_
      refine g_aload_n (q := 26) (i := 3) hC dX4_take_25 rfl rfl rfl ?_
      refine g_ci (q := 29) (g_runV hC kv_X4_99 md_Jx4a65c_size_8abf5 (c_size _ hC.fl M _ (A 5 7) _ _ _ hr3.l7) (ci := 6) rfl hr3.l7 dX4_take_26 (by decide) (by decide) (by omega) (by omega) rfl rfl (Nat.le_of_ble_eq_true rfl)) rfl (fun r σ3 ⟨e1, e2⟩ => ?_) (fun _ _ h9 => False.elim h9)
      subst e1 e2
      refine g_icmp_ge (tgt := 56) (q := 32) hC dX4_take_29 (by decide) rfl (fun c_29 => ?_) (fun c_29 => ?_)
      · skip
        exact g_vret hC hR dX4_take_56 (by omega) (by omega) (⟨rfl, ⟨W3, by rw [tkS, if_neg (by rw [hdl]; decide), ← h1, ← hb]; exact hr3⟩, hF⟩)
      · exact absurd (nI_le (show wRc W3 ≤ i by omega) (by omega)) c_29
    | succ d9 ih =>
      intro i σ3 W3 h1 hr3 hF hok
      have hok0 := hok
      obtain ⟨k1, k2⟩ := hok
      have e11 : (tkN ρ f b i).1 = ρ.1 := tkN_1 ρ f b i
      have ha : rowE ρ f i < (tkN ρ f b i).1 11 1 := by
        rw [e11]
        exact rowE_lt hW hf (by omega)
      refine g_iload (q := 25) (i := 4) hC dX4_take_23 rfl rfl ?_
      refine g_aload_n (q := 26) (i := 3) hC dX4_take_25 rfl rfl rfl ?_
      refine g_ci (q := 29) (g_runV hC kv_X4_99 md_Jx4a65c_size_8abf5 (c_size _ hC.fl M _ (A 5 7) _ _ _ hr3.l7) (ci := 6) rfl hr3.l7 dX4_take_26 (by decide) (by decide) (by omega) (by omega) rfl rfl (Nat.le_of_ble_eq_true rfl)) rfl (fun r σ3 ⟨e1, e2⟩ => ?_) (fun _ _ h9 => False.elim h9)
      subst e1 e2
      refine g_icmp_ge (tgt := 56) (q := 32) hC dX4_take_29 (by decide) rfl (fun c_29 => ?_) (fun c_29 => ?_)
      · exact absurd c_29 (nI_ge (show i < wRc W3 by omega) (by omega))
      · refine g_aload_n (q := 33) (i := 3) hC dX4_take_32 rfl rfl rfl ?_
        refine g_iload (q := 35) (i := 4) hC dX4_take_33 rfl rfl ?_
        refine g_cr (q := 38) (g_runV hC kv_X4_186 md_Jx4a65c_get_915e3 (c_gt7 _ hC.fl hr3 i (by omega)) (ci := 6) rfl hr3.l7 dX4_take_35 (by decide) (by decide) (by omega) (by omega) rfl rfl (Nat.le_of_ble_eq_true rfl)) rfl (fun r σ3 ⟨e1, e2⟩ => ?_) (fun _ _ h9 => False.elim h9)
        subst e1 e2
        rw [k2 i (by omega)]
        have h5 := hr3.pAcc ha (fun c => if c = 6 then (tkN ρ f b i).2.1 6 (rowE ρ f i) + b else (tkN ρ f b i).2.1 c (rowE ρ f i))
        refine g_ccast (q := 41) (ci := 0) hC kc_X4_49 dX4_take_38 rfl (hr3.acc ha) rfl ?_
        refine g_dup (q := 42) hC dX4_take_41 rfl rfl ?_
        refine g_getf (q := 45) (v := .int ((tkN ρ f b i).2.1 6 (rowE ρ f i))) hC kg_X4_253 dX4_take_42 (hr3.acc ha) rfl rfl ?_
        refine g_iload_n (q := 46) (i := 2) hC dX4_take_45 rfl rfl rfl ?_
        refine g_iadd (q := 47) (v := ((tkN ρ f b i).2.1 6 (rowE ρ f i) + b)) hC dX4_take_46 rfl rfl ?_
        refine g_putf (q := 50) hC kf_X4_253 dX4_take_47 (hr3.acc ha) (Nat.le_of_ble_eq_true rfl) rfl rfl rfl ?_
        refine g_iinc (q := 53) (i := 4) (v := (nI (i + 1))) hC dX4_take_50 rfl (nI_1 _) rfl ?_
        refine g_goto (tgt := 23) hC dX4_take_53 (by decide) ?_
        refine g_sub (lv0 := [(4, .int (nI (i + 1))), (3, .ref (A 5 7)), (2, .int b), (0, .ref (A 0 0)), (1, .ref (A 3 f))]) ⟨rfl, rfl, rfl, rfl, rfl, trivial⟩ ?_
        exact ih (i + 1) _ W3 (by omega) h5 (hF.trans (gFF.obj (hr3.acc ha) (by decide))) hok0
  refine g_aload_n (q := 1) (i := 1) hC dX4_take_0 rfl rfl rfl ?_
  refine g_getf (q := 4) (v := .int (bI (ρ.2.2 8 f))) hC kg_X4_183 dX4_take_1 (hr.fil (by omega)) rfl rfl ?_
  refine g_if_eq (tgt := 8) (q := 7) hC dX4_take_4 (by decide) rfl (fun c_4 => ?_) (fun c_4 => ?_)
  · have hd := bI_0.mp c_4
    refine g_aload_n (q := 9) (i := 0) hC dX4_take_8 rfl rfl rfl ?_
    refine g_aload_n (q := 10) (i := 1) hC dX4_take_9 rfl rfl rfl ?_
    refine g_ci (q := 13) (g_runV hC kv_X4_179 md_X4_blocksUsedBy (c_L_blocksUsedBy _ hC.fl M _ A ρ W f hr hW hf) (ci := 4) rfl (hr.led hW) dX4_take_10 (by decide) (by decide) (by omega) (by omega) rfl rfl (Nat.le_of_ble_eq_true rfl)) rfl (fun r σ ⟨e1, e2⟩ => ?_) (fun _ _ h9 => False.elim h9)
    subst e1 e2
    refine g_istore_n (q := 14) (i := 2) hC dX4_take_13 rfl (by decide) rfl ?_
    refine g_aload_n (q := 15) (i := 0) hC dX4_take_14 rfl rfl rfl ?_
    refine g_aload_n (q := 16) (i := 1) hC dX4_take_15 rfl rfl rfl ?_
    refine g_cr (q := 19) (g_runV hC kv_X4_246 md_X4_accountsOf (c_L_accountsOf _ hC.fl M _ A ρ W f hr hW hf) (ci := 4) rfl (hr.led hW) dX4_take_16 (by decide) (by decide) (by omega) (by omega) rfl rfl (Nat.le_of_ble_eq_true rfl)) rfl (fun r σ3 ⟨e1, hF, W3, hr3, hok⟩ => ?_) (fun _ _ h9 => False.elim h9)
    subst e1
    refine g_astore_n (q := 20) (i := 3) hC dX4_take_19 rfl (by decide) rfl ?_
    refine g_iconst (q := 21) (v := nI 0) hC dX4_take_20 rfl rfl ?_
    refine g_istore (q := 23) (i := 4) hC dX4_take_21 (by decide) rfl ?_
    refine g_sub (lv0 := [(4, .int (nI 0)), (3, .ref (A 5 7)), (2, .int (bub ρ f (ρ.1 10 5))), (0, .ref (A 0 0)), (1, .ref (A 3 f))]) ⟨rfl, rfl, rfl, rfl, rfl, trivial⟩ ?_
    exact loop _ hd rfl _ 0 σ3 W3 (Nat.zero_add _) hr3 hF hok
  · have hd := bI_n.mp c_4
    exact g_vret hC hR dX4_take_7 (by omega) (by omega) (⟨rfl, ⟨W, by rw [tkS, if_pos hd]; exact hr⟩, gFF.rf⟩)
set_option maxRecDepth 100000 in
set_option maxHeartbeats 4000000 in
theorem c_L_noteOver (l : Launch) (hfl : l.stackTraces = false) (M : gMT) (σ : gS) (A : gAd) (ρ : gSt) (W : gWt) (hr : Raw M σ A ρ W) (hW : RW ρ) : Con l M yX4_noteOverAccounts (.code yX4_noteOverAccounts cX4_noteOverAccounts 2 (Option.none : Option FieldType)) 4 0 0 [.ref (A 0 0)] σ (rV (eP M σ A (ntS ρ))) (nX) := by
  refine g_con hfl (by decide) (lv := [(0, .ref (A 0 0))]) rfl rfl (Nat.le_of_ble_eq_true rfl) (fun X hX hC hR htb => ?_)
  have hW0 := hW
  obtain ⟨⟨w1, w2, w3, w4⟩, w5, -⟩ := hW0
  have step : ∀ (n : Nat) (σ3 : gS), n < ρ.1 11 1 → Raw M σ3 A (ntN ρ n) W → gFF σ σ3 → σ3 (A 1 n) = some (oB 0 (accW (ntN ρ n) n)) ∧ Raw M (gUp σ3 (A 1 n) (oB 0 (accV ((ntN ρ n).2.1 1 n) ((ntN ρ n).2.1 2 n) ((ntN ρ n).2.1 3 n) ((ntN ρ n).2.1 4 n) ((ntN ρ n).2.1 5 n) ((ntN ρ n).2.1 6 n) (fO ((ntN ρ n).2.1 1 n) ((ntN ρ n).2.1 4 n)) (if fO ((ntN ρ n).2.1 1 n) ((ntN ρ n).2.1 4 n) = 1 ∧ (ntN ρ n).2.1 7 n = 0 then (ntN ρ n).2.1 0 0 else (ntN ρ n).2.1 8 n)))) A (ntN ρ (n + 1)) W ∧ gFF σ (gUp σ3 (A 1 n) (oB 0 (accV ((ntN ρ n).2.1 1 n) ((ntN ρ n).2.1 2 n) ((ntN ρ n).2.1 3 n) ((ntN ρ n).2.1 4 n) ((ntN ρ n).2.1 5 n) ((ntN ρ n).2.1 6 n) (fO ((ntN ρ n).2.1 1 n) ((ntN ρ n).2.1 4 n)) (if fO ((ntN ρ n).2.1 1 n) ((ntN ρ n).2.1 4 n) = 1 ∧ (ntN ρ n).2.1 7 n = 0 then (ntN ρ n).2.1 0 0 else (ntN ρ n).2.1 8 n)))) := by
    intro n σ3 hn hr3 hF
    have ha : n < (ntN ρ n).1 11 1 := by
      rw [ntN_1]
      exact hn
    refine ⟨hr3.acc ha, ?_, hF.trans (gFF.obj (hr3.acc ha) (by decide))⟩
    exact hr3.pAcc ha (fun c => if c = 7 then fO ((ntN ρ n).2.1 1 n) ((ntN ρ n).2.1 4 n) else if c = 8 then (if fO ((ntN ρ n).2.1 1 n) ((ntN ρ n).2.1 4 n) = 1 ∧ (ntN ρ n).2.1 7 n = 0 then (ntN ρ n).2.1 0 0 else (ntN ρ n).2.1 8 n) else (ntN ρ n).2.1 c n)
  have loop3 : ∀ (d9 i : Nat) (σ3 : gS), i + d9 = ρ.1 10 3 → Raw M σ3 A (ntN ρ (9 + i)) W → gFF σ σ3 → G X M 2 (gQ X M 0 0 (rV (eP M σ A (ntS ρ))) nX) 0 0 σ3 76 [(1, .int (nI i)), (0, .ref (A 0 0))] [] := by
    intro d9
    induction d9 with
    | zero =>
      intro i σ3 h1 hr3 hF
      have hW3 := RW_1 (ntN_1 ρ (9 + i)) hW
      have e10 : (ntN ρ (9 + i)).1 10 3 = ρ.1 10 3 := by rw [ntN_1]
      refine g_iload_n (q := 77) (i := 1) hC dX4_noteOverAccounts_76 rfl rfl rfl ?_
      refine g_aload_n (q := 78) (i := 0) hC dX4_noteOverAccounts_77 rfl rfl rfl ?_
      refine g_getf (q := 81) (v := .ref (A 5 3)) hC kg_X4_19 dX4_noteOverAccounts_78 (hr3.led hW3) rfl rfl ?_
      refine g_ci (q := 84) (g_runV hC kv_X4_99 md_Jx4a65c_size_8abf5 (c_size _ hC.fl M _ (A 5 3) _ _ _ hr3.l3) (ci := 6) rfl hr3.l3 dX4_noteOverAccounts_81 (by decide) (by decide) (by omega) (by omega) rfl rfl (Nat.le_of_ble_eq_true rfl)) rfl (fun r σ3 ⟨e1, e2⟩ => ?_) (fun _ _ h9 => False.elim h9)
      subst e1 e2
      refine g_icmp_ge (tgt := 114) (q := 87) hC dX4_noteOverAccounts_84 (by decide) rfl (fun c_84 => ?_) (fun c_84 => ?_)
      · skip
        exact g_vret hC hR dX4_noteOverAccounts_114 (by omega) (by omega) (⟨rfl, ⟨W, by rw [ntS, ← h1]; exact hr3⟩, hF⟩)
      · exact absurd (nI_le (by omega) (by omega)) c_84
    | succ d9 ih =>
      intro i σ3 h1 hr3 hF
      have hW3 := RW_1 (ntN_1 ρ (9 + i)) hW
      have e10 : (ntN ρ (9 + i)).1 10 3 = ρ.1 10 3 := by rw [ntN_1]
      have e11 : (ntN ρ (9 + i)).1 11 2 = ρ.1 11 2 := by rw [ntN_1]
      obtain ⟨s1, s2, s3⟩ := step (9 + i) σ3 (by omega) hr3 hF
      refine g_iload_n (q := 77) (i := 1) hC dX4_noteOverAccounts_76 rfl rfl rfl ?_
      refine g_aload_n (q := 78) (i := 0) hC dX4_noteOverAccounts_77 rfl rfl rfl ?_
      refine g_getf (q := 81) (v := .ref (A 5 3)) hC kg_X4_19 dX4_noteOverAccounts_78 (hr3.led hW3) rfl rfl ?_
      refine g_ci (q := 84) (g_runV hC kv_X4_99 md_Jx4a65c_size_8abf5 (c_size _ hC.fl M _ (A 5 3) _ _ _ hr3.l3) (ci := 6) rfl hr3.l3 dX4_noteOverAccounts_81 (by decide) (by decide) (by omega) (by omega) rfl rfl (Nat.le_of_ble_eq_true rfl)) rfl (fun r σ3 ⟨e1, e2⟩ => ?_) (fun _ _ h9 => False.elim h9)
      subst e1 e2
      refine g_icmp_ge (tgt := 114) (q := 87) hC dX4_noteOverAccounts_84 (by decide) rfl (fun c_84 => ?_) (fun c_84 => ?_)
      · exact absurd c_84 (nI_ge (by omega) (by omega))
      · refine g_aload_n (q := 88) (i := 0) hC dX4_noteOverAccounts_87 rfl rfl rfl ?_
        refine g_getf (q := 91) (v := .ref (A 5 3)) hC kg_X4_19 dX4_noteOverAccounts_88 (hr3.led hW3) rfl rfl ?_
        refine g_iload_n (q := 92) (i := 1) hC dX4_noteOverAccounts_91 rfl rfl rfl ?_
        refine g_cr (q := 95) (g_runV hC kv_X4_186 md_Jx4a65c_get_915e3 (c_gt3 _ hC.fl hr3 i (by omega)) (ci := 6) rfl hr3.l3 dX4_noteOverAccounts_92 (by decide) (by decide) (by omega) (by omega) rfl rfl (Nat.le_of_ble_eq_true rfl)) rfl (fun r σ3 ⟨e1, e2⟩ => ?_) (fun _ _ h9 => False.elim h9)
        subst e1 e2
        refine g_ccast (q := 98) (ci := 1) hC kc_X4_56 dX4_noteOverAccounts_95 rfl (hr3.prj (by omega)) rfl ?_
        refine g_getf (q := 101) (v := .ref (A 1 (9 + i))) hC kg_X4_256 dX4_noteOverAccounts_98 (hr3.prj (by omega)) rfl rfl ?_
        refine g_aload_n (q := 102) (i := 0) hC dX4_noteOverAccounts_101 rfl rfl rfl ?_
        refine g_getf (q := 105) (v := .int ((ntN ρ (9 + i)).2.1 0 0)) hC kg_X4_38 dX4_noteOverAccounts_102 (hr3.led hW3) rfl rfl ?_
        refine g_cv (q := 108) (g_runV hC kv_X4_226 md_X0_noteOver (c_X0_noteOver _ hC.fl M _ (A 1 (9 + i)) _ _ _ _ _ _ _ _ _ s1) (ci := 0) rfl s1 dX4_noteOverAccounts_105 (by decide) (by decide) (by omega) (by omega) rfl rfl (Nat.le_of_ble_eq_true rfl)) rfl (fun σ4 e2 => ?_) (fun _ _ h9 => False.elim h9)
        subst e2
        refine g_iinc (q := 111) (i := 1) (v := (nI (i + 1))) hC dX4_noteOverAccounts_108 rfl (nI_1 _) rfl ?_
        refine g_goto (tgt := 76) hC dX4_noteOverAccounts_111 (by decide) ?_
        refine g_sub (lv0 := [(1, .int (nI (i + 1))), (0, .ref (A 0 0))]) ⟨rfl, rfl, trivial⟩ ?_
        exact ih (i + 1) _ (by omega) s2 s3
  have loop2 : ∀ (d9 i : Nat) (σ3 : gS), i + d9 = 3 → Raw M σ3 A (ntN ρ (6 + i)) W → gFF σ σ3 → G X M 2 (gQ X M 0 0 (rV (eP M σ A (ntS ρ))) nX) 0 0 σ3 39 [(1, .int (nI i)), (0, .ref (A 0 0))] [] := by
    intro d9
    induction d9 with
    | zero =>
      intro i σ3 h1 hr3 hF
      have hW3 := RW_1 (ntN_1 ρ (6 + i)) hW
      have e10 : (ntN ρ (6 + i)).1 10 2 = 3 := by rw [ntN_1]; exact w4
      refine g_iload_n (q := 40) (i := 1) hC dX4_noteOverAccounts_39 rfl rfl rfl ?_
      refine g_aload_n (q := 41) (i := 0) hC dX4_noteOverAccounts_40 rfl rfl rfl ?_
      refine g_getf (q := 44) (v := .ref (A 5 2)) hC kg_X4_16 dX4_noteOverAccounts_41 (hr3.led hW3) rfl rfl ?_
      refine g_ci (q := 47) (g_runV hC kv_X4_99 md_Jx4a65c_size_8abf5 (c_size _ hC.fl M _ (A 5 2) _ _ _ hr3.l2) (ci := 6) rfl hr3.l2 dX4_noteOverAccounts_44 (by decide) (by decide) (by omega) (by omega) rfl rfl (Nat.le_of_ble_eq_true rfl)) rfl (fun r σ3 ⟨e1, e2⟩ => ?_) (fun _ _ h9 => False.elim h9)
      subst e1 e2
      refine g_icmp_ge (tgt := 74) (q := 50) hC dX4_noteOverAccounts_47 (by decide) rfl (fun c_47 => ?_) (fun c_47 => ?_)
      · refine g_iconst (q := 75) (v := nI 0) hC dX4_noteOverAccounts_74 rfl rfl ?_
        refine g_istore_n (q := 76) (i := 1) hC dX4_noteOverAccounts_75 rfl (by decide) rfl ?_
        refine g_sub (lv0 := [(1, .int (nI 0)), (0, .ref (A 0 0))]) ⟨rfl, rfl, trivial⟩ ?_
        exact loop3 _ 0 σ3 (Nat.zero_add _) (by rw [show 6 + i = 9 + 0 by omega] at hr3; exact hr3) hF
      · exact absurd (nI_le (by omega) (by omega)) c_47
    | succ d9 ih =>
      intro i σ3 h1 hr3 hF
      have hW3 := RW_1 (ntN_1 ρ (6 + i)) hW
      have e10 : (ntN ρ (6 + i)).1 10 2 = 3 := by rw [ntN_1]; exact w4
      have e11 : (ntN ρ (6 + i)).1 11 1 = ρ.1 11 1 := by rw [ntN_1]
      obtain ⟨s1, s2, s3⟩ := step (6 + i) σ3 (by omega) hr3 hF
      refine g_iload_n (q := 40) (i := 1) hC dX4_noteOverAccounts_39 rfl rfl rfl ?_
      refine g_aload_n (q := 41) (i := 0) hC dX4_noteOverAccounts_40 rfl rfl rfl ?_
      refine g_getf (q := 44) (v := .ref (A 5 2)) hC kg_X4_16 dX4_noteOverAccounts_41 (hr3.led hW3) rfl rfl ?_
      refine g_ci (q := 47) (g_runV hC kv_X4_99 md_Jx4a65c_size_8abf5 (c_size _ hC.fl M _ (A 5 2) _ _ _ hr3.l2) (ci := 6) rfl hr3.l2 dX4_noteOverAccounts_44 (by decide) (by decide) (by omega) (by omega) rfl rfl (Nat.le_of_ble_eq_true rfl)) rfl (fun r σ3 ⟨e1, e2⟩ => ?_) (fun _ _ h9 => False.elim h9)
      subst e1 e2
      refine g_icmp_ge (tgt := 74) (q := 50) hC dX4_noteOverAccounts_47 (by decide) rfl (fun c_47 => ?_) (fun c_47 => ?_)
      · exact absurd c_47 (nI_ge (by omega) (by omega))
      · refine g_aload_n (q := 51) (i := 0) hC dX4_noteOverAccounts_50 rfl rfl rfl ?_
        refine g_getf (q := 54) (v := .ref (A 5 2)) hC kg_X4_16 dX4_noteOverAccounts_51 (hr3.led hW3) rfl rfl ?_
        refine g_iload_n (q := 55) (i := 1) hC dX4_noteOverAccounts_54 rfl rfl rfl ?_
        refine g_cr (q := 58) (g_runV hC kv_X4_186 md_Jx4a65c_get_915e3 (c_gt2 _ hC.fl hr3 i (by omega)) (ci := 6) rfl hr3.l2 dX4_noteOverAccounts_55 (by decide) (by decide) (by omega) (by omega) rfl rfl (Nat.le_of_ble_eq_true rfl)) rfl (fun r σ3 ⟨e1, e2⟩ => ?_) (fun _ _ h9 => False.elim h9)
        subst e1 e2
        refine g_ccast (q := 61) (ci := 0) hC kc_X4_49 dX4_noteOverAccounts_58 rfl (hr3.acc (by omega)) rfl ?_
        refine g_aload_n (q := 62) (i := 0) hC dX4_noteOverAccounts_61 rfl rfl rfl ?_
        refine g_getf (q := 65) (v := .int ((ntN ρ (6 + i)).2.1 0 0)) hC kg_X4_38 dX4_noteOverAccounts_62 (hr3.led hW3) rfl rfl ?_
        refine g_cv (q := 68) (g_runV hC kv_X4_226 md_X0_noteOver (c_X0_noteOver _ hC.fl M _ (A 1 (6 + i)) _ _ _ _ _ _ _ _ _ s1) (ci := 0) rfl s1 dX4_noteOverAccounts_65 (by decide) (by decide) (by omega) (by omega) rfl rfl (Nat.le_of_ble_eq_true rfl)) rfl (fun σ4 e2 => ?_) (fun _ _ h9 => False.elim h9)
        subst e2
        refine g_iinc (q := 71) (i := 1) (v := (nI (i + 1))) hC dX4_noteOverAccounts_68 rfl (nI_1 _) rfl ?_
        refine g_goto (tgt := 39) hC dX4_noteOverAccounts_71 (by decide) ?_
        refine g_sub (lv0 := [(1, .int (nI (i + 1))), (0, .ref (A 0 0))]) ⟨rfl, rfl, trivial⟩ ?_
        exact ih (i + 1) _ (by omega) s2 s3
  have loop1 : ∀ (d9 i : Nat) (σ3 : gS), i + d9 = 6 → Raw M σ3 A (ntN ρ i) W → gFF σ σ3 → G X M 2 (gQ X M 0 0 (rV (eP M σ A (ntS ρ))) nX) 0 0 σ3 2 [(1, .int (nI i)), (0, .ref (A 0 0))] [] := by
    intro d9
    induction d9 with
    | zero =>
      intro i σ3 h1 hr3 hF
      have hW3 := RW_1 (ntN_1 ρ i) hW
      have e10 : (ntN ρ i).1 10 1 = 6 := by rw [ntN_1]; exact w3
      refine g_iload_n (q := 3) (i := 1) hC dX4_noteOverAccounts_2 rfl rfl rfl ?_
      refine g_aload_n (q := 4) (i := 0) hC dX4_noteOverAccounts_3 rfl rfl rfl ?_
      refine g_getf (q := 7) (v := .ref (A 5 1)) hC kg_X4_10 dX4_noteOverAccounts_4 (hr3.led hW3) rfl rfl ?_
      refine g_ci (q := 10) (g_runV hC kv_X4_99 md_Jx4a65c_size_8abf5 (c_size _ hC.fl M _ (A 5 1) _ _ _ hr3.l1) (ci := 6) rfl hr3.l1 dX4_noteOverAccounts_7 (by decide) (by decide) (by omega) (by omega) rfl rfl (Nat.le_of_ble_eq_true rfl)) rfl (fun r σ3 ⟨e1, e2⟩ => ?_) (fun _ _ h9 => False.elim h9)
      subst e1 e2
      refine g_icmp_ge (tgt := 37) (q := 13) hC dX4_noteOverAccounts_10 (by decide) rfl (fun c_10 => ?_) (fun c_10 => ?_)
      · refine g_iconst (q := 38) (v := nI 0) hC dX4_noteOverAccounts_37 rfl rfl ?_
        refine g_istore_n (q := 39) (i := 1) hC dX4_noteOverAccounts_38 rfl (by decide) rfl ?_
        refine g_sub (lv0 := [(1, .int (nI 0)), (0, .ref (A 0 0))]) ⟨rfl, rfl, trivial⟩ ?_
        exact loop2 _ 0 σ3 (Nat.zero_add _) (by rw [show i = 6 + 0 by omega] at hr3; exact hr3) hF
      · exact absurd (nI_le (by omega) (by omega)) c_10
    | succ d9 ih =>
      intro i σ3 h1 hr3 hF
      have hW3 := RW_1 (ntN_1 ρ i) hW
      have e10 : (ntN ρ i).1 10 1 = 6 := by rw [ntN_1]; exact w3
      have e11 : (ntN ρ i).1 11 1 = ρ.1 11 1 := by rw [ntN_1]
      obtain ⟨s1, s2, s3⟩ := step i σ3 (by omega) hr3 hF
      refine g_iload_n (q := 3) (i := 1) hC dX4_noteOverAccounts_2 rfl rfl rfl ?_
      refine g_aload_n (q := 4) (i := 0) hC dX4_noteOverAccounts_3 rfl rfl rfl ?_
      refine g_getf (q := 7) (v := .ref (A 5 1)) hC kg_X4_10 dX4_noteOverAccounts_4 (hr3.led hW3) rfl rfl ?_
      refine g_ci (q := 10) (g_runV hC kv_X4_99 md_Jx4a65c_size_8abf5 (c_size _ hC.fl M _ (A 5 1) _ _ _ hr3.l1) (ci := 6) rfl hr3.l1 dX4_noteOverAccounts_7 (by decide) (by decide) (by omega) (by omega) rfl rfl (Nat.le_of_ble_eq_true rfl)) rfl (fun r σ3 ⟨e1, e2⟩ => ?_) (fun _ _ h9 => False.elim h9)
      subst e1 e2
      refine g_icmp_ge (tgt := 37) (q := 13) hC dX4_noteOverAccounts_10 (by decide) rfl (fun c_10 => ?_) (fun c_10 => ?_)
      · exact absurd c_10 (nI_ge (by omega) (by omega))
      · refine g_aload_n (q := 14) (i := 0) hC dX4_noteOverAccounts_13 rfl rfl rfl ?_
        refine g_getf (q := 17) (v := .ref (A 5 1)) hC kg_X4_10 dX4_noteOverAccounts_14 (hr3.led hW3) rfl rfl ?_
        refine g_iload_n (q := 18) (i := 1) hC dX4_noteOverAccounts_17 rfl rfl rfl ?_
        refine g_cr (q := 21) (g_runV hC kv_X4_186 md_Jx4a65c_get_915e3 (c_gt1 _ hC.fl hr3 i (by omega)) (ci := 6) rfl hr3.l1 dX4_noteOverAccounts_18 (by decide) (by decide) (by omega) (by omega) rfl rfl (Nat.le_of_ble_eq_true rfl)) rfl (fun r σ3 ⟨e1, e2⟩ => ?_) (fun _ _ h9 => False.elim h9)
        subst e1 e2
        refine g_ccast (q := 24) (ci := 0) hC kc_X4_49 dX4_noteOverAccounts_21 rfl (hr3.acc (by omega)) rfl ?_
        refine g_aload_n (q := 25) (i := 0) hC dX4_noteOverAccounts_24 rfl rfl rfl ?_
        refine g_getf (q := 28) (v := .int ((ntN ρ i).2.1 0 0)) hC kg_X4_38 dX4_noteOverAccounts_25 (hr3.led hW3) rfl rfl ?_
        refine g_cv (q := 31) (g_runV hC kv_X4_226 md_X0_noteOver (c_X0_noteOver _ hC.fl M _ (A 1 i) _ _ _ _ _ _ _ _ _ s1) (ci := 0) rfl s1 dX4_noteOverAccounts_28 (by decide) (by decide) (by omega) (by omega) rfl rfl (Nat.le_of_ble_eq_true rfl)) rfl (fun σ4 e2 => ?_) (fun _ _ h9 => False.elim h9)
        subst e2
        refine g_iinc (q := 34) (i := 1) (v := (nI (i + 1))) hC dX4_noteOverAccounts_31 rfl (nI_1 _) rfl ?_
        refine g_goto (tgt := 2) hC dX4_noteOverAccounts_34 (by decide) ?_
        refine g_sub (lv0 := [(1, .int (nI (i + 1))), (0, .ref (A 0 0))]) ⟨rfl, rfl, trivial⟩ ?_
        exact ih (i + 1) _ (by omega) s2 s3
  refine g_iconst (q := 1) (v := nI 0) hC dX4_noteOverAccounts_0 rfl rfl ?_
  refine g_istore_n (q := 2) (i := 1) hC dX4_noteOverAccounts_1 rfl (by decide) rfl ?_
  refine g_sub (lv0 := [(1, .int (nI 0)), (0, .ref (A 0 0))]) ⟨rfl, rfl, trivial⟩ ?_
  exact loop1 6 0 σ (by omega) hr gFF.rf
set_option maxRecDepth 100000 in
set_option maxHeartbeats 4000000 in
theorem c_L_barred (l : Launch) (hfl : l.stackTraces = false) (M : gMT) (σ : gS) (x : Int32) : Con l M yX4_barredAnswer (.code yX4_barredAnswer cX4_barredAnswer 1 (Option.some FieldType.int)) 1 0 0 [.int x] σ (rI (pI σ (-2 - x))) (nX) := by
  refine g_con hfl (by decide) (lv := [(0, .int x)]) rfl rfl (Nat.le_of_ble_eq_true rfl) (fun X hX hC hR htb => ?_)
  refine g_bipush (q := 2) (v := (-2)) hC dX4_barredAnswer_0 rfl rfl ?_
  refine g_iload_n (q := 3) (i := 0) hC dX4_barredAnswer_2 rfl rfl rfl ?_
  refine g_isub (q := 4) hC dX4_barredAnswer_3 rfl rfl ?_
  exact g_iret hC hR dX4_barredAnswer_4 (by omega) (by omega) (⟨_, rfl, rfl, rfl⟩)
def isLm (x hi : Int32) : Bool := decide (x = -1) || (decide (0 ≤ x) && decide (x ≤ hi))
set_option maxRecDepth 100000 in
set_option maxHeartbeats 4000000 in
theorem c_L_isLimit (l : Launch) (hfl : l.stackTraces = false) (M : gMT) (σ : gS) (x hi : Int32) : Con l M yX4_isLimit (.code yX4_isLimit cX4_isLimit 2 (Option.some FieldType.boolean)) 1 0 0 [.int x, .int hi] σ (rI (pI σ (bI (isLm x hi)))) (nX) := by
  refine g_con hfl (by decide) (lv := [(0, .int x), (1, .int hi)]) rfl rfl (Nat.le_of_ble_eq_true rfl) (fun X hX hC hR htb => ?_)
  refine g_iload_n (q := 1) (i := 0) hC dX4_isLimit_0 rfl rfl rfl ?_
  refine g_iconst (q := 2) (v := (-1)) hC dX4_isLimit_1 rfl rfl ?_
  refine g_icmp_eq (tgt := 14) (q := 5) hC dX4_isLimit_2 (by decide) rfl (fun c_2 => ?_) (fun c_2 => ?_)
  · refine g_iconst (q := 15) (v := (1)) hC dX4_isLimit_14 rfl rfl ?_
    refine g_goto (tgt := 19) hC dX4_isLimit_15 (by decide) ?_
    exact g_zret hC hR (rfl) dX4_isLimit_19 (by omega) (by omega) (⟨_, rfl, by rw [isLm, decide_eq_true c_2]; rfl, rfl⟩)
  · refine g_iload_n (q := 6) (i := 0) hC dX4_isLimit_5 rfl rfl rfl ?_
    refine g_if_lt (tgt := 18) (q := 9) hC dX4_isLimit_6 (by decide) rfl (fun c_6 => ?_) (fun c_6 => ?_)
    · refine g_iconst (q := 19) (v := (0)) hC dX4_isLimit_18 rfl rfl ?_
      exact g_zret hC hR (rfl) dX4_isLimit_19 (by omega) (by omega) (⟨_, rfl, by rw [isLm, decide_eq_false c_2, decide_eq_false (Int32.not_le.mpr c_6)]; rfl, rfl⟩)
    · refine g_iload_n (q := 10) (i := 0) hC dX4_isLimit_9 rfl rfl rfl ?_
      refine g_iload_n (q := 11) (i := 1) hC dX4_isLimit_10 rfl rfl rfl ?_
      refine g_icmp_gt (tgt := 18) (q := 14) hC dX4_isLimit_11 (by decide) rfl (fun c_11 => ?_) (fun c_11 => ?_)
      · refine g_iconst (q := 19) (v := (0)) hC dX4_isLimit_18 rfl rfl ?_
        exact g_zret hC hR (rfl) dX4_isLimit_19 (by omega) (by omega) (⟨_, rfl, by rw [isLm, decide_eq_false c_2, decide_eq_false (p := x ≤ hi) (Int32.not_le.mpr c_11)]; simp; rfl, rfl⟩)
      · refine g_iconst (q := 15) (v := (1)) hC dX4_isLimit_14 rfl rfl ?_
        refine g_goto (tgt := 19) hC dX4_isLimit_15 (by decide) ?_
        exact g_zret hC hR (rfl) dX4_isLimit_19 (by omega) (by omega) (⟨_, rfl, by rw [isLm, decide_eq_false c_2, decide_eq_true (Int32.not_lt.mp c_6), decide_eq_true (p := x ≤ hi) (Int32.not_lt.mp c_11)]; rfl, rfl⟩)
