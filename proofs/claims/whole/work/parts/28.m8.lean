/-! ===== the model: what each call answers, refuses and leaves (2) ===== -/
def rf_pass (S : gSt) (h : Int32) : Int32 := if (decide (1 ≤ h) && decide (h ≤ 1000)) = false then 1 else if 100000 < S.2.1 0 0 + h then 2 else 0
def mo_pass (S : gSt) (h : Int32) : Int32 × Int32 × gSt := gd (rf_pass S h) 0 S (S.2.1 0 0 + h, sI S 0 0 (S.2.1 0 0 + h))
set_option maxRecDepth 100000 in
set_option maxHeartbeats 4000000 in
theorem c_M_pass (l : Launch) (hfl : l.stackTraces = false) (M : gMT) (σ : gS) (φ : gS) (m : Nat) (ad : Nat → Nat) (rf h : Int32) (S : gSt) (hM : Mod M φ σ m ad rf S) : Con l M yX5_pass (.code yX5_pass cX5_pass 2 (Option.some FieldType.int)) 3 0 0 [.ref m, .int h] σ (rI (mP M φ m ad (mo_pass S h))) (nX) := by
  refine g_con hfl (by decide) (lv := [(0, .ref m), (1, .int h)]) rfl rfl (Nat.le_of_ble_eq_true rfl) (fun X hX hC hR htb => ?_)
  have join : ∀ w : Int32, w = rf_pass S h → G X M 2 (gQ X M 0 0 (rI (mP M φ m ad (mo_pass S h))) nX) 0 0 σ 32 [(0, .ref m), (1, .int h)] [.int w, .ref m] := by
    intro w hw
    refine g_ci (q := 35) (g_runV hC kv_X5_67 md_X5_refused (c_M_refused _ hC.fl M _ φ m ad rf w S hM) (ci := 5) rfl hM.1 dX5_pass_32 (by decide) (by decide) (by omega) (by omega) rfl rfl (Nat.le_of_ble_eq_true rfl)) rfl (fun r σ2 ⟨e1, hM2⟩ => ?_) (fun _ _ h9 => False.elim h9)
    subst e1
    refine g_if_eq (tgt := 40) (q := 38) hC dX5_pass_35 (by decide) rfl (fun c_35 => ?_) (fun c_35 => ?_)
    · have h0 := rf0.mp c_35
      subst h0
      have hM4 := hM2.s1 (S.2.1 0 0 + h)
      refine g_aload_n (q := 41) (i := 0) hC dX5_pass_40 rfl rfl rfl ?_
      refine g_dup (q := 42) hC dX5_pass_41 rfl rfl ?_
      refine g_getf (q := 45) hC kg_X5_122 dX5_pass_42 hM2.1 rfl rfl ?_
      refine g_iload_n (q := 46) (i := 1) hC dX5_pass_45 rfl rfl rfl ?_
      refine g_iadd (q := 47) hC dX5_pass_46 rfl rfl ?_
      refine g_putf (q := 50) hC kf_X5_122 dX5_pass_47 hM2.1 (Nat.le_of_ble_eq_true rfl) rfl rfl rfl ?_
      refine g_aload_n (q := 51) (i := 0) hC dX5_pass_50 rfl rfl rfl ?_
      refine g_getf (q := 54) hC kg_X5_122 dX5_pass_51 hM4.1 rfl rfl ?_
      exact g_iret hC hR dX5_pass_54 (by omega) (by omega) (⟨_, rfl, by rw [mo_pass, ← hw, gd0 rfl]; exact ⟨rfl, hM4⟩⟩)
    · have h1 : ¬ w = 0 := fun z => c_35 (rf0.mpr z)
      refine g_iconst (q := 39) (v := (0)) hC dX5_pass_38 rfl rfl ?_
      exact g_iret hC hR dX5_pass_39 (by omega) (by omega) (⟨_, rfl, by rw [mo_pass, ← hw, gd1 h1]; exact ⟨rfl, hM2⟩⟩)
  refine g_aload_n (q := 1) (i := 0) hC dX5_pass_0 rfl rfl rfl ?_
  refine g_iload_n (q := 2) (i := 1) hC dX5_pass_1 rfl rfl rfl ?_
  refine g_iconst (q := 3) (v := (1)) hC dX5_pass_2 rfl rfl ?_
  refine g_sipush (q := 6) (v := (1000)) hC dX5_pass_3 rfl rfl ?_
  refine g_ci (q := 9) (g_runS hC ks_X5_78 md_X5_in (c_M_in _ hC.fl M _ h 1 1000) dX5_pass_6 (by decide) (by decide) (by omega) (by omega) rfl rfl (Nat.le_of_ble_eq_true rfl)) rfl (fun r σ ⟨e1, e2⟩ => ?_) (fun _ _ h9 => False.elim h9)
  subst e1 e2
  refine g_if_ne (tgt := 16) (q := 12) hC dX5_pass_9 (by decide) rfl (fun c_9 => ?_) (fun c_9 => ?_)
  · have e1 : (decide (1 ≤ h) && decide (h ≤ 1000)) = true := bI_n.mp c_9
    refine g_aload_n (q := 17) (i := 0) hC dX5_pass_16 rfl rfl rfl ?_
    refine g_getf (q := 20) hC kg_X5_122 dX5_pass_17 hM.1 rfl rfl ?_
    refine g_iload_n (q := 21) (i := 1) hC dX5_pass_20 rfl rfl rfl ?_
    refine g_iadd (q := 22) hC dX5_pass_21 rfl rfl ?_
    refine g_ldc (q := 24) hC kk_X5_145 dX5_pass_22 rfl ?_
    refine g_icmp_le (tgt := 31) (q := 27) hC dX5_pass_24 (by decide) rfl (fun c_24 => ?_) (fun c_24 => ?_)
    · refine g_iconst (q := 32) (v := (0)) hC dX5_pass_31 rfl rfl ?_
      exact join 0 (by rw [rf_pass, e1, if_neg (by decide), if_neg (Int32.not_lt.mpr c_24)])
    · refine g_iconst (q := 28) (v := (2)) hC dX5_pass_27 rfl rfl ?_
      refine g_goto (tgt := 32) hC dX5_pass_28 (by decide) ?_
      exact join 2 (by rw [rf_pass, e1, if_neg (by decide), if_pos (Int32.not_le.mp c_24)])
  · have e1 : (decide (1 ≤ h) && decide (h ≤ 1000)) = false := bI_0.mp c_9
    refine g_iconst (q := 13) (v := (1)) hC dX5_pass_12 rfl rfl ?_
    refine g_goto (tgt := 32) hC dX5_pass_13 (by decide) ?_
    exact join 1 (by rw [rf_pass, e1, if_pos rfl])
theorem acct_lt {S : gSt} (hB : SB S) {kd x : Int32} {a : Nat} (h : acct S kd x = some a) : a < 9 + S.1 0 2 := by
  unfold acct at h
  split at h
  · split at h
    · cases h
      rename_i h1 h2
      obtain ⟨g1, g2⟩ := Bool.and_eq_true_iff.mp h2
      have g1 := of_decide_eq_true g1
      have g2 := of_decide_eq_true g2
      have h6 : x.toNatClampNeg = x.toInt.toNat := rfl
      have h7 := Int32.le_iff_toInt_le.mp g2
      have : (5 : Int32).toInt = 5 := by decide
      omega
    · cases h
  · split at h
    · split at h
      · cases h
        rename_i h0 h1 h2
        obtain ⟨g1, g2⟩ := Bool.and_eq_true_iff.mp h2
        have g2 := of_decide_eq_true g2
        have h6 : x.toNatClampNeg = x.toInt.toNat := rfl
        have h7 := Int32.le_iff_toInt_le.mp g2
        have : (2 : Int32).toInt = 2 := by decide
        omega
      · cases h
    · split at h
      · split at h
        · cases h
          rename_i h0 h1 h2 h3
          obtain ⟨p, hp, e⟩ := isP_nI hB h3
          have b2 := hB.2.1
          rw [e, nI_clamp (by omega)]
          omega
        · cases h
      · cases h
def mo_used (S : gSt) (kd x : Int32) : Int32 × Int32 × gSt := match acct S kd x with
  | none => (1, 0, S)
  | some a => (0, sumA S a (S.1 0 3), S)
def mo_filesOf (S : gSt) (kd x : Int32) : Int32 × Int32 × gSt := match acct S kd x with
  | none => (1, 0, S)
  | some a => (0, nI (cntF S a (S.1 0 3)), S)
def grA (S : gSt) (a : Nat) : Int32 := if S.2.1 15 a = -1 then -1 else if ggn S a = true then 0 else 48 - S.2.1 0 0 + S.2.1 15 a
def mo_grace (S : gSt) (kd x : Int32) : Int32 × Int32 × gSt := match acct S kd x with
  | none => (1, 0, S)
  | some a => (0, grA S a, S)
set_option maxRecDepth 100000 in
set_option maxHeartbeats 4000000 in
theorem c_M_used (l : Launch) (hfl : l.stackTraces = false) (M : gMT) (σ : gS) (φ : gS) (m : Nat) (ad : Nat → Nat) (rf kd x : Int32) (S : gSt) (hM : Mod M φ σ m ad rf S) (hB : SB S) : Con l M yX5_used (.code yX5_used cX5_used 4 (Option.some FieldType.int)) 4 0 0 [.ref m, .int kd, .int x] σ (rI (mP M φ m ad (mo_used S kd x))) (nX) := by
  refine g_con hfl (by decide) (lv := [(0, .ref m), (1, .int kd), (2, .int x)]) rfl rfl (Nat.le_of_ble_eq_true rfl) (fun X hX hC hR htb => ?_)
  have b2 := hB.2.1
  have ha := fun a h => acct_lt hB (kd := kd) (x := x) (a := a) h
  refine g_aload_n (q := 1) (i := 0) hC dX5_used_0 rfl rfl rfl ?_
  refine g_iload_n (q := 2) (i := 1) hC dX5_used_1 rfl rfl rfl ?_
  refine g_iload_n (q := 3) (i := 2) hC dX5_used_2 rfl rfl rfl ?_
  refine g_ci (q := 6) (g_runV hC kv_X5_142 md_X5_accountOf (c_M_accountOf _ hC.fl M _ φ m ad rf kd x S hM) (ci := 5) rfl hM.1 dX5_used_3 (by decide) (by decide) (by omega) (by omega) rfl rfl (Nat.le_of_ble_eq_true rfl)) rfl (fun r σ ⟨e1, e2⟩ => ?_) (fun _ _ h9 => False.elim h9)
  subst e1 e2
  refine g_istore_n (q := 7) (i := 3) hC dX5_used_6 rfl (by decide) rfl ?_
  refine g_aload_n (q := 8) (i := 0) hC dX5_used_7 rfl rfl rfl ?_
  refine g_iload_n (q := 9) (i := 3) hC dX5_used_8 rfl rfl rfl ?_
  refine g_ci (q := 12) (g_runV hC kv_X5_146 md_X5_noAccount (c_M_noAccount _ hC.fl M _ φ m ad rf (acct S kd x) S hM (fun a h => by have := ha a h; omega)) (ci := 5) rfl hM.1 dX5_used_9 (by decide) (by decide) (by omega) (by omega) rfl rfl (Nat.le_of_ble_eq_true rfl)) rfl (fun r σ2 ⟨e1, hM2⟩ => ?_) (fun _ _ h9 => False.elim h9)
  subst e1
  refine g_if_eq (tgt := 19) (q := 15) hC dX5_used_12 (by decide) rfl (fun c_12 => ?_) (fun c_12 => ?_)
  · have e := bI_0.mp c_12
    cases h9 : acct S kd x with
    | none => rw [h9] at e; cases e
    | some a =>
      rw [h9] at hM2
      refine g_aload_n (q := 20) (i := 0) hC dX5_used_19 rfl rfl rfl ?_
      refine g_iload_n (q := 21) (i := 3) hC dX5_used_20 rfl rfl rfl ?_
      refine g_aload_n (q := 22) (i := 0) hC dX5_used_21 rfl rfl rfl ?_
      refine g_getf (q := 25) hC kg_X5_115 dX5_used_22 hM2.1 rfl rfl ?_
      refine g_ci (q := 28) (g_runV hC kv_X5_118 md_X5_sum (c_M_sum _ hC.fl M _ φ m a (S.1 0 3) ad 0 S hM2 hB (ha a h9) (Nat.le_refl _)) (ci := 5) rfl hM2.1 dX5_used_25 (by decide) (by decide) (by omega) (by omega) rfl rfl (Nat.le_of_ble_eq_true rfl)) rfl (fun r σ ⟨e1, e2⟩ => ?_) (fun _ _ h9 => False.elim h9)
      subst e1 e2
      exact g_iret hC hR dX5_used_28 (by omega) (by omega) (⟨_, rfl, by rw [mo_used, h9]; exact ⟨rfl, hM2⟩⟩)
  · have e := bI_n.mp c_12
    cases h9 : acct S kd x with
    | some a => rw [h9] at e; cases e
    | none =>
      rw [h9] at hM2
      refine g_iconst (q := 16) (v := (0)) hC dX5_used_15 rfl rfl ?_
      refine g_goto (tgt := 28) hC dX5_used_16 (by decide) ?_
      exact g_iret hC hR dX5_used_28 (by omega) (by omega) (⟨_, rfl, by rw [mo_used, h9]; exact ⟨rfl, hM2⟩⟩)
set_option maxRecDepth 100000 in
set_option maxHeartbeats 4000000 in
theorem c_M_usedByFiles (l : Launch) (hfl : l.stackTraces = false) (M : gMT) (σ : gS) (φ : gS) (m : Nat) (ad : Nat → Nat) (rf kd x : Int32) (S : gSt) (hM : Mod M φ σ m ad rf S) (hB : SB S) : Con l M yX5_usedByFiles (.code yX5_usedByFiles cX5_usedByFiles 3 (Option.some FieldType.int)) 5 0 0 [.ref m, .int kd, .int x] σ (rI (mP M φ m ad (mo_used S kd x))) (nX) := by
  refine g_con hfl (by decide) (lv := [(0, .ref m), (1, .int kd), (2, .int x)]) rfl rfl (Nat.le_of_ble_eq_true rfl) (fun X hX hC hR htb => ?_)
  refine g_aload_n (q := 1) (i := 0) hC dX5_usedByFiles_0 rfl rfl rfl ?_
  refine g_iload_n (q := 2) (i := 1) hC dX5_usedByFiles_1 rfl rfl rfl ?_
  refine g_iload_n (q := 3) (i := 2) hC dX5_usedByFiles_2 rfl rfl rfl ?_
  refine g_ci (q := 6) (g_runV hC kv_X5_149 md_X5_used (c_M_used _ hC.fl M _ φ m ad rf kd x S hM hB) (ci := 5) rfl hM.1 dX5_usedByFiles_3 (by decide) (by decide) (by omega) (by omega) rfl rfl (Nat.le_of_ble_eq_true rfl)) rfl (fun r σ2 ⟨e1, hM2⟩ => ?_) (fun _ _ h9 => False.elim h9)
  subst e1
  exact g_iret hC hR dX5_usedByFiles_6 (by omega) (by omega) (⟨_, rfl, rfl, hM2⟩)
set_option maxRecDepth 100000 in
set_option maxHeartbeats 4000000 in
theorem c_M_filesOf (l : Launch) (hfl : l.stackTraces = false) (M : gMT) (σ : gS) (φ : gS) (m : Nat) (ad : Nat → Nat) (rf kd x : Int32) (S : gSt) (hM : Mod M φ σ m ad rf S) (hB : SB S) : Con l M yX5_filesOf (.code yX5_filesOf cX5_filesOf 4 (Option.some FieldType.int)) 4 0 0 [.ref m, .int kd, .int x] σ (rI (mP M φ m ad (mo_filesOf S kd x))) (nX) := by
  refine g_con hfl (by decide) (lv := [(0, .ref m), (1, .int kd), (2, .int x)]) rfl rfl (Nat.le_of_ble_eq_true rfl) (fun X hX hC hR htb => ?_)
  have b2 := hB.2.1
  have ha := fun a h => acct_lt hB (kd := kd) (x := x) (a := a) h
  refine g_aload_n (q := 1) (i := 0) hC dX5_filesOf_0 rfl rfl rfl ?_
  refine g_iload_n (q := 2) (i := 1) hC dX5_filesOf_1 rfl rfl rfl ?_
  refine g_iload_n (q := 3) (i := 2) hC dX5_filesOf_2 rfl rfl rfl ?_
  refine g_ci (q := 6) (g_runV hC kv_X5_142 md_X5_accountOf (c_M_accountOf _ hC.fl M _ φ m ad rf kd x S hM) (ci := 5) rfl hM.1 dX5_filesOf_3 (by decide) (by decide) (by omega) (by omega) rfl rfl (Nat.le_of_ble_eq_true rfl)) rfl (fun r σ ⟨e1, e2⟩ => ?_) (fun _ _ h9 => False.elim h9)
  subst e1 e2
  refine g_istore_n (q := 7) (i := 3) hC dX5_filesOf_6 rfl (by decide) rfl ?_
  refine g_aload_n (q := 8) (i := 0) hC dX5_filesOf_7 rfl rfl rfl ?_
  refine g_iload_n (q := 9) (i := 3) hC dX5_filesOf_8 rfl rfl rfl ?_
  refine g_ci (q := 12) (g_runV hC kv_X5_146 md_X5_noAccount (c_M_noAccount _ hC.fl M _ φ m ad rf (acct S kd x) S hM (fun a h => by have := ha a h; omega)) (ci := 5) rfl hM.1 dX5_filesOf_9 (by decide) (by decide) (by omega) (by omega) rfl rfl (Nat.le_of_ble_eq_true rfl)) rfl (fun r σ2 ⟨e1, hM2⟩ => ?_) (fun _ _ h9 => False.elim h9)
  subst e1
  refine g_if_eq (tgt := 19) (q := 15) hC dX5_filesOf_12 (by decide) rfl (fun c_12 => ?_) (fun c_12 => ?_)
  · have e := bI_0.mp c_12
    cases h9 : acct S kd x with
    | none => rw [h9] at e; cases e
    | some a =>
      rw [h9] at hM2
      refine g_aload_n (q := 20) (i := 0) hC dX5_filesOf_19 rfl rfl rfl ?_
      refine g_iload_n (q := 21) (i := 3) hC dX5_filesOf_20 rfl rfl rfl ?_
      refine g_ci (q := 24) (g_runV hC kv_X5_132 md_X5_countFiles (c_M_countFiles _ hC.fl M _ φ m a ad 0 S hM2 hB (ha a h9)) (ci := 5) rfl hM2.1 dX5_filesOf_21 (by decide) (by decide) (by omega) (by omega) rfl rfl (Nat.le_of_ble_eq_true rfl)) rfl (fun r σ ⟨e1, e2⟩ => ?_) (fun _ _ h9 => False.elim h9)
      subst e1 e2
      exact g_iret hC hR dX5_filesOf_24 (by omega) (by omega) (⟨_, rfl, by rw [mo_filesOf, h9]; exact ⟨rfl, hM2⟩⟩)
  · have e := bI_n.mp c_12
    cases h9 : acct S kd x with
    | some a => rw [h9] at e; cases e
    | none =>
      rw [h9] at hM2
      refine g_iconst (q := 16) (v := (0)) hC dX5_filesOf_15 rfl rfl ?_
      refine g_goto (tgt := 24) hC dX5_filesOf_16 (by decide) ?_
      exact g_iret hC hR dX5_filesOf_24 (by omega) (by omega) (⟨_, rfl, by rw [mo_filesOf, h9]; exact ⟨rfl, hM2⟩⟩)
set_option maxRecDepth 100000 in
set_option maxHeartbeats 4000000 in
theorem c_M_grace (l : Launch) (hfl : l.stackTraces = false) (M : gMT) (σ : gS) (φ : gS) (m : Nat) (ad : Nat → Nat) (rf kd x : Int32) (S : gSt) (hM : Mod M φ σ m ad rf S) (hB : SB S) : Con l M yX5_grace (.code yX5_grace cX5_grace 4 (Option.some FieldType.int)) 4 0 0 [.ref m, .int kd, .int x] σ (rI (mP M φ m ad (mo_grace S kd x))) (nX) := by
  refine g_con hfl (by decide) (lv := [(0, .ref m), (1, .int kd), (2, .int x)]) rfl rfl (Nat.le_of_ble_eq_true rfl) (fun X hX hC hR htb => ?_)
  have b2 := hB.2.1
  have ha := fun a h => acct_lt hB (kd := kd) (x := x) (a := a) h
  refine g_aload_n (q := 1) (i := 0) hC dX5_grace_0 rfl rfl rfl ?_
  refine g_iload_n (q := 2) (i := 1) hC dX5_grace_1 rfl rfl rfl ?_
  refine g_iload_n (q := 3) (i := 2) hC dX5_grace_2 rfl rfl rfl ?_
  refine g_ci (q := 6) (g_runV hC kv_X5_142 md_X5_accountOf (c_M_accountOf _ hC.fl M _ φ m ad rf kd x S hM) (ci := 5) rfl hM.1 dX5_grace_3 (by decide) (by decide) (by omega) (by omega) rfl rfl (Nat.le_of_ble_eq_true rfl)) rfl (fun r σ ⟨e1, e2⟩ => ?_) (fun _ _ h9 => False.elim h9)
  subst e1 e2
  refine g_istore_n (q := 7) (i := 3) hC dX5_grace_6 rfl (by decide) rfl ?_
  refine g_aload_n (q := 8) (i := 0) hC dX5_grace_7 rfl rfl rfl ?_
  refine g_iload_n (q := 9) (i := 3) hC dX5_grace_8 rfl rfl rfl ?_
  refine g_ci (q := 12) (g_runV hC kv_X5_146 md_X5_noAccount (c_M_noAccount _ hC.fl M _ φ m ad rf (acct S kd x) S hM (fun a h => by have := ha a h; omega)) (ci := 5) rfl hM.1 dX5_grace_9 (by decide) (by decide) (by omega) (by omega) rfl rfl (Nat.le_of_ble_eq_true rfl)) rfl (fun r σ2 ⟨e1, hM2⟩ => ?_) (fun _ _ h9 => False.elim h9)
  subst e1
  refine g_if_ne (tgt := 25) (q := 15) hC dX5_grace_12 (by decide) rfl (fun c_12 => ?_) (fun c_12 => ?_)
  · have e := bI_n.mp c_12
    cases h9 : acct S kd x with
    | some a => rw [h9] at e; cases e
    | none =>
      rw [h9] at hM2
      refine g_aload_n (q := 26) (i := 0) hC dX5_grace_25 rfl rfl rfl ?_
      refine g_getf (q := 29) hC kg_X5_61 dX5_grace_26 hM2.1 rfl rfl ?_
      refine g_if_ne (tgt := 36) (q := 32) hC dX5_grace_29 (by decide) rfl (fun c_29 => ?_) (fun c_29 => ?_)
      · refine g_iconst (q := 37) (v := (0)) hC dX5_grace_36 rfl rfl ?_
        exact g_iret hC hR dX5_grace_37 (by omega) (by omega) (⟨_, rfl, by rw [mo_grace, h9]; exact ⟨rfl, hM2⟩⟩)
      · exact absurd c_29 (by decide)
  · have e := bI_0.mp c_12
    cases h9 : acct S kd x with
    | none => rw [h9] at e; cases e
    | some a =>
      rw [h9] at hM2
      have ha9 := ha a h9
      refine g_sub (lv0 := [(0, .ref m), (1, .int kd), (2, .int x), (3, .int (nI a))]) ⟨rfl, rfl, rfl, rfl, trivial⟩ ?_
      refine g_aload_n (q := 16) (i := 0) hC dX5_grace_15 rfl rfl rfl ?_
      refine g_getf (q := 19) hC kg_X5_58 dX5_grace_16 hM2.1 rfl rfl ?_
      refine g_iload_n (q := 20) (i := 3) hC dX5_grace_19 rfl rfl rfl ?_
      refine g_iald (q := 21) (v := S.2.1 15 a) hC dX5_grace_20 hM2.a15 (vp_in_nI (by omega) (by omega)) (by rw [nI_clamp (by omega)]) rfl ?_
      refine g_iconst (q := 22) (v := (-1)) hC dX5_grace_21 rfl rfl ?_
      refine g_icmp_ne (tgt := 38) (q := 25) hC dX5_grace_22 (by decide) rfl (fun c_22 => ?_) (fun c_22 => ?_)
      · refine g_aload_n (q := 39) (i := 0) hC dX5_grace_38 rfl rfl rfl ?_
        refine g_iload_n (q := 40) (i := 3) hC dX5_grace_39 rfl rfl rfl ?_
        refine g_ci (q := 43) (g_runV hC kv_X5_129 md_X5_isGraceGone (c_M_isGraceGone _ hC.fl M _ φ m a ad 0 S hM2 (by omega)) (ci := 5) rfl hM2.1 dX5_grace_40 (by decide) (by decide) (by omega) (by omega) rfl rfl (Nat.le_of_ble_eq_true rfl)) rfl (fun r σ ⟨e1, e2⟩ => ?_) (fun _ _ h9 => False.elim h9)
        subst e1 e2
        refine g_if_eq (tgt := 50) (q := 46) hC dX5_grace_43 (by decide) rfl (fun c_43 => ?_) (fun c_43 => ?_)
        · have g0 : ¬ ggn S a = true := fun z => by rw [bI_0.mp c_43] at z; cases z
          refine g_bipush (q := 52) (v := (48)) hC dX5_grace_50 rfl rfl ?_
          refine g_aload_n (q := 53) (i := 0) hC dX5_grace_52 rfl rfl rfl ?_
          refine g_getf (q := 56) hC kg_X5_122 dX5_grace_53 hM2.1 rfl rfl ?_
          refine g_isub (q := 57) hC dX5_grace_56 rfl rfl ?_
          refine g_aload_n (q := 58) (i := 0) hC dX5_grace_57 rfl rfl rfl ?_
          refine g_getf (q := 61) hC kg_X5_58 dX5_grace_58 hM2.1 rfl rfl ?_
          refine g_iload_n (q := 62) (i := 3) hC dX5_grace_61 rfl rfl rfl ?_
          refine g_iald (q := 63) (v := S.2.1 15 a) hC dX5_grace_62 hM2.a15 (vp_in_nI (by omega) (by omega)) (by rw [nI_clamp (by omega)]) rfl ?_
          refine g_iadd (q := 64) hC dX5_grace_63 rfl rfl ?_
          exact g_iret hC hR dX5_grace_64 (by omega) (by omega) (⟨_, rfl, by rw [mo_grace, h9]; exact ⟨by show _ = grA S a; rw [grA, if_neg c_22, if_neg g0], hM2⟩⟩)
        · have g0 : ggn S a = true := bI_n.mp c_43
          refine g_iconst (q := 47) (v := (0)) hC dX5_grace_46 rfl rfl ?_
          refine g_goto (tgt := 64) hC dX5_grace_47 (by decide) ?_
          exact g_iret hC hR dX5_grace_64 (by omega) (by omega) (⟨_, rfl, by rw [mo_grace, h9]; exact ⟨by show _ = grA S a; rw [grA, if_neg c_22, if_pos g0], hM2⟩⟩)
      · refine g_aload_n (q := 26) (i := 0) hC dX5_grace_25 rfl rfl rfl ?_
        refine g_getf (q := 29) hC kg_X5_61 dX5_grace_26 hM2.1 rfl rfl ?_
        refine g_if_ne (tgt := 36) (q := 32) hC dX5_grace_29 (by decide) rfl (fun c_29 => ?_) (fun c_29 => ?_)
        · exact absurd rfl c_29
        · refine g_iconst (q := 33) (v := (-1)) hC dX5_grace_32 rfl rfl ?_
          refine g_goto (tgt := 37) hC dX5_grace_33 (by decide) ?_
          exact g_iret hC hR dX5_grace_37 (by omega) (by omega) (⟨_, rfl, by rw [mo_grace, h9]; exact ⟨by show _ = grA S a; rw [grA, if_pos c_22], hM2⟩⟩)
def mo_beginRecount (S : gSt) : Int32 × Int32 × gSt := (0, nI (S.1 0 3), sN (sB S 0 5 true) 0 6 0)
set_option maxRecDepth 100000 in
set_option maxHeartbeats 4000000 in
theorem c_M_beginRecount (l : Launch) (hfl : l.stackTraces = false) (M : gMT) (σ : gS) (φ : gS) (m : Nat) (ad : Nat → Nat) (rf : Int32) (S : gSt) (hM : Mod M φ σ m ad rf S) : Con l M yX5_beginRecount (.code yX5_beginRecount cX5_beginRecount 1 (Option.some FieldType.int)) 2 0 0 [.ref m] σ (rI (mP M φ m ad (mo_beginRecount S))) (nX) := by
  refine g_con hfl (by decide) (lv := [(0, .ref m)]) rfl rfl (Nat.le_of_ble_eq_true rfl) (fun X hX hC hR htb => ?_)
  have hM2 := hM.s21 true
  have hM3 := hM2.s22 0
  refine g_aload_n (q := 1) (i := 0) hC dX5_beginRecount_0 rfl rfl rfl ?_
  refine g_iconst (q := 2) (v := (1)) hC dX5_beginRecount_1 rfl rfl ?_
  refine g_putf (q := 5) hC kf_X5_152 dX5_beginRecount_2 hM.1 (Nat.le_of_ble_eq_true rfl) rfl rfl rfl ?_
  refine g_aload_n (q := 6) (i := 0) hC dX5_beginRecount_5 rfl rfl rfl ?_
  refine g_iconst (q := 7) (v := nI 0) hC dX5_beginRecount_6 rfl rfl ?_
  refine g_putf (q := 10) hC kf_X5_156 dX5_beginRecount_7 hM2.1 (Nat.le_of_ble_eq_true rfl) rfl rfl rfl ?_
  refine g_aload_n (q := 11) (i := 0) hC dX5_beginRecount_10 rfl rfl rfl ?_
  refine g_aload_n (q := 12) (i := 0) hC dX5_beginRecount_11 rfl rfl rfl ?_
  refine g_getf (q := 15) hC kg_X5_115 dX5_beginRecount_12 hM3.1 rfl rfl ?_
  refine g_ci (q := 18) (g_runV hC kv_X5_71 md_X5_fine (c_M_fine _ hC.fl M _ φ m ad rf (nI (S.1 0 3)) (sN (sB S 0 5 true) 0 6 0) hM3) (ci := 5) rfl hM3.1 dX5_beginRecount_15 (by decide) (by decide) (by omega) (by omega) rfl rfl (Nat.le_of_ble_eq_true rfl)) rfl (fun r σ3 ⟨e1, hM4⟩ => ?_) (fun _ _ h9 => False.elim h9)
  subst e1
  exact g_iret hC hR dX5_beginRecount_18 (by omega) (by omega) (⟨_, rfl, rfl, hM4⟩)
def rf_recount (S : gSt) (n : Int32) : Int32 := if (decide (1 ≤ n) && decide (n ≤ 40)) = false then 1 else if S.2.2 0 5 = false then 2 else 0
def rcT (S : gSt) (n : Int32) : Nat := if S.1 0 6 + n.toNatClampNeg < S.1 0 3 then S.1 0 6 + n.toNatClampNeg else S.1 0 3
def mo_recount (S : gSt) (n : Int32) : Int32 × Int32 × gSt := gd (rf_recount S n) 0 S (nI (S.1 0 3 - rcT S n), sN S 0 6 (rcT S n))
set_option maxRecDepth 100000 in
set_option maxHeartbeats 4000000 in
theorem c_M_recount (l : Launch) (hfl : l.stackTraces = false) (M : gMT) (σ : gS) (φ : gS) (m : Nat) (ad : Nat → Nat) (rf n : Int32) (S : gSt) (hM : Mod M φ σ m ad rf S) (hB : SB S) : Con l M yX5_recount (.code yX5_recount cX5_recount 2 (Option.some FieldType.int)) 3 0 0 [.ref m, .int n] σ (rI (mP M φ m ad (mo_recount S n))) (nX) := by
  refine g_con hfl (by decide) (lv := [(0, .ref m), (1, .int n)]) rfl rfl (Nat.le_of_ble_eq_true rfl) (fun X hX hC hR htb => ?_)
  have b3 := hB.2.2.1
  have b5 := hB.2.2.2.2.1
  have join : ∀ w : Int32, w = rf_recount S n → G X M 2 (gQ X M 0 0 (rI (mP M φ m ad (mo_recount S n))) nX) 0 0 σ 27 [(0, .ref m), (1, .int n)] [.int w, .ref m] := by
    intro w hw
    refine g_ci (q := 30) (g_runV hC kv_X5_67 md_X5_refused (c_M_refused _ hC.fl M _ φ m ad rf w S hM) (ci := 5) rfl hM.1 dX5_recount_27 (by decide) (by decide) (by omega) (by omega) rfl rfl (Nat.le_of_ble_eq_true rfl)) rfl (fun r σ2 ⟨e1, hM2⟩ => ?_) (fun _ _ h9 => False.elim h9)
    subst e1
    refine g_if_eq (tgt := 35) (q := 33) hC dX5_recount_30 (by decide) rfl (fun c_30 => ?_) (fun c_30 => ?_)
    · have h0 := rf0.mp c_30
      subst h0
      have h8 : ¬ (decide (1 ≤ n) && decide (n ≤ 40)) = false := (rf2 hw).1
      have h8 : (decide (1 ≤ n) && decide (n ≤ 40)) = true := by
        cases z : (decide (1 ≤ n) && decide (n ≤ 40)) with
        | true => rfl
        | false => exact absurd z h8
      have g1 := of_decide_eq_true (Bool.and_eq_true_iff.mp h8).1
      have g2 := of_decide_eq_true (Bool.and_eq_true_iff.mp h8).2
      have en : n = nI n.toNatClampNeg := nonneg_nI (Int32.le_trans (by decide) g1)
      have hn : n.toNatClampNeg ≤ 40 := by
        have h6 : n.toNatClampNeg = n.toInt.toNat := rfl
        have h7 := Int32.le_iff_toInt_le.mp g2
        have : (40 : Int32).toInt = 40 := by decide
        omega
      have hr : rcT S n ≤ S.1 0 3 := by
        unfold rcT
        split <;> omega
      have fin : G X M 2 (gQ X M 0 0 (rI (mP M φ m ad (mo_recount S n))) nX) 0 0 σ2 62 [(0, .ref m), (1, .int n)] [.int (nI (rcT S n)), .ref m] := by
        have hM4 := hM2.s22 (rcT S n)
        refine g_putf (q := 65) hC kf_X5_156 dX5_recount_62 hM2.1 (Nat.le_of_ble_eq_true rfl) rfl rfl rfl ?_
        refine g_aload_n (q := 66) (i := 0) hC dX5_recount_65 rfl rfl rfl ?_
        refine g_getf (q := 69) hC kg_X5_115 dX5_recount_66 hM4.1 rfl rfl ?_
        refine g_aload_n (q := 70) (i := 0) hC dX5_recount_69 rfl rfl rfl ?_
        refine g_getf (q := 73) hC kg_X5_156 dX5_recount_70 hM4.1 rfl rfl ?_
        refine g_isub (q := 74) (v := (nI (((sN S 0 6 (rcT S n)).1 0 3) - ((sN S 0 6 (rcT S n)).1 0 6)))) hC dX5_recount_73 (pk_sub hr) rfl ?_
        exact g_iret hC hR dX5_recount_74 (by omega) (by omega) (⟨_, rfl, by rw [mo_recount, ← hw, gd0 rfl]; exact ⟨rfl, hM4⟩⟩)
      generalize hj : n.toNatClampNeg = j at *
      subst en
      refine g_aload_n (q := 36) (i := 0) hC dX5_recount_35 rfl rfl rfl ?_
      refine g_aload_n (q := 37) (i := 0) hC dX5_recount_36 rfl rfl rfl ?_
      refine g_getf (q := 40) hC kg_X5_156 dX5_recount_37 hM2.1 rfl rfl ?_
      refine g_iload_n (q := 41) (i := 1) hC dX5_recount_40 rfl rfl rfl ?_
      refine g_iadd (q := 42) (v := (nI ((S.1 0 6) + j))) hC dX5_recount_41 (nI_add _ _) rfl ?_
      refine g_aload_n (q := 43) (i := 0) hC dX5_recount_42 rfl rfl rfl ?_
      refine g_getf (q := 46) hC kg_X5_115 dX5_recount_43 hM2.1 rfl rfl ?_
      refine g_icmp_ge (tgt := 58) (q := 49) hC dX5_recount_46 (by decide) rfl (fun c_46 => ?_) (fun c_46 => ?_)
      · refine g_aload_n (q := 59) (i := 0) hC dX5_recount_58 rfl rfl rfl ?_
        refine g_getf (q := 62) hC kg_X5_115 dX5_recount_59 hM2.1 rfl rfl ?_
        have e : rcT S (nI j) = S.1 0 3 := by
          rw [rcT, nI_clamp (by omega), if_neg (fun z => absurd (nI_lt z (by omega)) (Int32.not_lt.mpr c_46))]
        rw [e] at fin
        exact fin
      · refine g_aload_n (q := 50) (i := 0) hC dX5_recount_49 rfl rfl rfl ?_
        refine g_getf (q := 53) hC kg_X5_156 dX5_recount_50 hM2.1 rfl rfl ?_
        refine g_iload_n (q := 54) (i := 1) hC dX5_recount_53 rfl rfl rfl ?_
        refine g_iadd (q := 55) (v := (nI ((S.1 0 6) + j))) hC dX5_recount_54 (nI_add _ _) rfl ?_
        refine g_goto (tgt := 62) hC dX5_recount_55 (by decide) ?_
        have e : rcT S (nI j) = S.1 0 6 + j := by
          rw [rcT, nI_clamp (by omega), if_pos ((nI_ltI (by omega) (by omega)).mp (Int32.not_le.mp c_46))]
        rw [e] at fin
        exact fin
    · have h1 : ¬ w = 0 := fun z => c_30 (rf0.mpr z)
      refine g_iconst (q := 34) (v := (0)) hC dX5_recount_33 rfl rfl ?_
      exact g_iret hC hR dX5_recount_34 (by omega) (by omega) (⟨_, rfl, by rw [mo_recount, ← hw, gd1 h1]; exact ⟨rfl, hM2⟩⟩)
  refine g_aload_n (q := 1) (i := 0) hC dX5_recount_0 rfl rfl rfl ?_
  refine g_iload_n (q := 2) (i := 1) hC dX5_recount_1 rfl rfl rfl ?_
  refine g_iconst (q := 3) (v := (1)) hC dX5_recount_2 rfl rfl ?_
  refine g_bipush (q := 5) (v := (40)) hC dX5_recount_3 rfl rfl ?_
  refine g_ci (q := 8) (g_runS hC ks_X5_78 md_X5_in (c_M_in _ hC.fl M _ n 1 40) dX5_recount_5 (by decide) (by decide) (by omega) (by omega) rfl rfl (Nat.le_of_ble_eq_true rfl)) rfl (fun r σ ⟨e1, e2⟩ => ?_) (fun _ _ h9 => False.elim h9)
  subst e1 e2
  refine g_if_ne (tgt := 15) (q := 11) hC dX5_recount_8 (by decide) rfl (fun c_8 => ?_) (fun c_8 => ?_)
  · have e1 : (decide (1 ≤ n) && decide (n ≤ 40)) = true := bI_n.mp c_8
    refine g_aload_n (q := 16) (i := 0) hC dX5_recount_15 rfl rfl rfl ?_
    refine g_getf (q := 19) hC kg_X5_152 dX5_recount_16 hM.1 rfl rfl ?_
    refine g_if_eq (tgt := 26) (q := 22) hC dX5_recount_19 (by decide) rfl (fun c_19 => ?_) (fun c_19 => ?_)
    · refine g_iconst (q := 27) (v := (2)) hC dX5_recount_26 rfl rfl ?_
      exact join 2 (by rw [rf_recount, e1, if_neg (by decide), if_pos (bI_0.mp c_19)])
    · refine g_iconst (q := 23) (v := (0)) hC dX5_recount_22 rfl rfl ?_
      refine g_goto (tgt := 27) hC dX5_recount_23 (by decide) ?_
      exact join 0 (by rw [rf_recount, e1, if_neg (by decide), if_neg (by rw [bI_n.mp c_19]; decide)])
  · have e1 : (decide (1 ≤ n) && decide (n ≤ 40)) = false := bI_0.mp c_8
    refine g_iconst (q := 12) (v := (1)) hC dX5_recount_11 rfl rfl ?_
    refine g_goto (tgt := 27) hC dX5_recount_12 (by decide) ?_
    exact join 1 (by rw [rf_recount, e1, if_pos rfl])
def rf_counted (S : gSt) (kd x : Int32) : Int32 := if acct S kd x = none then 1 else if S.2.2 0 5 = false then 2 else 0
def mo_counted (S : gSt) (kd x : Int32) : Int32 × Int32 × gSt := gd (rf_counted S kd x) 0 S (sumA S ((acct S kd x).getD 0) (S.1 0 6), S)
set_option maxRecDepth 100000 in
set_option maxHeartbeats 4000000 in
theorem c_M_counted (l : Launch) (hfl : l.stackTraces = false) (M : gMT) (σ : gS) (φ : gS) (m : Nat) (ad : Nat → Nat) (rf kd x : Int32) (S : gSt) (hM : Mod M φ σ m ad rf S) (hB : SB S) : Con l M yX5_counted (.code yX5_counted cX5_counted 4 (Option.some FieldType.int)) 4 0 0 [.ref m, .int kd, .int x] σ (rI (mP M φ m ad (mo_counted S kd x))) (nX) := by
  refine g_con hfl (by decide) (lv := [(0, .ref m), (1, .int kd), (2, .int x)]) rfl rfl (Nat.le_of_ble_eq_true rfl) (fun X hX hC hR htb => ?_)
  have b2 := hB.2.1
  have b5 := hB.2.2.2.2.1
  have ha := fun a h => acct_lt hB (kd := kd) (x := x) (a := a) h
  have join : ∀ w : Int32, w = rf_counted S kd x → G X M 4 (gQ X M 0 0 (rI (mP M φ m ad (mo_counted S kd x))) nX) 0 0 σ 29 [(3, .int (oI (acct S kd x))), (0, .ref m), (1, .int kd), (2, .int x)] [.int w, .ref m] := by
    intro w hw
    refine g_ci (q := 32) (g_runV hC kv_X5_67 md_X5_refused (c_M_refused _ hC.fl M _ φ m ad rf w S hM) (ci := 5) rfl hM.1 dX5_counted_29 (by decide) (by decide) (by omega) (by omega) rfl rfl (Nat.le_of_ble_eq_true rfl)) rfl (fun r σ2 ⟨e1, hM2⟩ => ?_) (fun _ _ h9 => False.elim h9)
    subst e1
    refine g_if_eq (tgt := 39) (q := 35) hC dX5_counted_32 (by decide) rfl (fun c_32 => ?_) (fun c_32 => ?_)
    · have h0 := rf0.mp c_32
      subst h0
      have h8 : ¬ acct S kd x = none := (rf2 hw).1
      cases h9 : acct S kd x with
      | none => exact absurd h9 h8
      | some a =>
        refine g_sub (lv0 := [(0, .ref m), (1, .int kd), (2, .int x), (3, .int (nI a))]) ⟨rfl, rfl, rfl, rfl, trivial⟩ ?_
        refine g_aload_n (q := 40) (i := 0) hC dX5_counted_39 rfl rfl rfl ?_
        refine g_iload_n (q := 41) (i := 3) hC dX5_counted_40 rfl rfl rfl ?_
        refine g_aload_n (q := 42) (i := 0) hC dX5_counted_41 rfl rfl rfl ?_
        refine g_getf (q := 45) hC kg_X5_156 dX5_counted_42 hM2.1 rfl rfl ?_
        refine g_ci (q := 48) (g_runV hC kv_X5_118 md_X5_sum (c_M_sum _ hC.fl M _ φ m a (S.1 0 6) ad 0 S hM2 hB (ha a h9) b5) (ci := 5) rfl hM2.1 dX5_counted_45 (by decide) (by decide) (by omega) (by omega) rfl rfl (Nat.le_of_ble_eq_true rfl)) rfl (fun r σ ⟨e1, e2⟩ => ?_) (fun _ _ h9 => False.elim h9)
        subst e1 e2
        exact g_iret hC hR dX5_counted_48 (by omega) (by omega) (⟨_, rfl, by rw [mo_counted, ← hw, gd0 rfl, h9]; exact ⟨rfl, hM2⟩⟩)
    · have h1 : ¬ w = 0 := fun z => c_32 (rf0.mpr z)
      refine g_iconst (q := 36) (v := (0)) hC dX5_counted_35 rfl rfl ?_
      refine g_goto (tgt := 48) hC dX5_counted_36 (by decide) ?_
      exact g_iret hC hR dX5_counted_48 (by omega) (by omega) (⟨_, rfl, by rw [mo_counted, ← hw, gd1 h1]; exact ⟨rfl, hM2⟩⟩)
  refine g_aload_n (q := 1) (i := 0) hC dX5_counted_0 rfl rfl rfl ?_
  refine g_iload_n (q := 2) (i := 1) hC dX5_counted_1 rfl rfl rfl ?_
  refine g_iload_n (q := 3) (i := 2) hC dX5_counted_2 rfl rfl rfl ?_
  refine g_ci (q := 6) (g_runV hC kv_X5_142 md_X5_accountOf (c_M_accountOf _ hC.fl M _ φ m ad rf kd x S hM) (ci := 5) rfl hM.1 dX5_counted_3 (by decide) (by decide) (by omega) (by omega) rfl rfl (Nat.le_of_ble_eq_true rfl)) rfl (fun r σ ⟨e1, e2⟩ => ?_) (fun _ _ h9 => False.elim h9)
  subst e1 e2
  refine g_istore_n (q := 7) (i := 3) hC dX5_counted_6 rfl (by decide) rfl ?_
  refine g_aload_n (q := 8) (i := 0) hC dX5_counted_7 rfl rfl rfl ?_
  refine g_iload_n (q := 9) (i := 3) hC dX5_counted_8 rfl rfl rfl ?_
  refine g_iconst (q := 10) (v := (-1)) hC dX5_counted_9 rfl rfl ?_
  refine g_icmp_ne (tgt := 17) (q := 13) hC dX5_counted_10 (by decide) rfl (fun c_10 => ?_) (fun c_10 => ?_)
  · refine g_aload_n (q := 18) (i := 0) hC dX5_counted_17 rfl rfl rfl ?_
    refine g_getf (q := 21) hC kg_X5_152 dX5_counted_18 hM.1 rfl rfl ?_
    refine g_if_eq (tgt := 28) (q := 24) hC dX5_counted_21 (by decide) rfl (fun c_21 => ?_) (fun c_21 => ?_)
    · refine g_iconst (q := 29) (v := (2)) hC dX5_counted_28 rfl rfl ?_
      exact join 2 (by rw [rf_counted, if_neg (fun z => c_10 (by rw [z]; rfl)), if_pos (bI_0.mp c_21)])
    · refine g_iconst (q := 25) (v := (0)) hC dX5_counted_24 rfl rfl ?_
      refine g_goto (tgt := 29) hC dX5_counted_25 (by decide) ?_
      exact join 0 (by rw [rf_counted, if_neg (fun z => c_10 (by rw [z]; rfl)), if_neg (by rw [bI_n.mp c_21]; decide)])
  · refine g_iconst (q := 14) (v := (1)) hC dX5_counted_13 rfl rfl ?_
    refine g_goto (tgt := 29) hC dX5_counted_14 (by decide) ?_
    exact join 1 (by rw [rf_counted, if_pos ((oI_none (fun a h => by have := ha a h; omega)).mp c_10)])
