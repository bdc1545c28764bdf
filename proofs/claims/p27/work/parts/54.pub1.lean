/-! ===== the ledger's calls (1) ===== -/
/-- what a call gives: the exception ("" for none), the answer, what is left -/
abbrev lRes : Type := String × Int32 × gSt
def lP (M : gMT) (σ : gS) (A : gAd) (T : lRes) : Int32 → gS → Prop := fun r σ2 => T.1 = "" ∧ r = T.2.1 ∧ (∃ A', A' 0 0 = A 0 0 ∧ RawE M σ2 A' T.2.2) ∧ gFF σ σ2
def lX (σ : gS) (T : lRes) : String → gS → Prop := fun E σ2 => (T.1 = E ∧ E ≠ "") ∧ σ2 = σ
theorem eA_n : eA ≠ "" := by decide
theorem eS_n : eS ≠ "" := by decide
theorem eI_n : eI ≠ "" := by decide
theorem lP_same {M : gMT} {σ : gS} {A : gAd} {ρ : gSt} {W : gWt} {T : lRes} {r : Int32} (hr : Raw M σ A ρ W) (hT : T = ("", r, ρ)) : lP M σ A T r σ := by
  subst hT
  exact ⟨rfl, rfl, ⟨A, rfl, W, hr⟩, gFF.rf⟩
theorem lX_of {σ : gS} {T : lRes} {E : String} (h : T.1 = E) (hE : E ≠ "") : lX σ T E σ := ⟨⟨h, hE⟩, rfl⟩
def lo_projects (ρ : gSt) : lRes := ("", nI (ρ.1 10 3), ρ)
set_option maxRecDepth 100000 in
set_option maxHeartbeats 4000000 in
theorem c_L_projects (l : Launch) (hfl : l.stackTraces = false) (M : gMT) (σ : gS) (A : gAd) (ρ : gSt) (W : gWt) (hr : Raw M σ A ρ W) (hW : RW ρ) : Con l M yX4_projects (.code yX4_projects cX4_projects 1 (Option.some FieldType.int)) 12 0 0 [.ref (A 0 0)] σ (rI (lP M σ A (lo_projects ρ))) (nX) := by
  refine g_con hfl (by decide) (lv := [(0, .ref (A 0 0))]) rfl rfl (Nat.le_of_ble_eq_true rfl) (fun X hX hC hR htb => ?_)
  refine g_aload_n (q := 1) (i := 0) hC dX4_projects_0 rfl rfl rfl ?_
  refine g_getf (q := 4) (v := .ref (A 5 3)) hC kg_X4_19 dX4_projects_1 (hr.led hW) rfl rfl ?_
  refine g_ci (q := 7) (g_runV hC kv_X4_99 md_Jx4a65c_size_8abf5 (c_size _ hC.fl M _ (A 5 3) _ _ _ hr.l3) (ci := 6) rfl hr.l3 dX4_projects_4 (by decide) (by decide) (by omega) (by omega) rfl rfl (Nat.le_of_ble_eq_true rfl)) rfl (fun r σ ⟨e1, e2⟩ => ?_) (fun _ _ h9 => False.elim h9)
  subst e1 e2
  exact g_iret hC hR dX4_projects_7 (by omega) (by omega) (⟨_, rfl, lP_same hr rfl⟩)
def lo_find (ρ : gSt) : lRes := ("", oI (pop ρ (ρ.1 0 0)), ρ)
set_option maxRecDepth 100000 in
set_option maxHeartbeats 4000000 in
theorem c_L_findProject (l : Launch) (hfl : l.stackTraces = false) (M : gMT) (σ : gS) (A : gAd) (ρ : gSt) (W : gWt) (hr : Raw M σ A ρ W) (hW : RW ρ) : Con l M yX4_findProject (.code yX4_findProject cX4_findProject 2 (Option.some FieldType.int)) 12 0 0 [.ref (A 0 0)] σ (rI (lP M σ A (lo_find ρ))) (nX) := by
  refine g_con hfl (by decide) (lv := [(0, .ref (A 0 0))]) rfl rfl (Nat.le_of_ble_eq_true rfl) (fun X hX hC hR htb => ?_)
  have b2 := hW.2.1
  refine g_aload_n (q := 1) (i := 0) hC dX4_findProject_0 rfl rfl rfl ?_
  refine g_aload_n (q := 2) (i := 0) hC dX4_findProject_1 rfl rfl rfl ?_
  refine g_getf (q := 5) (v := .ref (A 5 6)) hC kg_X4_31 dX4_findProject_2 (hr.led hW) rfl rfl ?_
  refine g_ci (q := 8) (g_runV hC kv_X4_72 md_J4_length_8abf5 (c_sb_len _ hC.fl M _ (A 5 6) _ _ _ hr.sb) (ci := 7) rfl hr.sb dX4_findProject_5 (by decide) (by decide) (by omega) (by omega) rfl rfl (Nat.le_of_ble_eq_true rfl)) rfl (fun r σ ⟨e1, e2⟩ => ?_) (fun _ _ h9 => False.elim h9)
  subst e1 e2
  refine g_cq (q := 11) (g_runV hC kv_X4_91 md_X4_projectOfPath (c_L_projectOfPath _ hC.fl M _ A ρ W (ρ.1 0 0) hr hW (Nat.le_refl _)) (ci := 4) rfl (hr.led hW) dX4_findProject_8 (by decide) (by decide) (by omega) (by omega) rfl rfl (Nat.le_of_ble_eq_true rfl)) rfl (fun r σ ⟨e1, e2⟩ => ?_) (fun _ _ h9 => False.elim h9)
  subst e1 e2
  cases e9 : pop ρ (ρ.1 0 0) with
  | none =>
    refine g_astore_nQ (q := 12) (i := 1) (o := none) hC dX4_findProject_11 rfl (by decide) rfl ?_
    refine g_aload_nQ (q := 13) (i := 1) (o := none) hC dX4_findProject_12 rfl rfl rfl ?_
    refine g_ifnonnull (o := none) (tgt := 20) (q := 16) hC dX4_findProject_13 (by decide) rfl (fun a c_13 => ?_) (fun c_13 => ?_)
    · cases c_13
    · refine g_iconst (q := 17) (v := (-1)) hC dX4_findProject_16 rfl rfl ?_
      refine g_goto (tgt := 24) hC dX4_findProject_17 (by decide) ?_
      exact g_iret hC hR dX4_findProject_24 (by omega) (by omega) (⟨_, rfl, lP_same hr (by rw [lo_find, e9]; rfl)⟩)
  | some p =>
    have hp := pop_lt hW _ _ e9
    refine g_astore_nQ (q := 12) (i := 1) (o := (some (A 2 p))) hC dX4_findProject_11 rfl (by decide) rfl ?_
    refine g_aload_nQ (q := 13) (i := 1) (o := (some (A 2 p))) hC dX4_findProject_12 rfl rfl rfl ?_
    refine g_ifnonnull (o := some (A 2 p)) (tgt := 20) (q := 16) hC dX4_findProject_13 (by decide) rfl (fun a c_13 => ?_) (fun c_13 => ?_)
    · skip
      refine g_aload_n (q := 21) (i := 1) hC dX4_findProject_20 rfl rfl rfl ?_
      refine g_getf (q := 24) (v := .int (nI p)) hC kg_X4_108 dX4_findProject_21 (hr.prj (by omega)) rfl rfl ?_
      exact g_iret hC hR dX4_findProject_24 (by omega) (by omega) (⟨_, rfl, lP_same hr (by rw [lo_find, e9]; rfl)⟩)
    · cases c_13
def lo_pass (ρ : gSt) (h : Int32) : lRes := if h < 1 ∨ 1000 < h then (eA, 0, ρ) else if 100000 < ρ.2.1 0 0 + h then (eS, 0, ρ) else ("", ρ.2.1 0 0 + h, sI ρ 0 0 (ρ.2.1 0 0 + h))
set_option maxRecDepth 100000 in
set_option maxHeartbeats 4000000 in
theorem c_L_pass (l : Launch) (hfl : l.stackTraces = false) (M : gMT) (σ : gS) (A : gAd) (ρ : gSt) (W : gWt) (h : Int32) (hr : Raw M σ A ρ W) (hW : RW ρ) : Con l M yX4_pass (.code yX4_pass cX4_pass 2 (Option.some FieldType.int)) 12 1 6 [.ref (A 0 0), .int h] σ (rI (lP M σ A (lo_pass ρ h))) (lX σ (lo_pass ρ h)) := by
  refine g_con hfl (by decide) (lv := [(0, .ref (A 0 0)), (1, .int h)]) rfl rfl (Nat.le_of_ble_eq_true rfl) (fun X hX hC hR htb => ?_)
  have bad : (h < 1 ∨ 1000 < h) → G X M 2 (gQ X M 1 6 (rI (lP M σ A (lo_pass ρ h))) (lX σ (lo_pass ρ h))) 0 0 σ 12 [(0, .ref (A 0 0)), (1, .int h)] [] := by
    intro hb
    exact g_throwS hC hR htb (tA (is := 229) (text := "hours is out of range") (by decide +kernel)) dX4_pass_12 dX4_pass_15 dX4_pass_16 dX4_pass_18 dX4_pass_21 (by decide) (Nat.le_of_ble_eq_true rfl) (by omega) (by omega) (lX_of (by rw [lo_pass, if_pos hb]) eA_n)
  refine g_iload_n (q := 1) (i := 1) hC dX4_pass_0 rfl rfl rfl ?_
  refine g_iconst (q := 2) (v := (1)) hC dX4_pass_1 rfl rfl ?_
  refine g_icmp_lt (tgt := 12) (q := 5) hC dX4_pass_2 (by decide) rfl (fun c_2 => ?_) (fun c_2 => ?_)
  · exact bad (Or.inl c_2)
  · refine g_iload_n (q := 6) (i := 1) hC dX4_pass_5 rfl rfl rfl ?_
    refine g_sipush (q := 9) (v := (1000)) hC dX4_pass_6 rfl rfl ?_
    refine g_icmp_le (tgt := 22) (q := 12) hC dX4_pass_9 (by decide) rfl (fun c_9 => ?_) (fun c_9 => ?_)
    · have ok : ¬ (h < 1 ∨ 1000 < h) := fun z => z.elim c_2 (Int32.not_lt.mpr c_9)
      refine g_aload_n (q := 23) (i := 0) hC dX4_pass_22 rfl rfl rfl ?_
      refine g_getf (q := 26) (v := .int (ρ.2.1 0 0)) hC kg_X4_38 dX4_pass_23 (hr.led hW) rfl rfl ?_
      refine g_iload_n (q := 27) (i := 1) hC dX4_pass_26 rfl rfl rfl ?_
      refine g_iadd (q := 28) hC dX4_pass_27 rfl rfl ?_
      refine g_ldc (q := 30) hC kk_X4_210 dX4_pass_28 rfl ?_
      refine g_icmp_le (tgt := 43) (q := 33) hC dX4_pass_30 (by decide) rfl (fun c_30 => ?_) (fun c_30 => ?_)
      · have h2 : ¬ 100000 < ρ.2.1 0 0 + h := Int32.not_lt.mpr c_30
        have h5 := hr.pClk hW.1.1 (ρ.2.1 0 0 + h)
        have hW5 : RW (sI ρ 0 0 (ρ.2.1 0 0 + h)) := RW_1 rfl hW
        refine g_aload_n (q := 44) (i := 0) hC dX4_pass_43 rfl rfl rfl ?_
        refine g_dup (q := 45) hC dX4_pass_44 rfl rfl ?_
        refine g_getf (q := 48) (v := .int (ρ.2.1 0 0)) hC kg_X4_38 dX4_pass_45 (hr.led hW) rfl rfl ?_
        refine g_iload_n (q := 49) (i := 1) hC dX4_pass_48 rfl rfl rfl ?_
        refine g_iadd (q := 50) (v := (ρ.2.1 0 0 + h)) hC dX4_pass_49 rfl rfl ?_
        refine g_putf (q := 53) hC kf_X4_38 dX4_pass_50 (hr.led hW) (Nat.le_of_ble_eq_true rfl) rfl rfl rfl ?_
        refine g_aload_n (q := 54) (i := 0) hC dX4_pass_53 rfl rfl rfl ?_
        refine g_getf (q := 57) (v := .int ((sI ρ 0 0 (ρ.2.1 0 0 + h)).2.1 0 0)) hC kg_X4_38 dX4_pass_54 (h5.led hW5) rfl rfl ?_
        exact g_iret hC hR dX4_pass_57 (by omega) (by omega) (⟨_, rfl, by rw [lo_pass, if_neg ok, if_neg h2]; exact ⟨rfl, rfl, ⟨A, rfl, W, h5⟩, gFF.obj (hr.led hW) (by decide)⟩⟩)
      · exact g_throwS hC hR htb (tS (is := 231) (text := "the clock would be beyond its last hour") (by decide +kernel)) dX4_pass_33 dX4_pass_36 dX4_pass_37 dX4_pass_39 dX4_pass_42 (by decide) (Nat.le_of_ble_eq_true rfl) (by omega) (by omega) (lX_of (by rw [lo_pass, if_neg ok, if_pos (Int32.not_le.mp c_30)]) eS_n)
    · exact bad (Or.inr (Int32.not_le.mp c_9))
def lo_acc (ρ : gSt) (kd x : Int32) (g : Nat → Int32) : lRes := match acl ρ kd x with
  | none => (eI, 0, ρ)
  | some a => ("", g a, ρ)
theorem lo_acc_n {ρ : gSt} {kd x : Int32} {g : Nat → Int32} (h : acl ρ kd x = none) : lo_acc ρ kd x g = (eI, 0, ρ) := by rw [lo_acc, h]
theorem lo_acc_s {ρ : gSt} {kd x : Int32} {g : Nat → Int32} {a : Nat} (h : acl ρ kd x = some a) : lo_acc ρ kd x g = ("", g a, ρ) := by rw [lo_acc, h]
def lo_used (ρ : gSt) (kd x : Int32) : lRes := lo_acc ρ kd x (ρ.2.1 4)
set_option maxRecDepth 100000 in
set_option maxHeartbeats 4000000 in
theorem c_L_used (l : Launch) (hfl : l.stackTraces = false) (M : gMT) (σ : gS) (A : gAd) (ρ : gSt) (W : gWt) (kd x : Int32) (hr : Raw M σ A ρ W) (hW : RW ρ) : Con l M yX4_used (.code yX4_used cX4_used 3 (Option.some FieldType.int)) 12 1 6 [.ref (A 0 0), .int kd, .int x] σ (rI (lP M σ A (lo_used ρ kd x))) (lX σ (lo_used ρ kd x)) := by
  refine g_con hfl (by decide) (lv := [(0, .ref (A 0 0)), (1, .int kd), (2, .int x)]) rfl rfl (Nat.le_of_ble_eq_true rfl) (fun X hX hC hR htb => ?_)
  refine g_aload_n (q := 1) (i := 0) hC dX4_used_0 rfl rfl rfl ?_
  refine g_iload_n (q := 2) (i := 1) hC dX4_used_1 rfl rfl rfl ?_
  refine g_iload_n (q := 3) (i := 2) hC dX4_used_2 rfl rfl rfl ?_
  refine g_cr (q := 6) (g_runV hC kv_X4_146 md_X4_accountOf (c_L_accountOf _ hC.fl M _ A ρ W kd x hr hW) (ci := 4) rfl (hr.led hW) dX4_used_3 (by decide) (by decide) (by omega) (by omega) rfl rfl (Nat.le_of_ble_eq_true rfl)) rfl (fun r σ ⟨⟨a, ha, e1⟩, e2⟩ => ?_) (fun E σ2 h9 => by obtain ⟨⟨rfl, h8⟩, rfl⟩ := h9; exact g_out hR htb (by omega) (by omega) (lX_of (by rw [lo_used, lo_acc_n h8]) eI_n))
  subst e1 e2
  have ha9 := acl_lt hW ha
  refine g_getf (q := 9) (v := .int (ρ.2.1 4 a)) hC kg_X4_233 dX4_used_6 (hr.acc (by omega)) rfl rfl ?_
  exact g_iret hC hR dX4_used_9 (by omega) (by omega) (⟨_, rfl, lP_same hr (lo_acc_s ha)⟩)
def lo_filesOf (ρ : gSt) (kd x : Int32) : lRes := lo_acc ρ kd x (ρ.2.1 5)
set_option maxRecDepth 100000 in
set_option maxHeartbeats 4000000 in
theorem c_L_filesOf (l : Launch) (hfl : l.stackTraces = false) (M : gMT) (σ : gS) (A : gAd) (ρ : gSt) (W : gWt) (kd x : Int32) (hr : Raw M σ A ρ W) (hW : RW ρ) : Con l M yX4_filesOf (.code yX4_filesOf cX4_filesOf 3 (Option.some FieldType.int)) 12 1 6 [.ref (A 0 0), .int kd, .int x] σ (rI (lP M σ A (lo_filesOf ρ kd x))) (lX σ (lo_filesOf ρ kd x)) := by
  refine g_con hfl (by decide) (lv := [(0, .ref (A 0 0)), (1, .int kd), (2, .int x)]) rfl rfl (Nat.le_of_ble_eq_true rfl) (fun X hX hC hR htb => ?_)
  refine g_aload_n (q := 1) (i := 0) hC dX4_filesOf_0 rfl rfl rfl ?_
  refine g_iload_n (q := 2) (i := 1) hC dX4_filesOf_1 rfl rfl rfl ?_
  refine g_iload_n (q := 3) (i := 2) hC dX4_filesOf_2 rfl rfl rfl ?_
  refine g_cr (q := 6) (g_runV hC kv_X4_146 md_X4_accountOf (c_L_accountOf _ hC.fl M _ A ρ W kd x hr hW) (ci := 4) rfl (hr.led hW) dX4_filesOf_3 (by decide) (by decide) (by omega) (by omega) rfl rfl (Nat.le_of_ble_eq_true rfl)) rfl (fun r σ ⟨⟨a, ha, e1⟩, e2⟩ => ?_) (fun E σ2 h9 => by obtain ⟨⟨rfl, h8⟩, rfl⟩ := h9; exact g_out hR htb (by omega) (by omega) (lX_of (by rw [lo_filesOf, lo_acc_n h8]) eI_n))
  subst e1 e2
  have ha9 := acl_lt hW ha
  refine g_getf (q := 9) (v := .int (ρ.2.1 5 a)) hC kg_X4_236 dX4_filesOf_6 (hr.acc (by omega)) rfl rfl ?_
  exact g_iret hC hR dX4_filesOf_9 (by omega) (by omega) (⟨_, rfl, lP_same hr (lo_acc_s ha)⟩)
def lo_grace (ρ : gSt) (kd x : Int32) : lRes := lo_acc ρ kd x (fun a => fGrace (ρ.2.1 7 a) (ρ.2.1 8 a) (ρ.2.1 0 0))
set_option maxRecDepth 100000 in
set_option maxHeartbeats 4000000 in
theorem c_L_grace (l : Launch) (hfl : l.stackTraces = false) (M : gMT) (σ : gS) (A : gAd) (ρ : gSt) (W : gWt) (kd x : Int32) (hr : Raw M σ A ρ W) (hW : RW ρ) : Con l M yX4_grace (.code yX4_grace cX4_grace 3 (Option.some FieldType.int)) 12 1 6 [.ref (A 0 0), .int kd, .int x] σ (rI (lP M σ A (lo_grace ρ kd x))) (lX σ (lo_grace ρ kd x)) := by
  refine g_con hfl (by decide) (lv := [(0, .ref (A 0 0)), (1, .int kd), (2, .int x)]) rfl rfl (Nat.le_of_ble_eq_true rfl) (fun X hX hC hR htb => ?_)
  refine g_aload_n (q := 1) (i := 0) hC dX4_grace_0 rfl rfl rfl ?_
  refine g_iload_n (q := 2) (i := 1) hC dX4_grace_1 rfl rfl rfl ?_
  refine g_iload_n (q := 3) (i := 2) hC dX4_grace_2 rfl rfl rfl ?_
  refine g_cr (q := 6) (g_runV hC kv_X4_146 md_X4_accountOf (c_L_accountOf _ hC.fl M _ A ρ W kd x hr hW) (ci := 4) rfl (hr.led hW) dX4_grace_3 (by decide) (by decide) (by omega) (by omega) rfl rfl (Nat.le_of_ble_eq_true rfl)) rfl (fun r σ ⟨⟨a, ha, e1⟩, e2⟩ => ?_) (fun E σ2 h9 => by obtain ⟨⟨rfl, h8⟩, rfl⟩ := h9; exact g_out hR htb (by omega) (by omega) (lX_of (by rw [lo_grace, lo_acc_n h8]) eI_n))
  subst e1 e2
  have ha9 := acl_lt hW ha
  refine g_aload_n (q := 7) (i := 0) hC dX4_grace_6 rfl rfl rfl ?_
  refine g_getf (q := 10) (v := .int (ρ.2.1 0 0)) hC kg_X4_38 dX4_grace_7 (hr.led hW) rfl rfl ?_
  refine g_ci (q := 13) (g_runV hC kv_X4_243 md_X0_graceLeft (c_X0_graceLeft _ hC.fl M _ (A 1 a) _ _ _ _ _ _ _ _ _ (hr.acc ha9)) (ci := 0) rfl (hr.acc ha9) dX4_grace_10 (by decide) (by decide) (by omega) (by omega) rfl rfl (Nat.le_of_ble_eq_true rfl)) rfl (fun r σ ⟨e1, e2⟩ => ?_) (fun _ _ h9 => False.elim h9)
  subst e1 e2
  exact g_iret hC hR dX4_grace_13 (by omega) (by omega) (⟨_, rfl, lP_same hr (lo_acc_s ha)⟩)
def lo_counted (ρ : gSt) (kd x : Int32) : lRes := if acl ρ kd x = none then (eI, 0, ρ) else if ρ.2.2 0 5 = false then (eS, 0, ρ) else lo_acc ρ kd x (ρ.2.1 6)
set_option maxRecDepth 100000 in
set_option maxHeartbeats 4000000 in
theorem c_L_counted (l : Launch) (hfl : l.stackTraces = false) (M : gMT) (σ : gS) (A : gAd) (ρ : gSt) (W : gWt) (kd x : Int32) (hr : Raw M σ A ρ W) (hW : RW ρ) : Con l M yX4_counted (.code yX4_counted cX4_counted 4 (Option.some FieldType.int)) 12 2 12 [.ref (A 0 0), .int kd, .int x] σ (rI (lP M σ A (lo_counted ρ kd x))) (lX σ (lo_counted ρ kd x)) := by
  refine g_con hfl (by decide) (lv := [(0, .ref (A 0 0)), (1, .int kd), (2, .int x)]) rfl rfl (Nat.le_of_ble_eq_true rfl) (fun X hX hC hR htb => ?_)
  refine g_aload_n (q := 1) (i := 0) hC dX4_counted_0 rfl rfl rfl ?_
  refine g_iload_n (q := 2) (i := 1) hC dX4_counted_1 rfl rfl rfl ?_
  refine g_iload_n (q := 3) (i := 2) hC dX4_counted_2 rfl rfl rfl ?_
  refine g_cr (q := 6) (g_runV hC kv_X4_146 md_X4_accountOf (c_L_accountOf _ hC.fl M _ A ρ W kd x hr hW) (ci := 4) rfl (hr.led hW) dX4_counted_3 (by decide) (by decide) (by omega) (by omega) rfl rfl (Nat.le_of_ble_eq_true rfl)) rfl (fun r σ ⟨⟨a, ha, e1⟩, e2⟩ => ?_) (fun E σ2 h9 => by obtain ⟨⟨rfl, h8⟩, rfl⟩ := h9; exact g_out hR htb (by omega) (by omega) (lX_of (by rw [lo_counted, if_pos h8]) eI_n))
  subst e1 e2
  have ha9 := acl_lt hW ha
  have hne : ¬ acl ρ kd x = none := fun z => by rw [ha] at z; cases z
  refine g_astore_n (q := 7) (i := 3) hC dX4_counted_6 rfl (by decide) rfl ?_
  refine g_aload_n (q := 8) (i := 0) hC dX4_counted_7 rfl rfl rfl ?_
  refine g_getf (q := 11) (v := .int (bI (ρ.2.2 0 5))) hC kg_X4_42 dX4_counted_8 (hr.led hW) rfl rfl ?_
  refine g_if_ne (tgt := 25) (q := 14) hC dX4_counted_11 (by decide) rfl (fun c_11 => ?_) (fun c_11 => ?_)
  · have hb := bI_n.mp c_11
    refine g_aload_n (q := 26) (i := 3) hC dX4_counted_25 rfl rfl rfl ?_
    refine g_getf (q := 29) (v := .int (ρ.2.1 6 a)) hC kg_X4_253 dX4_counted_26 (hr.acc (by omega)) rfl rfl ?_
    exact g_iret hC hR dX4_counted_29 (by omega) (by omega) (⟨_, rfl, lP_same hr (by rw [lo_counted, if_neg hne, if_neg (by rw [hb]; decide)]; exact lo_acc_s ha)⟩)
  · have hb := bI_0.mp c_11
    exact g_throwSW hC hR htb (tS (is := 262) (text := "no recount was begun") (by decide +kernel)) dX4_counted_14 dX4_counted_17 dX4_counted_18 dX4_counted_21 dX4_counted_24 (by decide) (Nat.le_of_ble_eq_true rfl) (by omega) (by omega) (lX_of (by rw [lo_counted, if_neg hne, if_pos hb]) eS_n)
