/-! ===== the ledger: looking up (3) ===== -/
def acl (ρ : gSt) (kd x : Int32) : Option Nat :=
  if kd = 0 ∧ inR x 6 = true then some x.toNatClampNeg
  else if kd = 1 ∧ inR x 3 = true then some (6 + x.toNatClampNeg)
  else if kd = 2 ∧ inR x (ρ.1 10 3) = true then some (9 + x.toNatClampNeg) else none
theorem acl_lt {ρ : gSt} (hW : RW ρ) {kd x : Int32} {a : Nat} (h : acl ρ kd x = some a) : a < ρ.1 11 1 := by
  obtain ⟨⟨w1, w2, w3, w4⟩, w5, -⟩ := hW
  unfold acl at h
  split at h
  · obtain ⟨p, h1, -, h3⟩ := inR_nI (by omega) (by assumption : _ ∧ inR x 6 = true).2
    cases h
    omega
  · split at h
    · obtain ⟨p, h1, -, h3⟩ := inR_nI (by omega) (by assumption : _ ∧ inR x 3 = true).2
      cases h
      omega
    · split at h
      · obtain ⟨p, h1, -, h3⟩ := inR_nI (by omega) (by assumption : _ ∧ inR x (ρ.1 10 3) = true).2
        cases h
        omega
      · cases h
def aclP (σ : gS) (A : gAd) (ρ : gSt) (kd x : Int32) : Nat → gS → Prop := fun r σ2 => (∃ a, acl ρ kd x = some a ∧ r = A 1 a) ∧ σ2 = σ
def aclX (σ : gS) (ρ : gSt) (kd x : Int32) : String → gS → Prop := fun E σ2 => (E = eI ∧ acl ρ kd x = none) ∧ σ2 = σ
set_option maxRecDepth 100000 in
set_option maxHeartbeats 4000000 in
theorem c_L_accountOf (l : Launch) (hfl : l.stackTraces = false) (M : gMT) (σ : gS) (A : gAd) (ρ : gSt) (W : gWt) (kd x : Int32) (hr : Raw M σ A ρ W) (hW : RW ρ) : Con l M yX4_accountOf (.code yX4_accountOf cX4_accountOf 3 (Option.some (FieldType.object "AllotmentLedger$Account"))) 6 1 6 [.ref (A 0 0), .int kd, .int x] σ (rR (aclP σ A ρ kd x)) (aclX σ ρ kd x) := by
  refine g_con hfl (by decide) (lv := [(0, .ref (A 0 0)), (1, .int kd), (2, .int x)]) rfl rfl (Nat.le_of_ble_eq_true rfl) (fun X hX hC hR htb => ?_)
  have hW0 := hW
  obtain ⟨⟨w1, w2, w3, w4⟩, w5, -⟩ := hW0
  have st4 : acl ρ kd x = none → G X M 3 (gQ X M 1 6 (rR (aclP σ A ρ kd x)) (aclX σ ρ kd x)) 0 0 σ 98 [(0, .ref (A 0 0)), (1, .int kd), (2, .int x)] [] := by
    intro h
    exact g_throwSW hC hR htb (tI (is := 276) (text := "no such account") (by decide +kernel)) dX4_accountOf_98 dX4_accountOf_101 dX4_accountOf_102 dX4_accountOf_105 dX4_accountOf_108 (by decide) (Nat.le_of_ble_eq_true rfl) (by omega) (by omega) (⟨⟨rfl, h⟩, rfl⟩)
  have st3 : ¬ (kd = 0 ∧ inR x 6 = true) → ¬ (kd = 1 ∧ inR x 3 = true) → G X M 3 (gQ X M 1 6 (rR (aclP σ A ρ kd x)) (aclX σ ρ kd x)) 0 0 σ 63 [(0, .ref (A 0 0)), (1, .int kd), (2, .int x)] [] := by
    intro n1 n2
    have e0 : acl ρ kd x = (if kd = 2 ∧ inR x (ρ.1 10 3) = true then some (9 + x.toNatClampNeg) else none) := by
      rw [acl, if_neg n1, if_neg n2]
    refine g_iload_n (q := 64) (i := 1) hC dX4_accountOf_63 rfl rfl rfl ?_
    refine g_iconst (q := 65) (v := (2)) hC dX4_accountOf_64 rfl rfl ?_
    refine g_icmp_ne (tgt := 98) (q := 68) hC dX4_accountOf_65 (by decide) rfl (fun c_65 => ?_) (fun c_65 => ?_)
    · exact st4 (by rw [e0, if_neg (fun z => c_65 z.1)])
    · refine g_iload_n (q := 69) (i := 2) hC dX4_accountOf_68 rfl rfl rfl ?_
      refine g_if_lt (tgt := 98) (q := 72) hC dX4_accountOf_69 (by decide) rfl (fun c_69 => ?_) (fun c_69 => ?_)
      · exact st4 (by rw [e0, if_neg (fun z => by rw [inR_f1 c_69] at z; cases z.2)])
      · refine g_iload_n (q := 73) (i := 2) hC dX4_accountOf_72 rfl rfl rfl ?_
        refine g_aload_n (q := 74) (i := 0) hC dX4_accountOf_73 rfl rfl rfl ?_
        refine g_getf (q := 77) (v := .ref (A 5 3)) hC kg_X4_19 dX4_accountOf_74 (hr.led hW) rfl rfl ?_
        refine g_ci (q := 80) (g_runV hC kv_X4_99 md_Jx4a65c_size_8abf5 (c_size _ hC.fl M _ (A 5 3) _ _ _ hr.l3) (ci := 6) rfl hr.l3 dX4_accountOf_77 (by decide) (by decide) (by omega) (by omega) rfl rfl (Nat.le_of_ble_eq_true rfl)) rfl (fun r σ ⟨e1, e2⟩ => ?_) (fun _ _ h9 => False.elim h9)
        subst e1 e2
        refine g_icmp_ge (tgt := 98) (q := 83) hC dX4_accountOf_80 (by decide) rfl (fun c_80 => ?_) (fun c_80 => ?_)
        · exact st4 (by rw [e0, if_neg (fun z => by rw [inR_f2 c_80] at z; cases z.2)])
        · have h8 := inR_t c_69 (Int32.not_le.mp c_80)
          obtain ⟨p, hp, ex, ec⟩ := inR_nI (by omega) h8
          have e1 : acl ρ kd x = some (9 + p) := by rw [e0, if_pos ⟨c_65, h8⟩, ec]
          subst ex
          refine g_aload_n (q := 84) (i := 0) hC dX4_accountOf_83 rfl rfl rfl ?_
          refine g_getf (q := 87) (v := .ref (A 5 3)) hC kg_X4_19 dX4_accountOf_84 (hr.led hW) rfl rfl ?_
          refine g_iload_n (q := 88) (i := 2) hC dX4_accountOf_87 rfl rfl rfl ?_
          refine g_cr (q := 91) (g_runV hC kv_X4_186 md_Jx4a65c_get_915e3 (c_gt3 _ hC.fl hr p hp) (ci := 6) rfl hr.l3 dX4_accountOf_88 (by decide) (by decide) (by omega) (by omega) rfl rfl (Nat.le_of_ble_eq_true rfl)) rfl (fun r σ ⟨e3, e2⟩ => ?_) (fun _ _ h9 => False.elim h9)
          subst e3 e2
          refine g_ccast (q := 94) (ci := 1) hC kc_X4_56 dX4_accountOf_91 rfl (hr.prj (by omega)) rfl ?_
          refine g_getf (q := 97) (v := .ref (A 1 (9 + p))) hC kg_X4_256 dX4_accountOf_94 (hr.prj (by omega)) rfl rfl ?_
          exact g_aret (o := some (A 1 (9 + p))) hC hR (Or.inl ⟨_, rfl⟩) dX4_accountOf_97 (by omega) (by omega) (⟨_, rfl, ⟨_, e1, rfl⟩, rfl⟩)
  have st2 : ¬ (kd = 0 ∧ inR x 6 = true) → G X M 3 (gQ X M 1 6 (rR (aclP σ A ρ kd x)) (aclX σ ρ kd x)) 0 0 σ 31 [(0, .ref (A 0 0)), (1, .int kd), (2, .int x)] [] := by
    intro n1
    refine g_iload_n (q := 32) (i := 1) hC dX4_accountOf_31 rfl rfl rfl ?_
    refine g_iconst (q := 33) (v := (1)) hC dX4_accountOf_32 rfl rfl ?_
    refine g_icmp_ne (tgt := 63) (q := 36) hC dX4_accountOf_33 (by decide) rfl (fun c_33 => ?_) (fun c_33 => ?_)
    · exact st3 n1 (fun z => c_33 z.1)
    · refine g_iload_n (q := 37) (i := 2) hC dX4_accountOf_36 rfl rfl rfl ?_
      refine g_if_lt (tgt := 63) (q := 40) hC dX4_accountOf_37 (by decide) rfl (fun c_37 => ?_) (fun c_37 => ?_)
      · exact st3 n1 (fun z => by rw [inR_f1 c_37] at z; cases z.2)
      · refine g_iload_n (q := 41) (i := 2) hC dX4_accountOf_40 rfl rfl rfl ?_
        refine g_aload_n (q := 42) (i := 0) hC dX4_accountOf_41 rfl rfl rfl ?_
        refine g_getf (q := 45) (v := .ref (A 5 2)) hC kg_X4_16 dX4_accountOf_42 (hr.led hW) rfl rfl ?_
        refine g_ci (q := 48) (g_runV hC kv_X4_99 md_Jx4a65c_size_8abf5 (c_size _ hC.fl M _ (A 5 2) _ _ _ hr.l2) (ci := 6) rfl hr.l2 dX4_accountOf_45 (by decide) (by decide) (by omega) (by omega) rfl rfl (Nat.le_of_ble_eq_true rfl)) rfl (fun r σ ⟨e1, e2⟩ => ?_) (fun _ _ h9 => False.elim h9)
        subst e1 e2
        rw [w4]
        refine g_icmp_ge (tgt := 63) (q := 51) hC dX4_accountOf_48 (by decide) rfl (fun c_48 => ?_) (fun c_48 => ?_)
        · exact st3 n1 (fun z => by rw [inR_f2 c_48] at z; cases z.2)
        · have h8 := inR_t c_37 (Int32.not_le.mp c_48)
          obtain ⟨p, hp, ex, ec⟩ := inR_nI (by omega) h8
          have e1 : acl ρ kd x = some (6 + p) := by rw [acl, if_neg n1, if_pos ⟨c_33, h8⟩, ec]
          subst ex
          refine g_aload_n (q := 52) (i := 0) hC dX4_accountOf_51 rfl rfl rfl ?_
          refine g_getf (q := 55) (v := .ref (A 5 2)) hC kg_X4_16 dX4_accountOf_52 (hr.led hW) rfl rfl ?_
          refine g_iload_n (q := 56) (i := 2) hC dX4_accountOf_55 rfl rfl rfl ?_
          refine g_cr (q := 59) (g_runV hC kv_X4_186 md_Jx4a65c_get_915e3 (c_gt2 _ hC.fl hr p (by omega)) (ci := 6) rfl hr.l2 dX4_accountOf_56 (by decide) (by decide) (by omega) (by omega) rfl rfl (Nat.le_of_ble_eq_true rfl)) rfl (fun r σ ⟨e3, e2⟩ => ?_) (fun _ _ h9 => False.elim h9)
          subst e3 e2
          refine g_ccast (q := 62) (ci := 0) hC kc_X4_49 dX4_accountOf_59 rfl (hr.acc (by omega)) rfl ?_
          exact g_aret (o := some (A 1 (6 + p))) hC hR (Or.inl ⟨_, rfl⟩) dX4_accountOf_62 (by omega) (by omega) (⟨_, rfl, ⟨_, e1, rfl⟩, rfl⟩)
  refine g_iload_n (q := 1) (i := 1) hC dX4_accountOf_0 rfl rfl rfl ?_
  refine g_if_ne (tgt := 31) (q := 4) hC dX4_accountOf_1 (by decide) rfl (fun c_1 => ?_) (fun c_1 => ?_)
  · exact st2 (fun z => c_1 z.1)
  · refine g_iload_n (q := 5) (i := 2) hC dX4_accountOf_4 rfl rfl rfl ?_
    refine g_if_lt (tgt := 31) (q := 8) hC dX4_accountOf_5 (by decide) rfl (fun c_5 => ?_) (fun c_5 => ?_)
    · exact st2 (fun z => by rw [inR_f1 c_5] at z; cases z.2)
    · refine g_iload_n (q := 9) (i := 2) hC dX4_accountOf_8 rfl rfl rfl ?_
      refine g_aload_n (q := 10) (i := 0) hC dX4_accountOf_9 rfl rfl rfl ?_
      refine g_getf (q := 13) (v := .ref (A 5 1)) hC kg_X4_10 dX4_accountOf_10 (hr.led hW) rfl rfl ?_
      refine g_ci (q := 16) (g_runV hC kv_X4_99 md_Jx4a65c_size_8abf5 (c_size _ hC.fl M _ (A 5 1) _ _ _ hr.l1) (ci := 6) rfl hr.l1 dX4_accountOf_13 (by decide) (by decide) (by omega) (by omega) rfl rfl (Nat.le_of_ble_eq_true rfl)) rfl (fun r σ ⟨e1, e2⟩ => ?_) (fun _ _ h9 => False.elim h9)
      subst e1 e2
      rw [w3]
      refine g_icmp_ge (tgt := 31) (q := 19) hC dX4_accountOf_16 (by decide) rfl (fun c_16 => ?_) (fun c_16 => ?_)
      · exact st2 (fun z => by rw [inR_f2 c_16] at z; cases z.2)
      · have h8 := inR_t c_5 (Int32.not_le.mp c_16)
        obtain ⟨p, hp, ex, ec⟩ := inR_nI (by omega) h8
        have e1 : acl ρ kd x = some p := by rw [acl, if_pos ⟨c_1, h8⟩, ec]
        subst ex
        refine g_aload_n (q := 20) (i := 0) hC dX4_accountOf_19 rfl rfl rfl ?_
        refine g_getf (q := 23) (v := .ref (A 5 1)) hC kg_X4_10 dX4_accountOf_20 (hr.led hW) rfl rfl ?_
        refine g_iload_n (q := 24) (i := 2) hC dX4_accountOf_23 rfl rfl rfl ?_
        refine g_cr (q := 27) (g_runV hC kv_X4_186 md_Jx4a65c_get_915e3 (c_gt1 _ hC.fl hr p (by omega)) (ci := 6) rfl hr.l1 dX4_accountOf_24 (by decide) (by decide) (by omega) (by omega) rfl rfl (Nat.le_of_ble_eq_true rfl)) rfl (fun r σ ⟨e3, e2⟩ => ?_) (fun _ _ h9 => False.elim h9)
        subst e3 e2
        refine g_ccast (q := 30) (ci := 0) hC kc_X4_49 dX4_accountOf_27 rfl (hr.acc (by omega)) rfl ?_
        exact g_aret (o := some (A 1 p)) hC hR (Or.inl ⟨_, rfl⟩) dX4_accountOf_30 (by omega) (by omega) (⟨_, rfl, ⟨_, e1, rfl⟩, rfl⟩)
def lvf (ρ : gSt) (x : Int32) : Bool := inR x (ρ.1 10 4) && !ρ.2.2 8 x.toNatClampNeg
theorem lvf_nI {ρ : gSt} (hW : RW ρ) {x : Int32} (h : lvf ρ x = true) : ∃ f, f < ρ.1 10 4 ∧ x = nI f ∧ x.toNatClampNeg = f ∧ ρ.2.2 8 f = false := by
  have b3 := hW.2.2.1
  obtain ⟨h1, h2⟩ := Bool.and_eq_true_iff.mp h
  obtain ⟨p, hp, ex, ec⟩ := inR_nI (by omega) h1
  refine ⟨p, hp, ex, ec, ?_⟩
  rw [ec] at h2
  simpa using h2
set_option maxRecDepth 100000 in
set_option maxHeartbeats 4000000 in
theorem c_L_liveFile (l : Launch) (hfl : l.stackTraces = false) (M : gMT) (σ : gS) (A : gAd) (ρ : gSt) (W : gWt) (x : Int32) (hr : Raw M σ A ρ W) (hW : RW ρ) : Con l M yX4_liveFile (.code yX4_liveFile cX4_liveFile 2 (Option.some (FieldType.object "AllotmentLedger$StoredFile"))) 6 1 6 [.ref (A 0 0), .int x] σ (rR fun r σ2 => (lvf ρ x = true ∧ r = A 3 x.toNatClampNeg) ∧ σ2 = σ) (fun E σ2 => (E = eI ∧ lvf ρ x = false) ∧ σ2 = σ) := by
  refine g_con hfl (by decide) (lv := [(0, .ref (A 0 0)), (1, .int x)]) rfl rfl (Nat.le_of_ble_eq_true rfl) (fun X hX hC hR htb => ?_)
  have b3 := hW.2.2.1
  have bad : lvf ρ x = false → G X M 2 (gQ X M 1 6 (rR fun r σ2 => (lvf ρ x = true ∧ r = A 3 x.toNatClampNeg) ∧ σ2 = σ) (fun E σ2 => (E = eI ∧ lvf ρ x = false) ∧ σ2 = σ)) 0 0 σ 32 [(0, .ref (A 0 0)), (1, .int x)] [] := by
    intro h
    exact g_throwSW hC hR htb (tI (is := 274) (text := "no such file") (by decide +kernel)) dX4_liveFile_32 dX4_liveFile_35 dX4_liveFile_36 dX4_liveFile_39 dX4_liveFile_42 (by decide) (Nat.le_of_ble_eq_true rfl) (by omega) (by omega) (⟨⟨rfl, h⟩, rfl⟩)
  refine g_iload_n (q := 1) (i := 1) hC dX4_liveFile_0 rfl rfl rfl ?_
  refine g_if_lt (tgt := 32) (q := 4) hC dX4_liveFile_1 (by decide) rfl (fun c_1 => ?_) (fun c_1 => ?_)
  · exact bad (by rw [lvf, inR_f1 c_1]; rfl)
  · refine g_iload_n (q := 5) (i := 1) hC dX4_liveFile_4 rfl rfl rfl ?_
    refine g_aload_n (q := 6) (i := 0) hC dX4_liveFile_5 rfl rfl rfl ?_
    refine g_getf (q := 9) (v := .ref (A 5 4)) hC kg_X4_22 dX4_liveFile_6 (hr.led hW) rfl rfl ?_
    refine g_ci (q := 12) (g_runV hC kv_X4_99 md_Jx4a65c_size_8abf5 (c_size _ hC.fl M _ (A 5 4) _ _ _ hr.l4) (ci := 6) rfl hr.l4 dX4_liveFile_9 (by decide) (by decide) (by omega) (by omega) rfl rfl (Nat.le_of_ble_eq_true rfl)) rfl (fun r σ ⟨e1, e2⟩ => ?_) (fun _ _ h9 => False.elim h9)
    subst e1 e2
    refine g_icmp_ge (tgt := 32) (q := 15) hC dX4_liveFile_12 (by decide) rfl (fun c_12 => ?_) (fun c_12 => ?_)
    · exact bad (by rw [lvf, inR_f2 c_12]; rfl)
    · have h8 := inR_t c_1 (Int32.not_le.mp c_12)
      obtain ⟨f, hf, ex, ec⟩ := inR_nI (by omega) h8
      subst ex
      refine g_aload_n (q := 16) (i := 0) hC dX4_liveFile_15 rfl rfl rfl ?_
      refine g_getf (q := 19) (v := .ref (A 5 4)) hC kg_X4_22 dX4_liveFile_16 (hr.led hW) rfl rfl ?_
      refine g_iload_n (q := 20) (i := 1) hC dX4_liveFile_19 rfl rfl rfl ?_
      refine g_cr (q := 23) (g_runV hC kv_X4_186 md_Jx4a65c_get_915e3 (c_gt4 _ hC.fl hr f hf) (ci := 6) rfl hr.l4 dX4_liveFile_20 (by decide) (by decide) (by omega) (by omega) rfl rfl (Nat.le_of_ble_eq_true rfl)) rfl (fun r σ ⟨e1, e2⟩ => ?_) (fun _ _ h9 => False.elim h9)
      subst e1 e2
      refine g_ccast (q := 26) (ci := 3) hC kc_X4_152 dX4_liveFile_23 rfl (hr.fil (by omega)) rfl ?_
      refine g_getf (q := 29) (v := .int (bI (ρ.2.2 8 f))) hC kg_X4_183 dX4_liveFile_26 (hr.fil (by omega)) rfl rfl ?_
      refine g_if_eq (tgt := 43) (q := 32) hC dX4_liveFile_29 (by decide) rfl (fun c_29 => ?_) (fun c_29 => ?_)
      · have h9 : lvf ρ (nI f) = true := by rw [lvf, h8, ec, bI_0.mp c_29]; rfl
        refine g_aload_n (q := 44) (i := 0) hC dX4_liveFile_43 rfl rfl rfl ?_
        refine g_getf (q := 47) (v := .ref (A 5 4)) hC kg_X4_22 dX4_liveFile_44 (hr.led hW) rfl rfl ?_
        refine g_iload_n (q := 48) (i := 1) hC dX4_liveFile_47 rfl rfl rfl ?_
        refine g_cr (q := 51) (g_runV hC kv_X4_186 md_Jx4a65c_get_915e3 (c_gt4 _ hC.fl hr f hf) (ci := 6) rfl hr.l4 dX4_liveFile_48 (by decide) (by decide) (by omega) (by omega) rfl rfl (Nat.le_of_ble_eq_true rfl)) rfl (fun r σ ⟨e1, e2⟩ => ?_) (fun _ _ h9 => False.elim h9)
        subst e1 e2
        refine g_ccast (q := 54) (ci := 3) hC kc_X4_152 dX4_liveFile_51 rfl (hr.fil (by omega)) rfl ?_
        exact g_aret (o := some (A 3 f)) hC hR (Or.inl ⟨_, rfl⟩) dX4_liveFile_54 (by omega) (by omega) (⟨_, rfl, ⟨h9, by rw [ec]⟩, rfl⟩)
      · exact bad (by rw [lvf, ec, bI_n.mp c_29]; simp)
def bub (ρ : gSt) (f : Nat) : Nat → Int32
  | 0 => ρ.2.1 9 f
  | i + 1 => bub ρ f i + (if ρ.2.2 11 i = true ∧ ρ.1 7 i = f then ρ.2.1 10 i else 0)
set_option maxRecDepth 100000 in
set_option maxHeartbeats 4000000 in
theorem c_L_blocksUsedBy (l : Launch) (hfl : l.stackTraces = false) (M : gMT) (σ : gS) (A : gAd) (ρ : gSt) (W : gWt) (f : Nat) (hr : Raw M σ A ρ W) (hW : RW ρ) (hf : f < ρ.1 11 3) : Con l M yX4_blocksUsedBy (.code yX4_blocksUsedBy cX4_blocksUsedBy 5 (Option.some FieldType.int)) 4 0 0 [.ref (A 0 0), .ref (A 3 f)] σ (rI (pI σ (bub ρ f (ρ.1 10 5)))) (nX) := by
  refine g_con hfl (by decide) (lv := [(0, .ref (A 0 0)), (1, .ref (A 3 f))]) rfl rfl (Nat.le_of_ble_eq_true rfl) (fun X hX hC hR htb => ?_)
  have b4 := hW.2.2.2.1
  have b9 := hW.2.2.2.2.2.2.2.2
  have loop : ∀ (d9 i : Nat), i + d9 = ρ.1 10 5 → G X M 5 (gQ X M 0 0 (rI (pI σ (bub ρ f (ρ.1 10 5)))) nX) 0 0 σ 7 [(3, .int (nI i)), (2, .int (bub ρ f i)), (0, .ref (A 0 0)), (1, .ref (A 3 f))] [] := by
    intro d9
    induction d9 with
    | zero =>
      intro i h1
      refine g_iload_n (q := 8) (i := 3) hC dX4_blocksUsedBy_7 rfl rfl rfl ?_
      refine g_aload_n (q := 9) (i := 0) hC dX4_blocksUsedBy_8 rfl rfl rfl ?_
      refine g_getf (q := 12) (v := .ref (A 5 5)) hC kg_X4_25 dX4_blocksUsedBy_9 (hr.led hW) rfl rfl ?_
      refine g_ci (q := 15) (g_runV hC kv_X4_99 md_Jx4a65c_size_8abf5 (c_size _ hC.fl M _ (A 5 5) _ _ _ hr.l5) (ci := 6) rfl hr.l5 dX4_blocksUsedBy_12 (by decide) (by decide) (by omega) (by omega) rfl rfl (Nat.le_of_ble_eq_true rfl)) rfl (fun r σ ⟨e1, e2⟩ => ?_) (fun _ _ h9 => False.elim h9)
      subst e1 e2
      refine g_icmp_ge (tgt := 62) (q := 18) hC dX4_blocksUsedBy_15 (by decide) rfl (fun c_15 => ?_) (fun c_15 => ?_)
      · refine g_iload_n (q := 63) (i := 2) hC dX4_blocksUsedBy_62 rfl rfl rfl ?_
        exact g_iret hC hR dX4_blocksUsedBy_63 (by omega) (by omega) (⟨_, rfl, by rw [show i = ρ.1 10 5 by omega], rfl⟩)
      · exact absurd (nI_le (by omega) (by omega)) c_15
    | succ d9 ih =>
      intro i h1
      have hri := b9 i (by omega)
      have e0 : bub ρ f (i + 1) = bub ρ f i + (if ρ.2.2 11 i = true ∧ ρ.1 7 i = f then ρ.2.1 10 i else 0) := rfl
      have next : ∀ v : Int32, v = bub ρ f (i + 1) → G X M 5 (gQ X M 0 0 (rI (pI σ (bub ρ f (ρ.1 10 5)))) nX) 0 0 σ 56 [(3, .int (nI i)), (2, .int v), (0, .ref (A 0 0)), (1, .ref (A 3 f))] [] := by
        intro v hv
        refine g_iinc (q := 59) (i := 3) (v := (nI (i + 1))) hC dX4_blocksUsedBy_56 rfl (nI_1 _) rfl ?_
        refine g_goto (tgt := 7) hC dX4_blocksUsedBy_59 (by decide) ?_
        rw [hv]
        refine g_sub (lv0 := [(3, .int (nI (i + 1))), (2, .int (bub ρ f (i + 1))), (0, .ref (A 0 0)), (1, .ref (A 3 f))]) ⟨rfl, rfl, rfl, rfl, trivial⟩ ?_
        exact ih (i + 1) (by omega)
      refine g_iload_n (q := 8) (i := 3) hC dX4_blocksUsedBy_7 rfl rfl rfl ?_
      refine g_aload_n (q := 9) (i := 0) hC dX4_blocksUsedBy_8 rfl rfl rfl ?_
      refine g_getf (q := 12) (v := .ref (A 5 5)) hC kg_X4_25 dX4_blocksUsedBy_9 (hr.led hW) rfl rfl ?_
      refine g_ci (q := 15) (g_runV hC kv_X4_99 md_Jx4a65c_size_8abf5 (c_size _ hC.fl M _ (A 5 5) _ _ _ hr.l5) (ci := 6) rfl hr.l5 dX4_blocksUsedBy_12 (by decide) (by decide) (by omega) (by omega) rfl rfl (Nat.le_of_ble_eq_true rfl)) rfl (fun r σ ⟨e1, e2⟩ => ?_) (fun _ _ h9 => False.elim h9)
      subst e1 e2
      refine g_icmp_ge (tgt := 62) (q := 18) hC dX4_blocksUsedBy_15 (by decide) rfl (fun c_15 => ?_) (fun c_15 => ?_)
      · exact absurd c_15 (nI_ge (by omega) (by omega))
      · refine g_aload_n (q := 19) (i := 0) hC dX4_blocksUsedBy_18 rfl rfl rfl ?_
        refine g_getf (q := 22) (v := .ref (A 5 5)) hC kg_X4_25 dX4_blocksUsedBy_19 (hr.led hW) rfl rfl ?_
        refine g_iload_n (q := 23) (i := 3) hC dX4_blocksUsedBy_22 rfl rfl rfl ?_
        refine g_cr (q := 26) (g_runV hC kv_X4_186 md_Jx4a65c_get_915e3 (c_gt5 _ hC.fl hr i (by omega)) (ci := 6) rfl hr.l5 dX4_blocksUsedBy_23 (by decide) (by decide) (by omega) (by omega) rfl rfl (Nat.le_of_ble_eq_true rfl)) rfl (fun r σ ⟨e1, e2⟩ => ?_) (fun _ _ h9 => False.elim h9)
        subst e1 e2
        refine g_ccast (q := 29) (ci := 2) hC kc_X4_190 dX4_blocksUsedBy_26 rfl (hr.rsv (by omega)) rfl ?_
        refine g_astore (q := 31) (i := 4) hC dX4_blocksUsedBy_29 (by decide) rfl ?_
        refine g_aload (q := 33) (i := 4) hC dX4_blocksUsedBy_31 rfl rfl ?_
        refine g_getf (q := 36) (v := .int (bI (ρ.2.2 11 i))) hC kg_X4_196 dX4_blocksUsedBy_33 (hr.rsv (by omega)) rfl rfl ?_
        refine g_if_eq (tgt := 56) (q := 39) hC dX4_blocksUsedBy_36 (by decide) rfl (fun c_36 => ?_) (fun c_36 => ?_)
        · refine g_sub (lv0 := [(3, .int (nI i)), (2, .int (bub ρ f i)), (0, .ref (A 0 0)), (1, .ref (A 3 f))]) ⟨rfl, rfl, rfl, rfl, trivial⟩ ?_
          exact next _ (by rw [e0, if_neg (fun z => by rw [bI_0.mp c_36] at z; cases z.1), Int32.add_zero])
        · refine g_aload (q := 41) (i := 4) hC dX4_blocksUsedBy_39 rfl rfl ?_
          refine g_getf (q := 44) (v := .ref (A 3 (ρ.1 7 i))) hC kg_X4_192 dX4_blocksUsedBy_41 (hr.rsv (by omega)) rfl rfl ?_
          refine g_aload_n (q := 45) (i := 1) hC dX4_blocksUsedBy_44 rfl rfl rfl ?_
          refine g_acmp_ne (tgt := 56) (q := 48) (rx := some (A 3 (ρ.1 7 i))) (ry := some (A 3 f)) hC dX4_blocksUsedBy_45 (by decide) rfl (fun c_45 => ?_) (fun c_45 => ?_)
          · have ne : ¬ ρ.1 7 i = f := fun z => c_45 (by rw [z])
            refine g_sub (lv0 := [(3, .int (nI i)), (2, .int (bub ρ f i)), (0, .ref (A 0 0)), (1, .ref (A 3 f))]) ⟨rfl, rfl, rfl, rfl, trivial⟩ ?_
            exact next _ (by rw [e0, if_neg (fun z => ne z.2), Int32.add_zero])
          · have e := (hr.inj (k := 3) (by decide) hri hf).mp (Option.some.inj c_45)
            refine g_iload_n (q := 49) (i := 2) hC dX4_blocksUsedBy_48 rfl rfl rfl ?_
            refine g_aload (q := 51) (i := 4) hC dX4_blocksUsedBy_49 rfl rfl ?_
            refine g_getf (q := 54) (v := .int (ρ.2.1 10 i)) hC kg_X4_209 dX4_blocksUsedBy_51 (hr.rsv (by omega)) rfl rfl ?_
            refine g_iadd (q := 55) hC dX4_blocksUsedBy_54 rfl rfl ?_
            refine g_istore_n (q := 56) (i := 2) hC dX4_blocksUsedBy_55 rfl (by decide) rfl ?_
            refine g_sub (lv0 := [(3, .int (nI i)), (2, .int (bub ρ f i + ρ.2.1 10 i)), (0, .ref (A 0 0)), (1, .ref (A 3 f))]) ⟨rfl, rfl, rfl, rfl, trivial⟩ ?_
            exact next _ (by rw [e0, if_pos ⟨bI_n.mp c_36, e⟩])
  refine g_aload_n (q := 1) (i := 1) hC dX4_blocksUsedBy_0 rfl rfl rfl ?_
  refine g_getf (q := 4) (v := .int (ρ.2.1 9 f)) hC kg_X4_174 dX4_blocksUsedBy_1 (hr.fil (by omega)) rfl rfl ?_
  refine g_istore_n (q := 5) (i := 2) hC dX4_blocksUsedBy_4 rfl (by decide) rfl ?_
  refine g_iconst (q := 6) (v := nI 0) hC dX4_blocksUsedBy_5 rfl rfl ?_
  refine g_istore_n (q := 7) (i := 3) hC dX4_blocksUsedBy_6 rfl (by decide) rfl ?_
  refine g_sub (lv0 := [(3, .int (nI 0)), (2, .int (bub ρ f 0)), (0, .ref (A 0 0)), (1, .ref (A 3 f))]) ⟨rfl, rfl, rfl, rfl, trivial⟩ ?_
  exact loop _ 0 (Nat.zero_add _)
