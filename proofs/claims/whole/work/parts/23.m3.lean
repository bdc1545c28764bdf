/-! ===== the model: accounts and sums ===== -/
def isP (S : gSt) (x : Int32) : Bool := decide (0 ≤ x) && decide (x ≤ nI (S.1 0 2) - 1)
def acct (S : gSt) (kd x : Int32) : Option Nat :=
  if kd = 0 then (if (decide (0 ≤ x) && decide (x ≤ 5)) = true then some x.toNatClampNeg else none)
  else if kd = 1 then (if (decide (0 ≤ x) && decide (x ≤ 2)) = true then some (6 + x.toNatClampNeg) else none)
  else if kd = 2 then (if isP S x = true then some (9 + x.toNatClampNeg) else none) else none
def cts (S : gSt) (f a : Nat) : Bool := (if a < 6 then decide (S.1 5 f = a) else if a < 9 then decide (S.1 5 f % 3 = a - 6) else wIn S (S.1 6 f) (a - 9)) && !(S.2.2 8 f)
def usg (S : gSt) (f : Nat) : Nat → Int32
  | 0 => if S.2.2 8 f = true then 0 else S.2.1 7 f
  | k + 1 => usg S f k + (if S.1 9 k = f ∧ S.2.2 11 k = true then S.2.1 10 k else 0)
def sumA (S : gSt) (a : Nat) : Nat → Int32
  | 0 => 0
  | k + 1 => sumA S a k + (if cts S k a = true then usg S k (S.1 0 4) else 0)
def cntF (S : gSt) (a : Nat) : Nat → Nat
  | 0 => 0
  | k + 1 => cntF S a k + (if cts S k a = true then 1 else 0)
theorem nonneg_nI {x : Int32} (h : 0 ≤ x) : x = nI x.toNatClampNeg := by
  obtain ⟨j, hj, rfl⟩ := nI_of (x := x) (fun z => by
    rw [Int32.lt_iff_toInt_lt] at z
    rw [Int32.le_iff_toInt_le] at h
    omega)
  rw [nI_clamp hj]
set_option maxRecDepth 100000 in
set_option maxHeartbeats 4000000 in
theorem c_M_accountOf (l : Launch) (hfl : l.stackTraces = false) (M : gMT) (σ : gS) (φ : gS) (m : Nat) (ad : Nat → Nat) (rf kd x : Int32) (S : gSt) (hM : Mod M φ σ m ad rf S) : Con l M yX5_accountOf (.code yX5_accountOf cX5_accountOf 3 (Option.some FieldType.int)) 3 0 0 [.ref m, .int kd, .int x] σ (rI (pI σ (oI (acct S kd x)))) (nX) := by
  refine g_con hfl (by decide) (lv := [(0, .ref m), (1, .int kd), (2, .int x)]) rfl rfl (Nat.le_of_ble_eq_true rfl) (fun X hX hC hR htb => ?_)
  refine g_iload_n (q := 1) (i := 1) hC dX5_accountOf_0 rfl rfl rfl ?_
  refine g_if_ne (tgt := 19) (q := 4) hC dX5_accountOf_1 (by decide) rfl (fun c_1 => ?_) (fun c_1 => ?_)
  · refine g_iload_n (q := 20) (i := 1) hC dX5_accountOf_19 rfl rfl rfl ?_
    refine g_iconst (q := 21) (v := (1)) hC dX5_accountOf_20 rfl rfl ?_
    refine g_icmp_ne (tgt := 42) (q := 24) hC dX5_accountOf_21 (by decide) rfl (fun c_21 => ?_) (fun c_21 => ?_)
    · refine g_iload_n (q := 43) (i := 1) hC dX5_accountOf_42 rfl rfl rfl ?_
      refine g_iconst (q := 44) (v := (2)) hC dX5_accountOf_43 rfl rfl ?_
      refine g_icmp_ne (tgt := 62) (q := 47) hC dX5_accountOf_44 (by decide) rfl (fun c_44 => ?_) (fun c_44 => ?_)
      · refine g_iconst (q := 63) (v := (-1)) hC dX5_accountOf_62 rfl rfl ?_
        exact g_iret hC hR dX5_accountOf_63 (by omega) (by omega) (⟨_, rfl, by rw [acct, if_neg c_1, if_neg c_21, if_neg c_44]; rfl, rfl⟩)
      · refine g_aload_n (q := 48) (i := 0) hC dX5_accountOf_47 rfl rfl rfl ?_
        refine g_iload_n (q := 49) (i := 2) hC dX5_accountOf_48 rfl rfl rfl ?_
        refine g_ci (q := 52) (g_runV hC kv_X5_93 md_X5_isProject (c_M_isProject _ hC.fl M _ φ m ad rf x S hM) (ci := 5) rfl hM.1 dX5_accountOf_49 (by decide) (by decide) (by omega) (by omega) rfl rfl (Nat.le_of_ble_eq_true rfl)) rfl (fun r σ ⟨e1, e2⟩ => ?_) (fun _ _ h9 => False.elim h9)
        subst e1 e2
        refine g_if_eq (tgt := 62) (q := 55) hC dX5_accountOf_52 (by decide) rfl (fun c_52 => ?_) (fun c_52 => ?_)
        · refine g_iconst (q := 63) (v := (-1)) hC dX5_accountOf_62 rfl rfl ?_
          exact g_iret hC hR dX5_accountOf_63 (by omega) (by omega) (⟨_, rfl, by rw [acct, if_neg c_1, if_neg c_21, if_pos c_44, if_neg (fun z => by rw [isP, bI_0.mp c_52] at z; cases z)]; rfl, rfl⟩)
        · have hb : isP S x = true := bI_n.mp c_52
          have e := nonneg_nI (of_decide_eq_true (Bool.and_eq_true_iff.mp hb).1)
          refine g_bipush (q := 57) (v := (9)) hC dX5_accountOf_55 rfl rfl ?_
          refine g_iload_n (q := 58) (i := 2) hC dX5_accountOf_57 rfl rfl rfl ?_
          refine g_iadd (q := 59) hC dX5_accountOf_58 rfl rfl ?_
          refine g_goto (tgt := 63) hC dX5_accountOf_59 (by decide) ?_
          exact g_iret hC hR dX5_accountOf_63 (by omega) (by omega) (⟨_, rfl, by rw [acct, if_neg c_1, if_neg c_21, if_pos c_44, if_pos hb]; show 9 + x = nI (9 + x.toNatClampNeg); rw [← nI_add, ← e]; rfl, rfl⟩)
    · refine g_iload_n (q := 25) (i := 2) hC dX5_accountOf_24 rfl rfl rfl ?_
      refine g_iconst (q := 26) (v := (0)) hC dX5_accountOf_25 rfl rfl ?_
      refine g_iconst (q := 27) (v := (2)) hC dX5_accountOf_26 rfl rfl ?_
      refine g_ci (q := 30) (g_runS hC ks_X5_78 md_X5_in (c_M_in _ hC.fl M _ x 0 2) dX5_accountOf_27 (by decide) (by decide) (by omega) (by omega) rfl rfl (Nat.le_of_ble_eq_true rfl)) rfl (fun r σ ⟨e1, e2⟩ => ?_) (fun _ _ h9 => False.elim h9)
      subst e1 e2
      refine g_if_eq (tgt := 40) (q := 33) hC dX5_accountOf_30 (by decide) rfl (fun c_30 => ?_) (fun c_30 => ?_)
      · refine g_iconst (q := 41) (v := (-1)) hC dX5_accountOf_40 rfl rfl ?_
        exact g_iret hC hR dX5_accountOf_41 (by omega) (by omega) (⟨_, rfl, by rw [acct, if_neg c_1, if_pos c_21, if_neg (fun z => by rw [bI_0.mp c_30] at z; cases z)]; rfl, rfl⟩)
      · have hb := bI_n.mp c_30
        have e := nonneg_nI (of_decide_eq_true (Bool.and_eq_true_iff.mp hb).1)
        refine g_bipush (q := 35) (v := (6)) hC dX5_accountOf_33 rfl rfl ?_
        refine g_iload_n (q := 36) (i := 2) hC dX5_accountOf_35 rfl rfl rfl ?_
        refine g_iadd (q := 37) hC dX5_accountOf_36 rfl rfl ?_
        refine g_goto (tgt := 41) hC dX5_accountOf_37 (by decide) ?_
        exact g_iret hC hR dX5_accountOf_41 (by omega) (by omega) (⟨_, rfl, by rw [acct, if_neg c_1, if_pos c_21, if_pos hb]; show 6 + x = nI (6 + x.toNatClampNeg); rw [← nI_add, ← e]; rfl, rfl⟩)
  · refine g_iload_n (q := 5) (i := 2) hC dX5_accountOf_4 rfl rfl rfl ?_
    refine g_iconst (q := 6) (v := (0)) hC dX5_accountOf_5 rfl rfl ?_
    refine g_iconst (q := 7) (v := (5)) hC dX5_accountOf_6 rfl rfl ?_
    refine g_ci (q := 10) (g_runS hC ks_X5_78 md_X5_in (c_M_in _ hC.fl M _ x 0 5) dX5_accountOf_7 (by decide) (by decide) (by omega) (by omega) rfl rfl (Nat.le_of_ble_eq_true rfl)) rfl (fun r σ ⟨e1, e2⟩ => ?_) (fun _ _ h9 => False.elim h9)
    subst e1 e2
    refine g_if_eq (tgt := 17) (q := 13) hC dX5_accountOf_10 (by decide) rfl (fun c_10 => ?_) (fun c_10 => ?_)
    · refine g_iconst (q := 18) (v := (-1)) hC dX5_accountOf_17 rfl rfl ?_
      exact g_iret hC hR dX5_accountOf_18 (by omega) (by omega) (⟨_, rfl, by rw [acct, if_pos c_1, if_neg (fun z => by rw [bI_0.mp c_10] at z; cases z)]; rfl, rfl⟩)
    · have hb := bI_n.mp c_10
      have e := nonneg_nI (of_decide_eq_true (Bool.and_eq_true_iff.mp hb).1)
      refine g_iload_n (q := 14) (i := 2) hC dX5_accountOf_13 rfl rfl rfl ?_
      refine g_goto (tgt := 18) hC dX5_accountOf_14 (by decide) ?_
      exact g_iret hC hR dX5_accountOf_18 (by omega) (by omega) (⟨_, rfl, by rw [acct, if_pos c_1, if_pos hb]; exact e, rfl⟩)
set_option maxRecDepth 100000 in
set_option maxHeartbeats 4000000 in
theorem c_M_noAccount (l : Launch) (hfl : l.stackTraces = false) (M : gMT) (σ : gS) (φ : gS) (m : Nat) (ad : Nat → Nat) (rf : Int32) (o : Option Nat) (S : gSt) (hM : Mod M φ σ m ad rf S) (ho : ∀ a, o = some a → a < 2 ^ 31) : Con l M yX5_noAccount (.code yX5_noAccount cX5_noAccount 2 (Option.some FieldType.boolean)) 2 0 0 [.ref m, .int (oI o)] σ (rI fun r σ2 => r = bI o.isNone ∧ Mod M φ σ2 m ad (bI o.isNone) S) (nX) := by
  refine g_con hfl (by decide) (lv := [(0, .ref m), (1, .int (oI o))]) rfl rfl (Nat.le_of_ble_eq_true rfl) (fun X hX hC hR htb => ?_)
  cases o with
  | none =>
    refine g_aload_n (q := 1) (i := 0) hC dX5_noAccount_0 rfl rfl rfl ?_
    refine g_iload_n (q := 2) (i := 1) hC dX5_noAccount_1 rfl rfl rfl ?_
    refine g_iconst (q := 3) (v := (-1)) hC dX5_noAccount_2 rfl rfl ?_
    refine g_icmp_ne (tgt := 10) (q := 6) hC dX5_noAccount_3 (by decide) rfl (fun c_3 => ?_) (fun c_3 => ?_)
    · exact absurd rfl c_3
    · refine g_iconst (q := 7) (v := (1)) hC dX5_noAccount_6 rfl rfl ?_
      refine g_goto (tgt := 11) hC dX5_noAccount_7 (by decide) ?_
      refine g_ci (q := 14) (g_runV hC kv_X5_67 md_X5_refused (c_M_refused _ hC.fl M _ φ m ad rf 1 S hM) (ci := 5) rfl hM.1 dX5_noAccount_11 (by decide) (by decide) (by omega) (by omega) rfl rfl (Nat.le_of_ble_eq_true rfl)) rfl (fun r σ ⟨e1, hM2⟩ => ?_) (fun _ _ h9 => False.elim h9)
      subst e1
      exact g_zret hC hR (rfl) dX5_noAccount_14 (by omega) (by omega) (⟨_, rfl, rfl, hM2⟩)
  | some a =>
    refine g_aload_n (q := 1) (i := 0) hC dX5_noAccount_0 rfl rfl rfl ?_
    refine g_iload_n (q := 2) (i := 1) hC dX5_noAccount_1 rfl rfl rfl ?_
    refine g_iconst (q := 3) (v := (-1)) hC dX5_noAccount_2 rfl rfl ?_
    refine g_icmp_ne (tgt := 10) (q := 6) hC dX5_noAccount_3 (by decide) rfl (fun c_3 => ?_) (fun c_3 => ?_)
    · refine g_iconst (q := 11) (v := (0)) hC dX5_noAccount_10 rfl rfl ?_
      refine g_ci (q := 14) (g_runV hC kv_X5_67 md_X5_refused (c_M_refused _ hC.fl M _ φ m ad rf 0 S hM) (ci := 5) rfl hM.1 dX5_noAccount_11 (by decide) (by decide) (by omega) (by omega) rfl rfl (Nat.le_of_ble_eq_true rfl)) rfl (fun r σ ⟨e1, hM2⟩ => ?_) (fun _ _ h9 => False.elim h9)
      subst e1
      exact g_zret hC hR (rfl) dX5_noAccount_14 (by omega) (by omega) (⟨_, rfl, rfl, hM2⟩)
    · exact absurd c_3 (fun z => by
        have h := nI_pos' (ho a rfl)
        have z : nI a = -1 := z
        rw [z] at h
        exact absurd h (by decide))
def isF (S : gSt) (x : Int32) : Bool := (decide (0 ≤ x) && decide (x ≤ nI (S.1 0 3) - 1)) && !(S.2.2 8 x.toNatClampNeg)
theorem le_pred {x : Int32} {n : Nat} (hn : n < 2 ^ 30) (h : (decide (0 ≤ x) && decide (x ≤ nI n - 1)) = true) : x = nI x.toNatClampNeg ∧ x.toNatClampNeg < n := by
  have h1 := of_decide_eq_true (Bool.and_eq_true_iff.mp h).1
  have h2 := of_decide_eq_true (Bool.and_eq_true_iff.mp h).2
  have e := nonneg_nI h1
  refine ⟨e, ?_⟩
  rw [Int32.le_iff_toInt_le] at h1 h2
  have e2 : (1 : Int32) = nI 1 := rfl
  rw [e2, pk_sub_toInt hn (by omega)] at h2
  have : ((x.toNatClampNeg : Nat) : Int) = x.toInt := by
    show ((x.toInt.toNat : Nat) : Int) = x.toInt
    rw [Int32.toInt_zero] at h1
    omega
  omega
set_option maxRecDepth 100000 in
set_option maxHeartbeats 4000000 in
theorem c_M_isFile (l : Launch) (hfl : l.stackTraces = false) (M : gMT) (σ : gS) (φ : gS) (m : Nat) (ad : Nat → Nat) (rf x : Int32) (S : gSt) (hM : Mod M φ σ m ad rf S) (hB : SB S) : Con l M yX5_isFile (.code yX5_isFile cX5_isFile 2 (Option.some FieldType.boolean)) 2 0 0 [.ref m, .int x] σ (rI (pI σ (bI (isF S x)))) (nX) := by
  refine g_con hfl (by decide) (lv := [(0, .ref m), (1, .int x)]) rfl rfl (Nat.le_of_ble_eq_true rfl) (fun X hX hC hR htb => ?_)
  obtain ⟨b1, b2, b3, b4, b5, b6, b7, b8⟩ := hB
  refine g_iload_n (q := 1) (i := 1) hC dX5_isFile_0 rfl rfl rfl ?_
  refine g_iconst (q := 2) (v := (0)) hC dX5_isFile_1 rfl rfl ?_
  refine g_aload_n (q := 3) (i := 0) hC dX5_isFile_2 rfl rfl rfl ?_
  refine g_getf (q := 6) hC kg_X5_115 dX5_isFile_3 hM.1 rfl rfl ?_
  refine g_iconst (q := 7) (v := (1)) hC dX5_isFile_6 rfl rfl ?_
  refine g_isub (q := 8) hC dX5_isFile_7 rfl rfl ?_
  refine g_ci (q := 11) (g_runS hC ks_X5_78 md_X5_in (c_M_in _ hC.fl M _ x 0 _) dX5_isFile_8 (by decide) (by decide) (by omega) (by omega) rfl rfl (Nat.le_of_ble_eq_true rfl)) rfl (fun r σ ⟨e1, e2⟩ => ?_) (fun _ _ h9 => False.elim h9)
  subst e1 e2
  refine g_if_eq (tgt := 27) (q := 14) hC dX5_isFile_11 (by decide) rfl (fun c_11 => ?_) (fun c_11 => ?_)
  · refine g_iconst (q := 28) (v := (0)) hC dX5_isFile_27 rfl rfl ?_
    exact g_zret hC hR (rfl) dX5_isFile_28 (by omega) (by omega) (⟨_, rfl, by rw [isF, bI_0.mp c_11]; rfl, rfl⟩)
  · have hb := bI_n.mp c_11
    obtain ⟨e, hlt⟩ := le_pred (by omega) hb
    generalize hj : x.toNatClampNeg = j at e hlt
    subst e
    refine g_aload_n (q := 15) (i := 0) hC dX5_isFile_14 rfl rfl rfl ?_
    refine g_getf (q := 18) hC kg_X5_36 dX5_isFile_15 hM.1 rfl rfl ?_
    refine g_iload_n (q := 19) (i := 1) hC dX5_isFile_18 rfl rfl rfl ?_
    refine g_zald (q := 20) (v := bI (S.2.2 8 j)) hC dX5_isFile_19 hM.a8 (vp_in_nI (by omega) (by omega)) (by rw [nI_clamp (by omega)]) rfl ?_
    refine g_if_ne (tgt := 27) (q := 23) hC dX5_isFile_20 (by decide) rfl (fun c_20 => ?_) (fun c_20 => ?_)
    · refine g_iconst (q := 28) (v := (0)) hC dX5_isFile_27 rfl rfl ?_
      exact g_zret hC hR (rfl) dX5_isFile_28 (by omega) (by omega) (⟨_, rfl, by rw [isF, hb, hj, bI_n.mp c_20]; rfl, rfl⟩)
    · refine g_iconst (q := 24) (v := (1)) hC dX5_isFile_23 rfl rfl ?_
      refine g_goto (tgt := 28) hC dX5_isFile_24 (by decide) ?_
      exact g_zret hC hR (rfl) dX5_isFile_28 (by omega) (by omega) (⟨_, rfl, by rw [isF, hb, hj, bI_0.mp c_20]; rfl, rfl⟩)
set_option maxRecDepth 100000 in
set_option maxHeartbeats 4000000 in
theorem c_M_counts (l : Launch) (hfl : l.stackTraces = false) (M : gMT) (σ : gS) (φ : gS) (m f a : Nat) (ad : Nat → Nat) (rf : Int32) (S : gSt) (hM : Mod M φ σ m ad rf S) (hB : SB S) (hf : f < S.1 0 3) (ha : a < 9 + S.1 0 2) : Con l M yX5_counts (.code yX5_counts cX5_counts 5 (Option.some FieldType.boolean)) 2 0 0 [.ref m, .int (nI f), .int (nI a)] σ (rI (pI σ (bI (cts S f a)))) (nX) := by
  refine g_con hfl (by decide) (lv := [(0, .ref m), (1, .int (nI f)), (2, .int (nI a))]) rfl rfl (Nat.le_of_ble_eq_true rfl) (fun X hX hC hR htb => ?_)
  have hB0 := hB
  obtain ⟨b1, b2, b3, b4, b5, b6, b7, b8⟩ := hB
  obtain ⟨c1, c2⟩ := b7 f hf
  have tail : ∀ b : Bool, b = (if a < 6 then decide (S.1 5 f = a) else if a < 9 then decide (S.1 5 f % 3 = a - 6) else wIn S (S.1 6 f) (a - 9)) → G X M 5 (gQ X M 0 0 (rI (pI σ (bI (cts S f a)))) nX) 0 0 σ 64 [(3, .int (nI (S.1 5 f))), (0, .ref m), (1, .int (nI f)), (2, .int (nI a))] [.int (bI b)] := by
    intro b hb
    refine g_istore (q := 66) (i := 4) hC dX5_counts_64 (by decide) rfl ?_
    refine g_iload (q := 68) (i := 4) hC dX5_counts_66 rfl rfl ?_
    refine g_if_eq (tgt := 84) (q := 71) hC dX5_counts_68 (by decide) rfl (fun c_68 => ?_) (fun c_68 => ?_)
    · refine g_iconst (q := 85) (v := (0)) hC dX5_counts_84 rfl rfl ?_
      exact g_zret hC hR (rfl) dX5_counts_85 (by omega) (by omega) (⟨_, rfl, by rw [cts, ← hb, bI_0.mp c_68]; rfl, rfl⟩)
    · refine g_aload_n (q := 72) (i := 0) hC dX5_counts_71 rfl rfl rfl ?_
      refine g_getf (q := 75) hC kg_X5_36 dX5_counts_72 hM.1 rfl rfl ?_
      refine g_iload_n (q := 76) (i := 1) hC dX5_counts_75 rfl rfl rfl ?_
      refine g_zald (q := 77) (v := bI (S.2.2 8 f)) hC dX5_counts_76 hM.a8 (vp_in_nI (by omega) (by omega)) (by rw [nI_clamp (by omega)]) rfl ?_
      refine g_if_ne (tgt := 84) (q := 80) hC dX5_counts_77 (by decide) rfl (fun c_77 => ?_) (fun c_77 => ?_)
      · refine g_iconst (q := 85) (v := (0)) hC dX5_counts_84 rfl rfl ?_
        exact g_zret hC hR (rfl) dX5_counts_85 (by omega) (by omega) (⟨_, rfl, by rw [cts, ← hb, bI_n.mp c_77, Bool.not_true, Bool.and_false]; rfl, rfl⟩)
      · refine g_iconst (q := 81) (v := (1)) hC dX5_counts_80 rfl rfl ?_
        refine g_goto (tgt := 85) hC dX5_counts_81 (by decide) ?_
        exact g_zret hC hR (rfl) dX5_counts_85 (by omega) (by omega) (⟨_, rfl, by rw [cts, ← hb, bI_0.mp c_77, bI_n.mp c_68]; rfl, rfl⟩)
  refine g_aload_n (q := 1) (i := 0) hC dX5_counts_0 rfl rfl rfl ?_
  refine g_getf (q := 4) hC kg_X5_27 dX5_counts_1 hM.1 rfl rfl ?_
  refine g_iload_n (q := 5) (i := 1) hC dX5_counts_4 rfl rfl rfl ?_
  refine g_iald (q := 6) (v := nI (S.1 5 f)) hC dX5_counts_5 hM.a5 (vp_in_nI (by omega) (by omega)) (by rw [nI_clamp (by omega)]) rfl ?_
  refine g_istore_n (q := 7) (i := 3) hC dX5_counts_6 rfl (by decide) rfl ?_
  refine g_iload_n (q := 8) (i := 2) hC dX5_counts_7 rfl rfl rfl ?_
  refine g_bipush (q := 10) (v := nI 6) hC dX5_counts_8 rfl rfl ?_
  refine g_icmp_ge (tgt := 26) (q := 13) hC dX5_counts_10 (by decide) rfl (fun c_10 => ?_) (fun c_10 => ?_)
  · have h6 : ¬ a < 6 := fun z => absurd (nI_lt z (by omega)) (fun w => by
      rw [Int32.le_iff_toInt_le] at c_10
      rw [Int32.lt_iff_toInt_lt] at w
      omega)
    rw [if_neg h6] at tail
    refine g_iload_n (q := 27) (i := 2) hC dX5_counts_26 rfl rfl rfl ?_
    refine g_bipush (q := 29) (v := nI 9) hC dX5_counts_27 rfl rfl ?_
    refine g_icmp_ge (tgt := 50) (q := 32) hC dX5_counts_29 (by decide) rfl (fun c_29 => ?_) (fun c_29 => ?_)
    · have h9 : ¬ a < 9 := fun z => absurd (nI_lt z (by omega)) (fun w => by
        rw [Int32.le_iff_toInt_le] at c_29
        rw [Int32.lt_iff_toInt_lt] at w
        omega)
      rw [if_neg h9] at tail
      refine g_aload_n (q := 51) (i := 0) hC dX5_counts_50 rfl rfl rfl ?_
      refine g_aload_n (q := 52) (i := 0) hC dX5_counts_51 rfl rfl rfl ?_
      refine g_getf (q := 55) hC kg_X5_30 dX5_counts_52 hM.1 rfl rfl ?_
      refine g_iload_n (q := 56) (i := 1) hC dX5_counts_55 rfl rfl rfl ?_
      refine g_iald (q := 57) (v := nI (S.1 6 f)) hC dX5_counts_56 hM.a6 (vp_in_nI (by omega) (by omega)) (by rw [nI_clamp (by omega)]) rfl ?_
      refine g_iload_n (q := 58) (i := 2) hC dX5_counts_57 rfl rfl rfl ?_
      refine g_bipush (q := 60) (v := nI 9) hC dX5_counts_58 rfl rfl ?_
      refine g_isub (q := 61) (v := (nI (a - 9))) hC dX5_counts_60 (pk_sub (by omega)) rfl ?_
      refine g_ci (q := 64) (g_runV hC kv_X5_82 md_X5_isWithin (c_M_isWithin _ hC.fl M _ φ m (S.1 6 f) (a - 9) ad rf S hM hB0 c2 (by omega)) (ci := 5) rfl hM.1 dX5_counts_61 (by decide) (by decide) (by omega) (by omega) rfl rfl (Nat.le_of_ble_eq_true rfl)) rfl (fun r σ ⟨e1, e2⟩ => ?_) (fun _ _ h9 => False.elim h9)
      subst e1 e2
      refine g_sub (lv0 := [(3, .int (nI (S.1 5 f))), (0, .ref m), (1, .int (nI f)), (2, .int (nI a))]) ⟨rfl, rfl, rfl, rfl, trivial⟩ ?_
      exact tail _ rfl
    · have h9 : a < 9 := by
        rcases Nat.lt_or_ge a 9 with z | z
        · exact z
        · exact absurd (nI_le z (by omega)) c_29
      rw [if_pos h9] at tail
      refine g_iload_n (q := 33) (i := 3) hC dX5_counts_32 rfl rfl rfl ?_
      refine g_iconst (q := 34) (v := nI 3) hC dX5_counts_33 rfl rfl ?_
      refine g_irem (q := 35) (v := (nI ((S.1 5 f) % 3))) hC dX5_counts_34 (by decide) (pk_rem (by omega) (by omega) (by omega)) rfl ?_
      refine g_iload_n (q := 36) (i := 2) hC dX5_counts_35 rfl rfl rfl ?_
      refine g_bipush (q := 38) (v := nI 6) hC dX5_counts_36 rfl rfl ?_
      refine g_isub (q := 39) (v := (nI (a - 6))) hC dX5_counts_38 (pk_sub (by omega)) rfl ?_
      refine g_icmp_ne (tgt := 46) (q := 42) hC dX5_counts_39 (by decide) rfl (fun c_39 => ?_) (fun c_39 => ?_)
      · have e : decide (S.1 5 f % 3 = a - 6) = false := decide_eq_false (fun z => c_39 (by rw [z]))
        refine g_iconst (q := 47) (v := (0)) hC dX5_counts_46 rfl rfl ?_
        refine g_goto (tgt := 64) hC dX5_counts_47 (by decide) ?_
        refine g_sub (lv0 := [(3, .int (nI (S.1 5 f))), (0, .ref m), (1, .int (nI f)), (2, .int (nI a))]) ⟨rfl, rfl, rfl, rfl, trivial⟩ ?_
        exact tail false e.symm
      · have e : decide (S.1 5 f % 3 = a - 6) = true := decide_eq_true ((nI_eq (by omega) (by omega)).mp c_39)
        refine g_iconst (q := 43) (v := (1)) hC dX5_counts_42 rfl rfl ?_
        refine g_goto (tgt := 64) hC dX5_counts_43 (by decide) ?_
        refine g_sub (lv0 := [(3, .int (nI (S.1 5 f))), (0, .ref m), (1, .int (nI f)), (2, .int (nI a))]) ⟨rfl, rfl, rfl, rfl, trivial⟩ ?_
        exact tail true e.symm
  · have h6 : a < 6 := by
      rcases Nat.lt_or_ge a 6 with z | z
      · exact z
      · exact absurd (nI_le z (by omega)) c_10
    rw [if_pos h6] at tail
    refine g_iload_n (q := 14) (i := 3) hC dX5_counts_13 rfl rfl rfl ?_
    refine g_iload_n (q := 15) (i := 2) hC dX5_counts_14 rfl rfl rfl ?_
    refine g_icmp_ne (tgt := 22) (q := 18) hC dX5_counts_15 (by decide) rfl (fun c_15 => ?_) (fun c_15 => ?_)
    · have e : decide (S.1 5 f = a) = false := decide_eq_false (fun z => c_15 (by rw [z]))
      refine g_iconst (q := 23) (v := (0)) hC dX5_counts_22 rfl rfl ?_
      refine g_goto (tgt := 64) hC dX5_counts_23 (by decide) ?_
      refine g_sub (lv0 := [(3, .int (nI (S.1 5 f))), (0, .ref m), (1, .int (nI f)), (2, .int (nI a))]) ⟨rfl, rfl, rfl, rfl, trivial⟩ ?_
      exact tail false e.symm
    · have e : decide (S.1 5 f = a) = true := decide_eq_true ((nI_eq (by omega) (by omega)).mp c_15)
      refine g_iconst (q := 19) (v := (1)) hC dX5_counts_18 rfl rfl ?_
      refine g_goto (tgt := 64) hC dX5_counts_19 (by decide) ?_
      refine g_sub (lv0 := [(3, .int (nI (S.1 5 f))), (0, .ref m), (1, .int (nI f)), (2, .int (nI a))]) ⟨rfl, rfl, rfl, rfl, trivial⟩ ?_
      exact tail true e.symm
