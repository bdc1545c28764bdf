/-! ===== the ledger's calls (6): write, settle ===== -/
theorem setA_c (ρ : gSt) (a : Nat) (v : Nat → Int32) {c : Nat} (h : c = 0 ∨ 9 ≤ c) : (setA ρ a v).2.1 c = ρ.2.1 c := by
  funext i
  exact setA_o ρ a v (fun z => by omega)
theorem chA_c (ρ : gSt) (a : Nat) (b m : Int32) (t : Bool) {c : Nat} (h : c = 0 ∨ 9 ≤ c) : (chA ρ a b m t).2.1 c = ρ.2.1 c := by
  unfold chA
  split
  · exact (setA_c _ _ _ h).trans (setA_c _ _ _ h)
  · exact setA_c _ _ _ h
theorem chg_c (ρ : gSt) (f : Nat) (b m : Int32) {c : Nat} (h : c = 0 ∨ 9 ≤ c) : (chg ρ f b m).2.1 c = ρ.2.1 c := by
  have e : ∀ n, (chN ρ f b m n).2.1 c = ρ.2.1 c := by
    intro n
    induction n with
    | zero => rfl
    | succ n ih =>
      unfold chN
      rw [chA_c _ _ _ _ _ h, ih]
  exact e _
theorem ntS_c (ρ : gSt) {c : Nat} (h : c = 0 ∨ 9 ≤ c) : (ntS ρ).2.1 c = ρ.2.1 c := by
  have e : ∀ n, (ntN ρ n).2.1 c = ρ.2.1 c := by
    intro n
    induction n with
    | zero => rfl
    | succ n ih =>
      unfold ntN ntA
      rw [setA_c _ _ _ h, ih]
  exact e _
theorem ntS_1 (ρ : gSt) : (ntS ρ).1 = ρ.1 := ntN_1 ρ _
theorem bpl_n {ρ : gSt} {f : Nat} {mb mf : Int32} : oI (bpl ρ f mb mf) = -1 ↔ bpl ρ f mb mf = none := oI_none (fun a h => by
  have := firP_some _ _ h
  have := rowN_le ρ f
  omega)
def lb2 (ρ : gSt) (o : Option Nat) (T : Int32 × gSt) : lRes := match o with
  | some j => ("", -2 - nI j, ρ)
  | none => ("", T.1, T.2)
theorem lb2_fst {ρ : gSt} {o : Option Nat} {T : Int32 × gSt} : (lb2 ρ o T).1 = "" := by cases o <;> rfl
def lo_write (ρ : gSt) (x b : Int32) : lRes := if lvf ρ x = false then (eI, 0, ρ) else if b < -1000 ∨ 1000 < b ∨ ρ.2.1 9 x.toNatClampNeg + b < 0 then (eA, 0, ρ) else lb2 ρ (bpl ρ x.toNatClampNeg b 0) (ρ.2.1 9 x.toNatClampNeg + b, ntS (chg (sI ρ 9 x.toNatClampNeg (ρ.2.1 9 x.toNatClampNeg + b)) x.toNatClampNeg b 0))
set_option maxRecDepth 100000 in
set_option maxHeartbeats 4000000 in
theorem c_L_write (l : Launch) (hfl : l.stackTraces = false) (M : gMT) (σ : gS) (A : gAd) (ρ : gSt) (W : gWt) (x b : Int32) (hr : Raw M σ A ρ W) (hW : RW ρ) : Con l M yX4_write (.code yX4_write cX4_write 5 (Option.some FieldType.int)) 12 5 56 [.ref (A 0 0), .int x, .int b] σ (rI (lP M σ A (lo_write ρ x b))) (lX σ (lo_write ρ x b)) := by
  refine g_con hfl (by decide) (lv := [(0, .ref (A 0 0)), (1, .int x), (2, .int b)]) rfl rfl (Nat.le_of_ble_eq_true rfl) (fun X hX hC hR htb => ?_)
  have w3 := hW.2.2.1
  refine g_aload_n (q := 1) (i := 0) hC dX4_write_0 rfl rfl rfl ?_
  refine g_iload_n (q := 2) (i := 1) hC dX4_write_1 rfl rfl rfl ?_
  refine g_cr (q := 5) (g_runV hC kv_X4_170 md_X4_liveFile (c_L_liveFile _ hC.fl M _ A ρ W x hr hW) (ci := 4) rfl (hr.led hW) dX4_write_2 (by decide) (by decide) (by omega) (by omega) rfl rfl (Nat.le_of_ble_eq_true rfl)) rfl (fun r σ ⟨⟨hx, e1⟩, e2⟩ => ?_) (fun E σ2 h9 => by obtain ⟨⟨rfl, h8⟩, rfl⟩ := h9; exact g_out hR htb (by omega) (by omega) (lX_of (by rw [lo_write, if_pos h8]) eI_n))
  subst e1 e2
  obtain ⟨f, hf, ex, ec, -⟩ := lvf_nI hW hx
  have eT : lo_write ρ x b = (if b < -1000 ∨ 1000 < b ∨ ρ.2.1 9 f + b < 0 then (eA, 0, ρ) else lb2 ρ (bpl ρ f b 0) (ρ.2.1 9 f + b, ntS (chg (sI ρ 9 f (ρ.2.1 9 f + b)) f b 0))) := by rw [lo_write, if_neg (by rw [hx]; decide), ec]
  rw [eT, ec]
  generalize eT2 : (if b < -1000 ∨ 1000 < b ∨ ρ.2.1 9 f + b < 0 then (eA, 0, ρ) else lb2 ρ (bpl ρ f b 0) (ρ.2.1 9 f + b, ntS (chg (sI ρ 9 f (ρ.2.1 9 f + b)) f b 0)) : lRes) = T at *
  have bad : (b < -1000 ∨ 1000 < b ∨ ρ.2.1 9 f + b < 0) → G X M 5 (gQ X M 5 56 (rI (lP M σ A T)) (lX σ T)) (0 + 1) (0 + 6) σ 29 [(3, .ref (A 3 f)), (0, .ref (A 0 0)), (1, .int x), (2, .int b)] [] := by
    intro hb
    exact g_throwS hC hR htb (tA (is := 177) (text := "blocks is out of range") (by decide +kernel)) dX4_write_29 dX4_write_32 dX4_write_33 dX4_write_35 dX4_write_38 (by decide) (Nat.le_of_ble_eq_true rfl) (by omega) (by omega) (lX_of (by rw [← eT2, if_pos hb]) eA_n)
  refine g_astore_n (q := 6) (i := 3) hC dX4_write_5 rfl (by decide) rfl ?_
  refine g_iload_n (q := 7) (i := 2) hC dX4_write_6 rfl rfl rfl ?_
  refine g_sipush (q := 10) (v := (-1000)) hC dX4_write_7 rfl rfl ?_
  refine g_icmp_lt (tgt := 29) (q := 13) hC dX4_write_10 (by decide) rfl (fun c_10 => ?_) (fun c_10 => ?_)
  · exact bad (Or.inl c_10)
  · refine g_iload_n (q := 14) (i := 2) hC dX4_write_13 rfl rfl rfl ?_
    refine g_sipush (q := 17) (v := (1000)) hC dX4_write_14 rfl rfl ?_
    refine g_icmp_gt (tgt := 29) (q := 20) hC dX4_write_17 (by decide) rfl (fun c_17 => ?_) (fun c_17 => ?_)
    · exact bad (Or.inr (Or.inl c_17))
    · refine g_aload_n (q := 21) (i := 3) hC dX4_write_20 rfl rfl rfl ?_
      refine g_getf (q := 24) (v := .int (ρ.2.1 9 f)) hC kg_X4_174 dX4_write_21 (hr.fil (by omega)) rfl rfl ?_
      refine g_iload_n (q := 25) (i := 2) hC dX4_write_24 rfl rfl rfl ?_
      refine g_iadd (q := 26) hC dX4_write_25 rfl rfl ?_
      refine g_if_ge (tgt := 39) (q := 29) hC dX4_write_26 (by decide) rfl (fun c_26 => ?_) (fun c_26 => ?_)
      · have ok : ¬ (b < -1000 ∨ 1000 < b ∨ ρ.2.1 9 f + b < 0) := fun z => z.elim c_10 (fun y => y.elim c_17 (Int32.not_lt.mpr c_26))
        rw [if_neg ok] at eT2
        subst eT2
        refine g_aload_n (q := 40) (i := 0) hC dX4_write_39 rfl rfl rfl ?_
        refine g_aload_n (q := 41) (i := 3) hC dX4_write_40 rfl rfl rfl ?_
        refine g_iload_n (q := 42) (i := 2) hC dX4_write_41 rfl rfl rfl ?_
        refine g_iconst (q := 43) (v := (0)) hC dX4_write_42 rfl rfl ?_
        refine g_ci (q := 46) (g_runV hC kv_X4_157 md_X4_barringPlace (c_L_barringPlace _ hC.fl M _ A ρ W f b 0 hr hW (by omega)) (ci := 4) rfl (hr.led hW) dX4_write_43 (by decide) (by decide) (by omega) (by omega) rfl rfl (Nat.le_of_ble_eq_true rfl)) rfl (fun r σ1 ⟨e1, hre1, hF1⟩ => ?_) (fun _ _ h9 => False.elim h9)
        subst e1
        obtain ⟨W1, hr1⟩ := hre1
        refine g_istore (q := 48) (i := 4) hC dX4_write_46 (by decide) rfl ?_
        refine g_iload (q := 50) (i := 4) hC dX4_write_48 rfl rfl ?_
        refine g_iconst (q := 51) (v := (-1)) hC dX4_write_50 rfl rfl ?_
        refine g_icmp_eq (tgt := 60) (q := 54) hC dX4_write_51 (by decide) rfl (fun c_51 => ?_) (fun c_51 => ?_)
        · have e9 := bpl_n.mp c_51
          have h5 := hr1.pBlk (f := f) (by omega) (ρ.2.1 9 f + b)
          have hF5 := hF1.trans (gFF.obj (e := oB 3 ((filF A ρ f).set 4 (.int (ρ.2.1 9 f + b)))) (hr1.fil (f := f) (by omega)) (by decide))
          have hW5 : RW (sI ρ 9 f (ρ.2.1 9 f + b)) := RW_1 rfl hW
          refine g_aload_n (q := 61) (i := 3) hC dX4_write_60 rfl rfl rfl ?_
          refine g_dup (q := 62) hC dX4_write_61 rfl rfl ?_
          refine g_getf (q := 65) (v := .int (ρ.2.1 9 f)) hC kg_X4_174 dX4_write_62 (hr1.fil (by omega)) rfl rfl ?_
          refine g_iload_n (q := 66) (i := 2) hC dX4_write_65 rfl rfl rfl ?_
          refine g_iadd (q := 67) hC dX4_write_66 rfl rfl ?_
          refine g_putf (q := 70) hC kf_X4_174 dX4_write_67 (hr1.fil (by omega)) (Nat.le_of_ble_eq_true rfl) rfl rfl rfl ?_
          generalize gUp σ1 (A 3 f) (oB 3 ((filF A ρ f).set 4 (.int (ρ.2.1 9 f + b)))) = σ5 at h5 hF5
          refine g_aload_n (q := 71) (i := 0) hC dX4_write_70 rfl rfl rfl ?_
          refine g_aload_n (q := 72) (i := 3) hC dX4_write_71 rfl rfl rfl ?_
          refine g_iload_n (q := 73) (i := 2) hC dX4_write_72 rfl rfl rfl ?_
          refine g_iconst (q := 74) (v := (0)) hC dX4_write_73 rfl rfl ?_
          refine g_cv (q := 77) (g_runV hC kv_X4_165 md_X4_charge (c_L_charge _ hC.fl M _ A _ W1 f b 0 h5 hW5 (show f < ρ.1 11 3 by omega)) (ci := 4) rfl (h5.led hW5) dX4_write_74 (by decide) (by decide) (by omega) (by omega) rfl rfl (Nat.le_of_ble_eq_true rfl)) rfl (fun σ6 ⟨⟨W6, hr6⟩, hF6⟩ => ?_) (fun _ _ h9 => False.elim h9)
          have hW6 := RW_1 (chg_1 (sI ρ 9 f (ρ.2.1 9 f + b)) f b 0) hW5
          refine g_aload_n (q := 78) (i := 0) hC dX4_write_77 rfl rfl rfl ?_
          refine g_cv (q := 81) (g_runV hC kv_X4_127 md_X4_noteOverAccounts (c_L_noteOver _ hC.fl M _ A _ W6 hr6 hW6) (ci := 4) rfl (hr6.led hW6) dX4_write_78 (by decide) (by decide) (by omega) (by omega) rfl rfl (Nat.le_of_ble_eq_true rfl)) rfl (fun σ7 ⟨⟨W7, hr7⟩, hF7⟩ => ?_) (fun _ _ h9 => False.elim h9)
          have hl7 := hr7.fil (f := f) (by rw [ntS_1, chg_1]; show f < ρ.1 11 3; omega)
          refine g_aload_n (q := 82) (i := 3) hC dX4_write_81 rfl rfl rfl ?_
          refine g_getf (q := 85) hC kg_X4_174 dX4_write_82 hl7 rfl rfl ?_
          exact g_iret hC hR dX4_write_85 (by omega) (by omega) (⟨_, rfl, by rw [e9]; exact ⟨rfl, by rw [ntS_c _ (by decide), chg_c _ _ _ _ (by decide)]; exact up2_self _ _ _ _, ⟨A, rfl, W7, hr7⟩, (hF5.trans hF6).trans hF7⟩⟩)
        · cases e9 : bpl ρ f b 0 with
          | none => exact absurd (by rw [e9]; rfl) c_51
          | some j =>
            refine g_iload (q := 56) (i := 4) hC dX4_write_54 rfl rfl ?_
            refine g_ci (q := 59) (g_runS hC ks_X4_161 md_X4_barredAnswer (c_L_barred _ hC.fl M _ (nI j)) dX4_write_56 (by decide) (by decide) (by omega) (by omega) rfl rfl (Nat.le_of_ble_eq_true rfl)) rfl (fun r σ1 ⟨e1, e2⟩ => ?_) (fun _ _ h9 => False.elim h9)
            subst e1 e2
            exact g_iret hC hR dX4_write_59 (by omega) (by omega) (⟨_, rfl, rfl, rfl, ⟨A, rfl, W1, hr1⟩, hF1⟩)
      · exact bad (Or.inr (Or.inr (Int32.not_le.mp c_26)))
def lvR (ρ : gSt) (x : Int32) : Bool := inR x (ρ.1 10 5) && ρ.2.2 11 x.toNatClampNeg
def stL (ρ : gSt) (r f : Nat) (b : Int32) : gSt := chg (sI (sB ρ 11 r false) 9 f (ρ.2.1 9 f + b)) f (b - ρ.2.1 10 r) 0
def lo_settle (ρ : gSt) (x b : Int32) : lRes := if lvR ρ x = false then (eI, 0, ρ) else if b < 0 ∨ ρ.2.1 10 x.toNatClampNeg < b then (eA, 0, ρ) else ("", ρ.2.1 9 (ρ.1 7 x.toNatClampNeg) + b, ntS (stL ρ x.toNatClampNeg (ρ.1 7 x.toNatClampNeg) b))
set_option maxRecDepth 100000 in
set_option maxHeartbeats 4000000 in
theorem c_L_settle (l : Launch) (hfl : l.stackTraces = false) (M : gMT) (σ : gS) (A : gAd) (ρ : gSt) (W : gWt) (x b : Int32) (hr : Raw M σ A ρ W) (hW : RW ρ) : Con l M yX4_settle (.code yX4_settle cX4_settle 4 (Option.some FieldType.int)) 12 2 25 [.ref (A 0 0), .int x, .int b] σ (rI (lP M σ A (lo_settle ρ x b))) (lX σ (lo_settle ρ x b)) := by
  refine g_con hfl (by decide) (lv := [(0, .ref (A 0 0)), (1, .int x), (2, .int b)]) rfl rfl (Nat.le_of_ble_eq_true rfl) (fun X hX hC hR htb => ?_)
  have w4 := hW.2.2.2.1
  have w9 := hW.2.2.2.2.2.2.2.2
  have bad : lvR ρ x = false → G X M 4 (gQ X M 2 25 (rI (lP M σ A (lo_settle ρ x b))) (lX σ (lo_settle ρ x b))) 0 0 σ 32 [(0, .ref (A 0 0)), (1, .int x), (2, .int b)] [] := by
    intro hb
    exact g_throwS hC hR htb (tI (is := 207) (text := "no such open reservation") (by decide +kernel)) dX4_settle_32 dX4_settle_35 dX4_settle_36 dX4_settle_38 dX4_settle_41 (by decide) (Nat.le_of_ble_eq_true rfl) (by omega) (by omega) (lX_of (by rw [lo_settle, if_pos hb]) eI_n)
  refine g_iload_n (q := 1) (i := 1) hC dX4_settle_0 rfl rfl rfl ?_
  refine g_if_lt (tgt := 32) (q := 4) hC dX4_settle_1 (by decide) rfl (fun c_1 => ?_) (fun c_1 => ?_)
  · exact bad (by rw [lvR, inR_f1 c_1]; rfl)
  · refine g_iload_n (q := 5) (i := 1) hC dX4_settle_4 rfl rfl rfl ?_
    refine g_aload_n (q := 6) (i := 0) hC dX4_settle_5 rfl rfl rfl ?_
    refine g_getf (q := 9) (v := .ref (A 5 5)) hC kg_X4_25 dX4_settle_6 (hr.led hW) rfl rfl ?_
    refine g_ci (q := 12) (g_runV hC kv_X4_99 md_Jx4a65c_size_8abf5 (c_size _ hC.fl M _ (A 5 5) _ _ _ hr.l5) (ci := 6) rfl hr.l5 dX4_settle_9 (by decide) (by decide) (by omega) (by omega) rfl rfl (Nat.le_of_ble_eq_true rfl)) rfl (fun r σ ⟨e1, e2⟩ => ?_) (fun _ _ h9 => False.elim h9)
    subst e1 e2
    refine g_icmp_ge (tgt := 32) (q := 15) hC dX4_settle_12 (by decide) rfl (fun c_12 => ?_) (fun c_12 => ?_)
    · exact bad (by rw [lvR, inR_f2 c_12]; rfl)
    · have h8 := inR_t c_1 (Int32.not_le.mp c_12)
      obtain ⟨r, hr9, ex, ec⟩ := inR_nI (by omega) h8
      have hfr := w9 r (by omega)
      subst ex
      refine g_aload_n (q := 16) (i := 0) hC dX4_settle_15 rfl rfl rfl ?_
      refine g_getf (q := 19) (v := .ref (A 5 5)) hC kg_X4_25 dX4_settle_16 (hr.led hW) rfl rfl ?_
      refine g_iload_n (q := 20) (i := 1) hC dX4_settle_19 rfl rfl rfl ?_
      refine g_cr (q := 23) (g_runV hC kv_X4_186 md_Jx4a65c_get_915e3 (c_gt5 _ hC.fl hr r hr9) (ci := 6) rfl hr.l5 dX4_settle_20 (by decide) (by decide) (by omega) (by omega) rfl rfl (Nat.le_of_ble_eq_true rfl)) rfl (fun r σ ⟨e1, e2⟩ => ?_) (fun _ _ h9 => False.elim h9)
      subst e1 e2
      refine g_ccast (q := 26) (ci := 2) hC kc_X4_190 dX4_settle_23 rfl (hr.rsv (by omega)) rfl ?_
      refine g_getf (q := 29) (v := .int (bI (ρ.2.2 11 r))) hC kg_X4_196 dX4_settle_26 (hr.rsv (by omega)) rfl rfl ?_
      refine g_if_ne (tgt := 42) (q := 32) hC dX4_settle_29 (by decide) rfl (fun c_29 => ?_) (fun c_29 => ?_)
      · have hv : lvR ρ (nI r) = true := by rw [lvR, h8, ec, bI_n.mp c_29]; rfl
        have eT : lo_settle ρ (nI r) b = (if b < 0 ∨ ρ.2.1 10 r < b then (eA, 0, ρ) else ("", ρ.2.1 9 (ρ.1 7 r) + b, ntS (stL ρ r (ρ.1 7 r) b))) := by rw [lo_settle, if_neg (by rw [hv]; decide), ec]
        rw [eT]
        generalize eT2 : (if b < 0 ∨ ρ.2.1 10 r < b then (eA, 0, ρ) else ("", ρ.2.1 9 (ρ.1 7 r) + b, ntS (stL ρ r (ρ.1 7 r) b)) : lRes) = T at *
        have bad2 : (b < 0 ∨ ρ.2.1 10 r < b) → G X M 4 (gQ X M 2 25 (rI (lP M σ A T)) (lX σ T)) 0 0 σ 66 [(3, .ref (A 4 r)), (0, .ref (A 0 0)), (1, .int (nI r)), (2, .int b)] [] := by
          intro hb
          exact g_throwS hC hR htb (tA (is := 177) (text := "blocks is out of range") (by decide +kernel)) dX4_settle_66 dX4_settle_69 dX4_settle_70 dX4_settle_72 dX4_settle_75 (by decide) (Nat.le_of_ble_eq_true rfl) (by omega) (by omega) (lX_of (by rw [← eT2, if_pos hb]) eA_n)
        refine g_aload_n (q := 43) (i := 0) hC dX4_settle_42 rfl rfl rfl ?_
        refine g_getf (q := 46) (v := .ref (A 5 5)) hC kg_X4_25 dX4_settle_43 (hr.led hW) rfl rfl ?_
        refine g_iload_n (q := 47) (i := 1) hC dX4_settle_46 rfl rfl rfl ?_
        refine g_cr (q := 50) (g_runV hC kv_X4_186 md_Jx4a65c_get_915e3 (c_gt5 _ hC.fl hr r hr9) (ci := 6) rfl hr.l5 dX4_settle_47 (by decide) (by decide) (by omega) (by omega) rfl rfl (Nat.le_of_ble_eq_true rfl)) rfl (fun r σ ⟨e1, e2⟩ => ?_) (fun _ _ h9 => False.elim h9)
        subst e1 e2
        refine g_ccast (q := 53) (ci := 2) hC kc_X4_190 dX4_settle_50 rfl (hr.rsv (by omega)) rfl ?_
        refine g_astore_n (q := 54) (i := 3) hC dX4_settle_53 rfl (by decide) rfl ?_
        refine g_iload_n (q := 55) (i := 2) hC dX4_settle_54 rfl rfl rfl ?_
        refine g_if_lt (tgt := 66) (q := 58) hC dX4_settle_55 (by decide) rfl (fun c_55 => ?_) (fun c_55 => ?_)
        · refine g_sub (lv0 := [(3, .ref (A 4 r)), (0, .ref (A 0 0)), (1, .int (nI r)), (2, .int b)]) ⟨rfl, rfl, rfl, rfl, trivial⟩ ?_
          exact bad2 (Or.inl c_55)
        · refine g_iload_n (q := 59) (i := 2) hC dX4_settle_58 rfl rfl rfl ?_
          refine g_aload_n (q := 60) (i := 3) hC dX4_settle_59 rfl rfl rfl ?_
          refine g_getf (q := 63) (v := .int (ρ.2.1 10 r)) hC kg_X4_209 dX4_settle_60 (hr.rsv (by omega)) rfl rfl ?_
          refine g_icmp_le (tgt := 76) (q := 66) hC dX4_settle_63 (by decide) rfl (fun c_63 => ?_) (fun c_63 => ?_)
          · have ok : ¬ (b < 0 ∨ ρ.2.1 10 r < b) := fun z => z.elim c_55 (Int32.not_lt.mpr c_63)
            rw [if_neg ok] at eT2
            subst eT2
            have h4 := hr.pOpn (r := r) (by omega) false
            have hF4 := gFF.obj (e := oB 2 ((rsvF A ρ r).set 2 (.int (bI false)))) (hr.rsv (r := r) (by omega)) (by decide)
            have hW4 : RW (sB ρ 11 r false) := RW_1 rfl hW
            have hf4 : (sB ρ 11 r false).1 7 r = ρ.1 7 r := rfl
            refine g_aload_n (q := 77) (i := 3) hC dX4_settle_76 rfl rfl rfl ?_
            refine g_iconst (q := 78) (v := (0)) hC dX4_settle_77 rfl rfl ?_
            refine g_putf (q := 81) hC kf_X4_196 dX4_settle_78 (hr.rsv (by omega)) (Nat.le_of_ble_eq_true rfl) rfl rfl rfl ?_
            refine g_eq (σ2 := gUp σ (A 4 r) (oB 2 ((rsvF A ρ r).set 2 (.int (bI false))))) rfl ?_
            generalize gUp σ (A 4 r) (oB 2 ((rsvF A ρ r).set 2 (.int (bI false)))) = σ4 at h4 hF4
            have hr4r : r < (sB ρ 11 r false).1 11 4 := show r < ρ.1 11 4 by omega
            have hf4l : ρ.1 7 r < (sB ρ 11 r false).1 11 3 := hfr
            have h5 := h4.pBlk hf4l (ρ.2.1 9 (ρ.1 7 r) + b)
            have hF5 := hF4.trans (gFF.obj (e := oB 3 ((filF A (sB ρ 11 r false) (ρ.1 7 r)).set 4 (.int (ρ.2.1 9 (ρ.1 7 r) + b)))) (h4.fil hf4l) (by decide))
            have hW5 : RW (sI (sB ρ 11 r false) 9 (ρ.1 7 r) (ρ.2.1 9 (ρ.1 7 r) + b)) := RW_1 rfl hW4
            refine g_aload_n (q := 82) (i := 3) hC dX4_settle_81 rfl rfl rfl ?_
            refine g_getf (q := 85) (v := .ref (A 3 (ρ.1 7 r))) hC kg_X4_192 dX4_settle_82 (h4.rsv hr4r) rfl rfl ?_
            refine g_dup (q := 86) hC dX4_settle_85 rfl rfl ?_
            refine g_getf (q := 89) (v := .int (ρ.2.1 9 (ρ.1 7 r))) hC kg_X4_174 dX4_settle_86 (h4.fil hf4l) rfl rfl ?_
            refine g_iload_n (q := 90) (i := 2) hC dX4_settle_89 rfl rfl rfl ?_
            refine g_iadd (q := 91) hC dX4_settle_90 rfl rfl ?_
            refine g_putf (q := 94) hC kf_X4_174 dX4_settle_91 (h4.fil hf4l) (Nat.le_of_ble_eq_true rfl) rfl rfl rfl ?_
            generalize gUp σ4 (A 3 (ρ.1 7 r)) (oB 3 ((filF A (sB ρ 11 r false) (ρ.1 7 r)).set 4 (.int (ρ.2.1 9 (ρ.1 7 r) + b)))) = σ5 at h5 hF5
            have hr5r : r < (sI (sB ρ 11 r false) 9 (ρ.1 7 r) (ρ.2.1 9 (ρ.1 7 r) + b)).1 11 4 := show r < ρ.1 11 4 by omega
            refine g_aload_n (q := 95) (i := 0) hC dX4_settle_94 rfl rfl rfl ?_
            refine g_aload_n (q := 96) (i := 3) hC dX4_settle_95 rfl rfl rfl ?_
            refine g_getf (q := 99) (v := .ref (A 3 (ρ.1 7 r))) hC kg_X4_192 dX4_settle_96 (h5.rsv hr5r) rfl rfl ?_
            refine g_iload_n (q := 100) (i := 2) hC dX4_settle_99 rfl rfl rfl ?_
            refine g_aload_n (q := 101) (i := 3) hC dX4_settle_100 rfl rfl rfl ?_
            refine g_getf (q := 104) (v := .int (ρ.2.1 10 r)) hC kg_X4_209 dX4_settle_101 (h5.rsv hr5r) rfl rfl ?_
            refine g_isub (q := 105) (v := (b - ρ.2.1 10 r)) hC dX4_settle_104 rfl rfl ?_
            refine g_iconst (q := 106) (v := (0)) hC dX4_settle_105 rfl rfl ?_
            refine g_cv (q := 109) (g_runV hC kv_X4_165 md_X4_charge (c_L_charge _ hC.fl M _ A _ W (ρ.1 7 r) (b - ρ.2.1 10 r) 0 h5 hW5 hfr) (ci := 4) rfl (h5.led hW5) dX4_settle_106 (by decide) (by decide) (by omega) (by omega) rfl rfl (Nat.le_of_ble_eq_true rfl)) rfl (fun σ6 ⟨⟨W6, hr6⟩, hF6⟩ => ?_) (fun _ _ h9 => False.elim h9)
            have hr6 : Raw M σ6 A (stL ρ r (ρ.1 7 r) b) W6 := hr6
            have e61 : (stL ρ r (ρ.1 7 r) b).1 = ρ.1 := chg_1 _ _ _ _
            have hW6 : RW (stL ρ r (ρ.1 7 r) b) := RW_1 e61 hW
            refine g_aload_n (q := 110) (i := 0) hC dX4_settle_109 rfl rfl rfl ?_
            refine g_cv (q := 113) (g_runV hC kv_X4_127 md_X4_noteOverAccounts (c_L_noteOver _ hC.fl M _ A _ W6 hr6 hW6) (ci := 4) rfl (hr6.led hW6) dX4_settle_110 (by decide) (by decide) (by omega) (by omega) rfl rfl (Nat.le_of_ble_eq_true rfl)) rfl (fun σ7 ⟨⟨W7, hr7⟩, hF7⟩ => ?_) (fun _ _ h9 => False.elim h9)
            have e71 : (ntS (stL ρ r (ρ.1 7 r) b)).1 = ρ.1 := (ntS_1 _).trans e61
            have hl7 := hr7.rsv (r := r) (by rw [e71]; omega)
            have hl8 := hr7.fil (f := ρ.1 7 r) (by rw [e71]; exact hfr)
            have el7 : rsvF A (ntS (stL ρ r (ρ.1 7 r) b)) r = [.ref (A 3 (ρ.1 7 r)), .int ((ntS (stL ρ r (ρ.1 7 r) b)).2.1 10 r), .int (bI ((ntS (stL ρ r (ρ.1 7 r) b)).2.2 11 r))] := by unfold rsvF; rw [e71]
            rw [el7] at hl7
            refine g_aload_n (q := 114) (i := 3) hC dX4_settle_113 rfl rfl rfl ?_
            refine g_getf (q := 117) hC kg_X4_192 dX4_settle_114 hl7 rfl rfl ?_
            refine g_getf (q := 120) hC kg_X4_174 dX4_settle_117 hl8 rfl rfl ?_
            exact g_iret hC hR dX4_settle_120 (by omega) (by omega) (⟨_, rfl, rfl, by rw [ntS_c _ (by decide), stL, chg_c _ _ _ _ (by decide)]; exact up2_self _ _ _ _, ⟨A, rfl, W7, hr7⟩, (hF5.trans hF6).trans hF7⟩)
          · refine g_sub (lv0 := [(3, .ref (A 4 r)), (0, .ref (A 0 0)), (1, .int (nI r)), (2, .int b)]) ⟨rfl, rfl, rfl, rfl, trivial⟩ ?_
            exact bad2 (Or.inr (Int32.not_le.mp c_63))
      · exact bad (by rw [lvR, ec, bI_0.mp c_29]; simp)
