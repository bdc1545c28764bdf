/-! ===== the model: what each call answers, refuses and leaves (3) ===== -/
theorem isF_nI {S : gSt} (hB : SB S) {x : Int32} (h : isF S x = true) : ∃ f, f < S.1 0 3 ∧ x = nI f ∧ S.2.2 8 f = false ∧ x.toNatClampNeg = f := by
  have b3 := hB.2.2.1
  obtain ⟨h1, h2⟩ := Bool.and_eq_true_iff.mp h
  obtain ⟨e, hl⟩ := le_pred (by omega) h1
  refine ⟨x.toNatClampNeg, hl, e, ?_, rfl⟩
  cases z : S.2.2 8 x.toNatClampNeg with
  | false => rfl
  | true => rw [z] at h2; cases h2
def mV (M : gMT) (φ : gS) (m : Nat) (ad : Nat → Nat) (T : Int32 × Int32 × gSt) : gS → Prop := fun σ2 => Mod M φ σ2 m ad T.1 T.2.2
def limO (s h f : Int32) : Bool := ((decide (-1 ≤ s) && decide (s ≤ 100000)) && (decide (-1 ≤ h) && decide (h ≤ 100000))) && (decide (-1 ≤ f) && decide (f ≤ 100))
def rf_setLimits (S : gSt) (kd x s h f : Int32) : Int32 := if acct S kd x = none then 1 else if limO s h f = false then 2 else 0
def mo_setLimits (S : gSt) (kd x s h f : Int32) : Int32 × Int32 × gSt := gd (rf_setLimits S kd x s h f) 0 S (0, lkS (sI (sI (sI S 12 ((acct S kd x).getD 0) s) 13 ((acct S kd x).getD 0) h) 14 ((acct S kd x).getD 0) f))
set_option maxRecDepth 100000 in
set_option maxHeartbeats 4000000 in
theorem c_M_setLimits (l : Launch) (hfl : l.stackTraces = false) (M : gMT) (σ : gS) (φ : gS) (m : Nat) (ad : Nat → Nat) (rf kd x s h f : Int32) (S : gSt) (hM : Mod M φ σ m ad rf S) (hB : SB S) : Con l M yX5_setLimits (.code yX5_setLimits cX5_setLimits 8 (Option.none : Option FieldType)) 5 0 0 [.ref m, .int kd, .int x, .int s, .int h, .int f] σ (rV (mV M φ m ad (mo_setLimits S kd x s h f))) (nX) := by
  refine g_con hfl (by decide) (lv := [(0, .ref m), (1, .int kd), (2, .int x), (3, .int s), (4, .int h), (5, .int f)]) rfl rfl (Nat.le_of_ble_eq_true rfl) (fun X hX hC hR htb => ?_)
  have b2 := hB.2.1
  have ha := fun a h => acct_lt hB (kd := kd) (x := x) (a := a) h
  have join : ∀ w v7 : Int32, w = rf_setLimits S kd x s h f → G X M 8 (gQ X M 0 0 (rV (mV M φ m ad (mo_setLimits S kd x s h f))) nX) 0 0 σ 68 [(6, .int (oI (acct S kd x))), (0, .ref m), (1, .int kd), (2, .int x), (3, .int s), (4, .int h), (5, .int f)] [.int w, .ref m] := by
    intro w v7 hw
    refine g_ci (q := 71) (g_runV hC kv_X5_67 md_X5_refused (c_M_refused _ hC.fl M _ φ m ad rf w S hM) (ci := 5) rfl hM.1 dX5_setLimits_68 (by decide) (by decide) (by omega) (by omega) rfl rfl (Nat.le_of_ble_eq_true rfl)) rfl (fun r σ2 ⟨e1, hM2⟩ => ?_) (fun _ _ h9 => False.elim h9)
    subst e1
    refine g_if_ne (tgt := 104) (q := 74) hC dX5_setLimits_71 (by decide) rfl (fun c_71 => ?_) (fun c_71 => ?_)
    · have h1 : ¬ w = 0 := fun z => c_71 (rf0.mpr z)
      exact g_vret hC hR dX5_setLimits_104 (by omega) (by omega) (⟨rfl, by rw [mV, mo_setLimits, ← hw, gd1 h1]; exact hM2⟩)
    · have h0 := rf0.mp c_71
      subst h0
      have h8 : ¬ acct S kd x = none := (rf2 hw).1
      cases h9 : acct S kd x with
      | none => exact absurd h9 h8
      | some a =>
        have ha9 := ha a h9
        have hM3 := hM2.w12 a s
        have hM4 := hM3.w13 a h
        have hM5 := hM4.w14 a f
        refine g_sub (lv0 := [(0, .ref m), (1, .int kd), (2, .int x), (3, .int s), (4, .int h), (5, .int f), (6, .int (nI a))]) ⟨rfl, rfl, rfl, rfl, rfl, rfl, rfl, trivial⟩ ?_
        refine g_aload_n (q := 75) (i := 0) hC dX5_setLimits_74 rfl rfl rfl ?_
        refine g_getf (q := 78) hC kg_X5_49 dX5_setLimits_75 hM2.1 rfl rfl ?_
        refine g_iload (q := 80) (i := 6) hC dX5_setLimits_78 rfl rfl ?_
        refine g_iload_n (q := 81) (i := 3) hC dX5_setLimits_80 rfl rfl rfl ?_
        refine g_iast (q := 82) hC dX5_setLimits_81 hM2.a12 (vp_in_nI (by omega) (by omega)) rfl ?_
        rw [nI_clamp (by omega)]
        refine g_aload_n (q := 83) (i := 0) hC dX5_setLimits_82 rfl rfl rfl ?_
        refine g_getf (q := 86) hC kg_X5_52 dX5_setLimits_83 hM3.1 rfl rfl ?_
        refine g_iload (q := 88) (i := 6) hC dX5_setLimits_86 rfl rfl ?_
        refine g_iload (q := 90) (i := 4) hC dX5_setLimits_88 rfl rfl ?_
        refine g_iast (q := 91) hC dX5_setLimits_90 hM3.a13 (vp_in_nI (by omega) (by omega)) rfl ?_
        rw [nI_clamp (by omega)]
        refine g_aload_n (q := 92) (i := 0) hC dX5_setLimits_91 rfl rfl rfl ?_
        refine g_getf (q := 95) hC kg_X5_55 dX5_setLimits_92 hM4.1 rfl rfl ?_
        refine g_iload (q := 97) (i := 6) hC dX5_setLimits_95 rfl rfl ?_
        refine g_iload (q := 99) (i := 5) hC dX5_setLimits_97 rfl rfl ?_
        refine g_iast (q := 100) hC dX5_setLimits_99 hM4.a14 (vp_in_nI (by omega) (by omega)) rfl ?_
        rw [nI_clamp (by omega)]
        refine g_aload_n (q := 101) (i := 0) hC dX5_setLimits_100 rfl rfl rfl ?_
        refine g_cv (q := 104) (g_runV hC kv_X5_103 md_X5_look (c_M_look _ hC.fl M _ φ m ad 0 _ hM5 hB) (ci := 5) rfl hM5.1 dX5_setLimits_101 (by decide) (by decide) (by omega) (by omega) rfl rfl (Nat.le_of_ble_eq_true rfl)) rfl (fun σ6 hM6 => ?_) (fun _ _ h9 => False.elim h9)
        exact g_vret hC hR dX5_setLimits_104 (by omega) (by omega) (⟨rfl, by rw [mV, mo_setLimits, ← hw, gd0 rfl, h9]; exact hM6⟩)
  have join0 : ∀ v7 : Bool, v7 = limO s h f → G X M 8 (gQ X M 0 0 (rV (mV M φ m ad (mo_setLimits S kd x s h f))) nX) 0 0 σ 45 [(6, .int (oI (acct S kd x))), (0, .ref m), (1, .int kd), (2, .int x), (3, .int s), (4, .int h), (5, .int f)] [.int (bI v7)] := by
    intro v7 hv
    refine g_istore (q := 47) (i := 7) hC dX5_setLimits_45 (by decide) rfl ?_
    refine g_aload_n (q := 48) (i := 0) hC dX5_setLimits_47 rfl rfl rfl ?_
    refine g_iload (q := 50) (i := 6) hC dX5_setLimits_48 rfl rfl ?_
    refine g_iconst (q := 51) (v := (-1)) hC dX5_setLimits_50 rfl rfl ?_
    refine g_icmp_ne (tgt := 58) (q := 54) hC dX5_setLimits_51 (by decide) rfl (fun c_51 => ?_) (fun c_51 => ?_)
    · refine g_iload (q := 60) (i := 7) hC dX5_setLimits_58 rfl rfl ?_
      refine g_if_eq (tgt := 67) (q := 63) hC dX5_setLimits_60 (by decide) rfl (fun c_60 => ?_) (fun c_60 => ?_)
      · refine g_iconst (q := 68) (v := (2)) hC dX5_setLimits_67 rfl rfl ?_
        refine g_sub (lv0 := [(6, .int (oI (acct S kd x))), (0, .ref m), (1, .int kd), (2, .int x), (3, .int s), (4, .int h), (5, .int f)]) ⟨rfl, rfl, rfl, rfl, rfl, rfl, rfl, trivial⟩ ?_
        exact join 2 0 (by rw [rf_setLimits, if_neg (fun z => c_51 (by rw [z]; rfl)), ← hv, if_pos (bI_0.mp c_60)])
      · refine g_iconst (q := 64) (v := (0)) hC dX5_setLimits_63 rfl rfl ?_
        refine g_goto (tgt := 68) hC dX5_setLimits_64 (by decide) ?_
        refine g_sub (lv0 := [(6, .int (oI (acct S kd x))), (0, .ref m), (1, .int kd), (2, .int x), (3, .int s), (4, .int h), (5, .int f)]) ⟨rfl, rfl, rfl, rfl, rfl, rfl, rfl, trivial⟩ ?_
        exact join 0 0 (by rw [rf_setLimits, if_neg (fun z => c_51 (by rw [z]; rfl)), ← hv, if_neg (by rw [bI_n.mp c_60]; decide)])
    · refine g_iconst (q := 55) (v := (1)) hC dX5_setLimits_54 rfl rfl ?_
      refine g_goto (tgt := 68) hC dX5_setLimits_55 (by decide) ?_
      refine g_sub (lv0 := [(6, .int (oI (acct S kd x))), (0, .ref m), (1, .int kd), (2, .int x), (3, .int s), (4, .int h), (5, .int f)]) ⟨rfl, rfl, rfl, rfl, rfl, rfl, rfl, trivial⟩ ?_
      exact join 1 0 (by rw [rf_setLimits, if_pos ((oI_none (fun a h => by have := ha a h; omega)).mp c_51)])
  refine g_aload_n (q := 1) (i := 0) hC dX5_setLimits_0 rfl rfl rfl ?_
  refine g_iload_n (q := 2) (i := 1) hC dX5_setLimits_1 rfl rfl rfl ?_
  refine g_iload_n (q := 3) (i := 2) hC dX5_setLimits_2 rfl rfl rfl ?_
  refine g_ci (q := 6) (g_runV hC kv_X5_142 md_X5_accountOf (c_M_accountOf _ hC.fl M _ φ m ad rf kd x S hM) (ci := 5) rfl hM.1 dX5_setLimits_3 (by decide) (by decide) (by omega) (by omega) rfl rfl (Nat.le_of_ble_eq_true rfl)) rfl (fun r σ ⟨e1, e2⟩ => ?_) (fun _ _ h9 => False.elim h9)
  subst e1 e2
  refine g_istore (q := 8) (i := 6) hC dX5_setLimits_6 (by decide) rfl ?_
  refine g_iload_n (q := 9) (i := 3) hC dX5_setLimits_8 rfl rfl rfl ?_
  refine g_iconst (q := 10) (v := (-1)) hC dX5_setLimits_9 rfl rfl ?_
  refine g_ldc (q := 12) hC kk_X5_145 dX5_setLimits_10 rfl ?_
  refine g_ci (q := 15) (g_runS hC ks_X5_78 md_X5_in (c_M_in _ hC.fl M _ s (-1) 100000) dX5_setLimits_12 (by decide) (by decide) (by omega) (by omega) rfl rfl (Nat.le_of_ble_eq_true rfl)) rfl (fun r σ ⟨e1, e2⟩ => ?_) (fun _ _ h9 => False.elim h9)
  subst e1 e2
  refine g_if_eq (tgt := 44) (q := 18) hC dX5_setLimits_15 (by decide) rfl (fun c_15 => ?_) (fun c_15 => ?_)
  · refine g_iconst (q := 45) (v := (0)) hC dX5_setLimits_44 rfl rfl ?_
    exact join0 false (by rw [limO, bI_0.mp c_15]; rfl)
  · have g1 := bI_n.mp c_15
    refine g_iload (q := 20) (i := 4) hC dX5_setLimits_18 rfl rfl ?_
    refine g_iconst (q := 21) (v := (-1)) hC dX5_setLimits_20 rfl rfl ?_
    refine g_ldc (q := 23) hC kk_X5_145 dX5_setLimits_21 rfl ?_
    refine g_ci (q := 26) (g_runS hC ks_X5_78 md_X5_in (c_M_in _ hC.fl M _ h (-1) 100000) dX5_setLimits_23 (by decide) (by decide) (by omega) (by omega) rfl rfl (Nat.le_of_ble_eq_true rfl)) rfl (fun r σ ⟨e1, e2⟩ => ?_) (fun _ _ h9 => False.elim h9)
    subst e1 e2
    refine g_if_eq (tgt := 44) (q := 29) hC dX5_setLimits_26 (by decide) rfl (fun c_26 => ?_) (fun c_26 => ?_)
    · refine g_iconst (q := 45) (v := (0)) hC dX5_setLimits_44 rfl rfl ?_
      exact join0 false (by rw [limO, g1, bI_0.mp c_26]; rfl)
    · have g2 := bI_n.mp c_26
      refine g_iload (q := 31) (i := 5) hC dX5_setLimits_29 rfl rfl ?_
      refine g_iconst (q := 32) (v := (-1)) hC dX5_setLimits_31 rfl rfl ?_
      refine g_bipush (q := 34) (v := (100)) hC dX5_setLimits_32 rfl rfl ?_
      refine g_ci (q := 37) (g_runS hC ks_X5_78 md_X5_in (c_M_in _ hC.fl M _ f (-1) 100) dX5_setLimits_34 (by decide) (by decide) (by omega) (by omega) rfl rfl (Nat.le_of_ble_eq_true rfl)) rfl (fun r σ ⟨e1, e2⟩ => ?_) (fun _ _ h9 => False.elim h9)
      subst e1 e2
      refine g_if_eq (tgt := 44) (q := 40) hC dX5_setLimits_37 (by decide) rfl (fun c_37 => ?_) (fun c_37 => ?_)
      · refine g_iconst (q := 45) (v := (0)) hC dX5_setLimits_44 rfl rfl ?_
        exact join0 false (by rw [limO, g1, g2, bI_0.mp c_37]; rfl)
      · refine g_iconst (q := 41) (v := (1)) hC dX5_setLimits_40 rfl rfl ?_
        refine g_goto (tgt := 45) hC dX5_setLimits_41 (by decide) ?_
        exact join0 true (by rw [limO, g1, g2, bI_n.mp c_37]; rfl)
def may (S : gSt) (f : Nat) (b : Int32) : Bool := (decide (-1000 ≤ b) && decide (b ≤ 1000)) && decide (0 ≤ S.2.1 7 f + b)
def rf_write (S : gSt) (x b : Int32) : Int32 := if isF S x = false then 1 else if may S x.toNatClampNeg b = false then 2 else 0
def br2 (S : gSt) (o : Option Nat) (T : Int32 × gSt) : Int32 × gSt := match o with
  | some j => (-2 - nI j, S)
  | none => T
def mo_write (S : gSt) (x b : Int32) : Int32 × Int32 × gSt := gd (rf_write S x b) 0 S (br2 S (brr S (S.1 5 x.toNatClampNeg) (S.1 6 x.toNatClampNeg) b 0 12 0) (S.2.1 7 x.toNatClampNeg + b, lkS (sI S 7 x.toNatClampNeg (S.2.1 7 x.toNatClampNeg + b))))
theorem brr_lt {S : gSt} {o p : Nat} {b mr : Int32} : ∀ d j k, brr S o p b mr d j = some k → j ≤ k ∧ k < j + d := by
  intro d
  induction d with
  | zero => intro j k h; cases h
  | succ d ih =>
    intro j k h
    unfold brr at h
    split at h
    · cases h
    · split at h
      · cases h
        omega
      · have := ih (j + 1) k h
        omega
theorem brr_n {S : gSt} {o p : Nat} {b mr : Int32} : oI (brr S o p b mr 12 0) = -1 ↔ brr S o p b mr 12 0 = none := oI_none (fun a h => by have := brr_lt 12 0 a h; omega)
set_option maxRecDepth 100000 in
set_option maxHeartbeats 4000000 in
theorem c_M_write (l : Launch) (hfl : l.stackTraces = false) (M : gMT) (σ : gS) (φ : gS) (m : Nat) (ad : Nat → Nat) (rf x b : Int32) (S : gSt) (hM : Mod M φ σ m ad rf S) (hB : SB S) : Con l M yX5_write (.code yX5_write cX5_write 5 (Option.some FieldType.int)) 5 0 0 [.ref m, .int x, .int b] σ (rI (mP M φ m ad (mo_write S x b))) (nX) := by
  refine g_con hfl (by decide) (lv := [(0, .ref m), (1, .int x), (2, .int b)]) rfl rfl (Nat.le_of_ble_eq_true rfl) (fun X hX hC hR htb => ?_)
  have b3 := hB.2.2.1
  have b7 := hB.2.2.2.2.2.2.1
  have join : ∀ w : Int32, w = rf_write S x b → G X M 5 (gQ X M 0 0 (rI (mP M φ m ad (mo_write S x b))) nX) 0 0 σ 60 [(0, .ref m), (1, .int x), (2, .int b)] [.int w, .ref m] := by
    intro w hw
    refine g_ci (q := 63) (g_runV hC kv_X5_67 md_X5_refused (c_M_refused _ hC.fl M _ φ m ad rf w S hM) (ci := 5) rfl hM.1 dX5_write_60 (by decide) (by decide) (by omega) (by omega) rfl rfl (Nat.le_of_ble_eq_true rfl)) rfl (fun r σ2 ⟨e1, hM2⟩ => ?_) (fun _ _ h9 => False.elim h9)
    subst e1
    refine g_if_eq (tgt := 68) (q := 66) hC dX5_write_63 (by decide) rfl (fun c_63 => ?_) (fun c_63 => ?_)
    · have h0 := rf0.mp c_63
      subst h0
      have h8 : ¬ isF S x = false := (rf2 hw).1
      obtain ⟨f, hf, ex, -, ec⟩ := isF_nI hB (Bool.not_eq_false _ ▸ h8)
      obtain ⟨ho, hp⟩ := b7 f hf
      have eT : mo_write S x b = (0, (br2 S (brr S (S.1 5 f) (S.1 6 f) b 0 12 0) (S.2.1 7 f + b, lkS (sI S 7 f (S.2.1 7 f + b)))).1, (br2 S (brr S (S.1 5 f) (S.1 6 f) b 0 12 0) (S.2.1 7 f + b, lkS (sI S 7 f (S.2.1 7 f + b)))).2) := by
        rw [mo_write, ← hw, gd0 rfl, ec]
      rw [eT]
      clear eT hw
      subst ex
      refine g_aload_n (q := 69) (i := 0) hC dX5_write_68 rfl rfl rfl ?_
      refine g_aload_n (q := 70) (i := 0) hC dX5_write_69 rfl rfl rfl ?_
      refine g_getf (q := 73) hC kg_X5_27 dX5_write_70 hM2.1 rfl rfl ?_
      refine g_iload_n (q := 74) (i := 1) hC dX5_write_73 rfl rfl rfl ?_
      refine g_iald (q := 75) (v := nI (S.1 5 f)) hC dX5_write_74 hM2.a5 (vp_in_nI (by omega) (by omega)) (by rw [nI_clamp (by omega)]) rfl ?_
      refine g_aload_n (q := 76) (i := 0) hC dX5_write_75 rfl rfl rfl ?_
      refine g_getf (q := 79) hC kg_X5_30 dX5_write_76 hM2.1 rfl rfl ?_
      refine g_iload_n (q := 80) (i := 1) hC dX5_write_79 rfl rfl rfl ?_
      refine g_iald (q := 81) (v := nI (S.1 6 f)) hC dX5_write_80 hM2.a6 (vp_in_nI (by omega) (by omega)) (by rw [nI_clamp (by omega)]) rfl ?_
      refine g_iload_n (q := 82) (i := 2) hC dX5_write_81 rfl rfl rfl ?_
      refine g_iconst (q := 83) (v := (0)) hC dX5_write_82 rfl rfl ?_
      refine g_ci (q := 86) (g_runV hC kv_X5_135 md_X5_barring (c_M_barring _ hC.fl M _ φ m (S.1 5 f) (S.1 6 f) ad 0 b 0 S hM2 hB ho hp) (ci := 5) rfl hM2.1 dX5_write_83 (by decide) (by decide) (by omega) (by omega) rfl rfl (Nat.le_of_ble_eq_true rfl)) rfl (fun r σ ⟨e1, e2⟩ => ?_) (fun _ _ h9 => False.elim h9)
      subst e1 e2
      refine g_istore (q := 88) (i := 4) hC dX5_write_86 (by decide) rfl ?_
      refine g_iload (q := 90) (i := 4) hC dX5_write_88 rfl rfl ?_
      refine g_iconst (q := 91) (v := (-1)) hC dX5_write_90 rfl rfl ?_
      refine g_icmp_eq (tgt := 100) (q := 94) hC dX5_write_91 (by decide) rfl (fun c_91 => ?_) (fun c_91 => ?_)
      · have e9 := brr_n.mp c_91
        have hM3 := hM2.w7 f (S.2.1 7 f + b)
        refine g_aload_n (q := 101) (i := 0) hC dX5_write_100 rfl rfl rfl ?_
        refine g_getf (q := 104) hC kg_X5_33 dX5_write_101 hM2.1 rfl rfl ?_
        refine g_iload_n (q := 105) (i := 1) hC dX5_write_104 rfl rfl rfl ?_
        refine g_dup2 (q := 106) hC dX5_write_105 rfl rfl rfl ?_
        refine g_iald (q := 107) (v := S.2.1 7 f) hC dX5_write_106 hM2.a7 (vp_in_nI (by omega) (by omega)) (by rw [nI_clamp (by omega)]) rfl ?_
        refine g_iload_n (q := 108) (i := 2) hC dX5_write_107 rfl rfl rfl ?_
        refine g_iadd (q := 109) hC dX5_write_108 rfl rfl ?_
        refine g_iast (q := 110) hC dX5_write_109 hM2.a7 (vp_in_nI (by omega) (by omega)) rfl ?_
        rw [nI_clamp (by omega)]
        refine g_aload_n (q := 111) (i := 0) hC dX5_write_110 rfl rfl rfl ?_
        refine g_cv (q := 114) (g_runV hC kv_X5_103 md_X5_look (c_M_look _ hC.fl M _ φ m ad 0 _ hM3 hB) (ci := 5) rfl hM3.1 dX5_write_111 (by decide) (by decide) (by omega) (by omega) rfl rfl (Nat.le_of_ble_eq_true rfl)) rfl (fun σ6 hM6 => ?_) (fun _ _ h9 => False.elim h9)
        refine g_aload_n (q := 115) (i := 0) hC dX5_write_114 rfl rfl rfl ?_
        refine g_getf (q := 118) hC kg_X5_33 dX5_write_115 hM6.1 rfl rfl ?_
        refine g_iload_n (q := 119) (i := 1) hC dX5_write_118 rfl rfl rfl ?_
        refine g_iald (q := 120) (v := (lkS (sI S 7 f (S.2.1 7 f + b))).2.1 7 f) hC dX5_write_119 hM6.a7 (vp_in_nI (by omega) (by omega)) (by rw [nI_clamp (by omega)]) rfl ?_
        exact g_iret hC hR dX5_write_120 (by omega) (by omega) (⟨_, rfl, by rw [e9]; exact ⟨by show (lkS _).2.1 7 f = S.2.1 7 f + b; rw [lkS, lk_col _ _ (by decide)]; exact up2_self _ _ _ _, hM6⟩⟩)
      · cases e9 : brr S (S.1 5 f) (S.1 6 f) b 0 12 0 with
        | none => exact absurd (by rw [e9]; rfl) c_91
        | some j =>
          refine g_bipush (q := 96) (v := (-2)) hC dX5_write_94 rfl rfl ?_
          refine g_iload (q := 98) (i := 4) hC dX5_write_96 rfl rfl ?_
          refine g_isub (q := 99) hC dX5_write_98 rfl rfl ?_
          exact g_iret hC hR dX5_write_99 (by omega) (by omega) (⟨_, rfl, ⟨rfl, hM2⟩⟩)
    · have h1 : ¬ w = 0 := fun z => c_63 (rf0.mpr z)
      refine g_iconst (q := 67) (v := (0)) hC dX5_write_66 rfl rfl ?_
      exact g_iret hC hR dX5_write_67 (by omega) (by omega) (⟨_, rfl, by rw [mo_write, ← hw, gd1 h1]; exact ⟨rfl, hM2⟩⟩)
  have join0 : ∀ v3 : Bool, (isF S x = true → v3 = may S x.toNatClampNeg b) → G X M 5 (gQ X M 0 0 (rI (mP M φ m ad (mo_write S x b))) nX) 0 0 σ 37 [(0, .ref m), (1, .int x), (2, .int b)] [.int (bI v3)] := by
    intro v3 hv
    refine g_istore_n (q := 38) (i := 3) hC dX5_write_37 rfl (by decide) rfl ?_
    refine g_aload_n (q := 39) (i := 0) hC dX5_write_38 rfl rfl rfl ?_
    refine g_aload_n (q := 40) (i := 0) hC dX5_write_39 rfl rfl rfl ?_
    refine g_iload_n (q := 41) (i := 1) hC dX5_write_40 rfl rfl rfl ?_
    refine g_ci (q := 44) (g_runV hC kv_X5_139 md_X5_isFile (c_M_isFile _ hC.fl M _ φ m ad rf x S hM hB) (ci := 5) rfl hM.1 dX5_write_41 (by decide) (by decide) (by omega) (by omega) rfl rfl (Nat.le_of_ble_eq_true rfl)) rfl (fun r σ ⟨e1, e2⟩ => ?_) (fun _ _ h9 => False.elim h9)
    subst e1 e2
    refine g_if_ne (tgt := 51) (q := 47) hC dX5_write_44 (by decide) rfl (fun c_44 => ?_) (fun c_44 => ?_)
    · have e1 := bI_n.mp c_44
      refine g_iload_n (q := 52) (i := 3) hC dX5_write_51 rfl rfl rfl ?_
      refine g_if_eq (tgt := 59) (q := 55) hC dX5_write_52 (by decide) rfl (fun c_52 => ?_) (fun c_52 => ?_)
      · refine g_iconst (q := 60) (v := (2)) hC dX5_write_59 rfl rfl ?_
        refine g_sub (lv0 := [(0, .ref m), (1, .int x), (2, .int b)]) ⟨rfl, rfl, rfl, trivial⟩ ?_
        exact join 2 (by rw [rf_write, if_neg (by rw [e1]; decide), ← hv e1, if_pos (bI_0.mp c_52)])
      · refine g_iconst (q := 56) (v := (0)) hC dX5_write_55 rfl rfl ?_
        refine g_goto (tgt := 60) hC dX5_write_56 (by decide) ?_
        refine g_sub (lv0 := [(0, .ref m), (1, .int x), (2, .int b)]) ⟨rfl, rfl, rfl, trivial⟩ ?_
        exact join 0 (by rw [rf_write, if_neg (by rw [e1]; decide), ← hv e1, if_neg (by rw [bI_n.mp c_52]; decide)])
    · refine g_iconst (q := 48) (v := (1)) hC dX5_write_47 rfl rfl ?_
      refine g_goto (tgt := 60) hC dX5_write_48 (by decide) ?_
      refine g_sub (lv0 := [(0, .ref m), (1, .int x), (2, .int b)]) ⟨rfl, rfl, rfl, trivial⟩ ?_
      exact join 1 (by rw [rf_write, if_pos (bI_0.mp c_44)])
  refine g_aload_n (q := 1) (i := 0) hC dX5_write_0 rfl rfl rfl ?_
  refine g_iload_n (q := 2) (i := 1) hC dX5_write_1 rfl rfl rfl ?_
  refine g_ci (q := 5) (g_runV hC kv_X5_139 md_X5_isFile (c_M_isFile _ hC.fl M _ φ m ad rf x S hM hB) (ci := 5) rfl hM.1 dX5_write_2 (by decide) (by decide) (by omega) (by omega) rfl rfl (Nat.le_of_ble_eq_true rfl)) rfl (fun r σ ⟨e1, e2⟩ => ?_) (fun _ _ h9 => False.elim h9)
  subst e1 e2
  refine g_if_eq (tgt := 36) (q := 8) hC dX5_write_5 (by decide) rfl (fun c_5 => ?_) (fun c_5 => ?_)
  · have e1 := bI_0.mp c_5
    refine g_iconst (q := 37) (v := (0)) hC dX5_write_36 rfl rfl ?_
    exact join0 false (fun z => by rw [e1] at z; cases z)
  · have e1 := bI_n.mp c_5
    obtain ⟨f, hf, ex, -, ec⟩ := isF_nI hB e1
    refine g_iload_n (q := 9) (i := 2) hC dX5_write_8 rfl rfl rfl ?_
    refine g_sipush (q := 12) (v := (-1000)) hC dX5_write_9 rfl rfl ?_
    refine g_sipush (q := 15) (v := (1000)) hC dX5_write_12 rfl rfl ?_
    refine g_ci (q := 18) (g_runS hC ks_X5_78 md_X5_in (c_M_in _ hC.fl M _ b (-1000) 1000) dX5_write_15 (by decide) (by decide) (by omega) (by omega) rfl rfl (Nat.le_of_ble_eq_true rfl)) rfl (fun r σ ⟨e3, e2⟩ => ?_) (fun _ _ h9 => False.elim h9)
    subst e3 e2
    refine g_if_eq (tgt := 36) (q := 21) hC dX5_write_18 (by decide) rfl (fun c_18 => ?_) (fun c_18 => ?_)
    · refine g_iconst (q := 37) (v := (0)) hC dX5_write_36 rfl rfl ?_
      exact join0 false (fun z => by rw [may, bI_0.mp c_18]; rfl)
    · have g1 := bI_n.mp c_18
      rw [ec] at join0
      subst ex
      refine g_aload_n (q := 22) (i := 0) hC dX5_write_21 rfl rfl rfl ?_
      refine g_getf (q := 25) hC kg_X5_33 dX5_write_22 hM.1 rfl rfl ?_
      refine g_iload_n (q := 26) (i := 1) hC dX5_write_25 rfl rfl rfl ?_
      refine g_iald (q := 27) (v := S.2.1 7 f) hC dX5_write_26 hM.a7 (vp_in_nI (by omega) (by omega)) (by rw [nI_clamp (by omega)]) rfl ?_
      refine g_iload_n (q := 28) (i := 2) hC dX5_write_27 rfl rfl rfl ?_
      refine g_iadd (q := 29) hC dX5_write_28 rfl rfl ?_
      refine g_if_lt (tgt := 36) (q := 32) hC dX5_write_29 (by decide) rfl (fun c_29 => ?_) (fun c_29 => ?_)
      · refine g_iconst (q := 37) (v := (0)) hC dX5_write_36 rfl rfl ?_
        exact join0 false (fun z => by rw [may, g1, decide_eq_false (Int32.not_le.mpr c_29)]; rfl)
      · refine g_iconst (q := 33) (v := (1)) hC dX5_write_32 rfl rfl ?_
        refine g_goto (tgt := 37) hC dX5_write_33 (by decide) ?_
        exact join0 true (fun z => by rw [may, g1, decide_eq_true (Int32.not_lt.mp c_29)]; rfl)
