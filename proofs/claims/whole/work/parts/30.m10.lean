/-! ===== the model: what each call answers, refuses and leaves (4) ===== -/
def rf_makeFile (S : gSt) (u x : Int32) : Int32 := if ((decide (0 ≤ u) && decide (u ≤ 5)) && isP S x) = false then 1 else if S.1 0 3 = 40 then 2 else 0
def mo_makeFile (S : gSt) (u x : Int32) : Int32 × Int32 × gSt := gd (rf_makeFile S u x) 0 S (br2 S (brr S u.toNatClampNeg x.toNatClampNeg 0 1 12 0) (nI (S.1 0 3), sN (sN (sN S 5 (S.1 0 3) u.toNatClampNeg) 6 (S.1 0 3) x.toNatClampNeg) 0 3 (S.1 0 3 + 1)))
set_option maxRecDepth 100000 in
set_option maxHeartbeats 4000000 in
theorem c_M_makeFile (l : Launch) (hfl : l.stackTraces = false) (M : gMT) (σ : gS) (φ : gS) (m : Nat) (ad : Nat → Nat) (rf u x : Int32) (S : gSt) (hM : Mod M φ σ m ad rf S) (hB : SB S) : Con l M yX5_makeFile (.code yX5_makeFile cX5_makeFile 5 (Option.some FieldType.int)) 5 0 0 [.ref m, .int u, .int x] σ (rI (mP M φ m ad (mo_makeFile S u x))) (nX) := by
  refine g_con hfl (by decide) (lv := [(0, .ref m), (1, .int u), (2, .int x)]) rfl rfl (Nat.le_of_ble_eq_true rfl) (fun X hX hC hR htb => ?_)
  have b3 := hB.2.2.1
  have join : ∀ w : Int32, w = rf_makeFile S u x → G X M 5 (gQ X M 0 0 (rI (mP M φ m ad (mo_makeFile S u x))) nX) 0 0 σ 46 [(0, .ref m), (1, .int u), (2, .int x)] [.int w, .ref m] := by
    intro w hw
    refine g_ci (q := 49) (g_runV hC kv_X5_67 md_X5_refused (c_M_refused _ hC.fl M _ φ m ad rf w S hM) (ci := 5) rfl hM.1 dX5_makeFile_46 (by decide) (by decide) (by omega) (by omega) rfl rfl (Nat.le_of_ble_eq_true rfl)) rfl (fun r σ2 ⟨e1, hM2⟩ => ?_) (fun _ _ h9 => False.elim h9)
    subst e1
    refine g_if_eq (tgt := 54) (q := 52) hC dX5_makeFile_49 (by decide) rfl (fun c_49 => ?_) (fun c_49 => ?_)
    · have h0 := rf0.mp c_49
      subst h0
      obtain ⟨h8, h9⟩ := rf2 hw
      have h8 : ((decide (0 ≤ u) && decide (u ≤ 5)) && isP S x) = true := Bool.not_eq_false _ ▸ h8
      obtain ⟨g1, g2⟩ := Bool.and_eq_true_iff.mp h8
      obtain ⟨g3, g4⟩ := Bool.and_eq_true_iff.mp g1
      obtain ⟨p, hp, ex⟩ := isP_nI hB g2
      have eu := nonneg_nI (of_decide_eq_true g3)
      have hu : u.toNatClampNeg < 6 := by
        have h6 : u.toNatClampNeg = u.toInt.toNat := rfl
        have h7 := Int32.le_iff_toInt_le.mp (of_decide_eq_true g4)
        have : (5 : Int32).toInt = 5 := by decide
        omega
      have b2 := hB.2.1
      generalize hj : u.toNatClampNeg = o at *
      have ec : x.toNatClampNeg = p := by rw [ex, nI_clamp (by omega)]
      have eT : mo_makeFile S u x = (0, (br2 S (brr S o p 0 1 12 0) (nI (S.1 0 3), sN (sN (sN S 5 (S.1 0 3) o) 6 (S.1 0 3) p) 0 3 (S.1 0 3 + 1))).1, (br2 S (brr S o p 0 1 12 0) (nI (S.1 0 3), sN (sN (sN S 5 (S.1 0 3) o) 6 (S.1 0 3) p) 0 3 (S.1 0 3 + 1))).2) := by
        rw [mo_makeFile, ← hw, gd0 rfl, ec, hj]
      rw [eT]
      clear eT hw
      subst ex
      subst eu
      refine g_aload_n (q := 55) (i := 0) hC dX5_makeFile_54 rfl rfl rfl ?_
      refine g_iload_n (q := 56) (i := 1) hC dX5_makeFile_55 rfl rfl rfl ?_
      refine g_iload_n (q := 57) (i := 2) hC dX5_makeFile_56 rfl rfl rfl ?_
      refine g_iconst (q := 58) (v := (0)) hC dX5_makeFile_57 rfl rfl ?_
      refine g_iconst (q := 59) (v := (1)) hC dX5_makeFile_58 rfl rfl ?_
      refine g_ci (q := 62) (g_runV hC kv_X5_135 md_X5_barring (c_M_barring _ hC.fl M _ φ m o p ad 0 0 1 S hM2 hB hu hp) (ci := 5) rfl hM2.1 dX5_makeFile_59 (by decide) (by decide) (by omega) (by omega) rfl rfl (Nat.le_of_ble_eq_true rfl)) rfl (fun r σ ⟨e1, e2⟩ => ?_) (fun _ _ h9 => False.elim h9)
      subst e1 e2
      refine g_istore (q := 64) (i := 4) hC dX5_makeFile_62 (by decide) rfl ?_
      refine g_iload (q := 66) (i := 4) hC dX5_makeFile_64 rfl rfl ?_
      refine g_iconst (q := 67) (v := (-1)) hC dX5_makeFile_66 rfl rfl ?_
      refine g_icmp_eq (tgt := 76) (q := 70) hC dX5_makeFile_67 (by decide) rfl (fun c_67 => ?_) (fun c_67 => ?_)
      · have e9 := brr_n.mp c_67
        have hM3 := hM2.w5 (S.1 0 3) o
        have hM4 := hM3.w6 (S.1 0 3) p
        have hM5 := hM4.s8 (S.1 0 3 + 1)
        refine g_aload_n (q := 77) (i := 0) hC dX5_makeFile_76 rfl rfl rfl ?_
        refine g_getf (q := 80) hC kg_X5_27 dX5_makeFile_77 hM2.1 rfl rfl ?_
        refine g_aload_n (q := 81) (i := 0) hC dX5_makeFile_80 rfl rfl rfl ?_
        refine g_getf (q := 84) (v := .int (nI (S.1 0 3))) hC kg_X5_115 dX5_makeFile_81 hM2.1 rfl rfl ?_
        refine g_iload_n (q := 85) (i := 1) hC dX5_makeFile_84 rfl rfl rfl ?_
        refine g_iast (q := 86) hC dX5_makeFile_85 hM2.a5 (vp_in_nI (by omega) (by omega)) rfl ?_
        rw [nI_clamp (by omega)]
        refine g_aload_n (q := 87) (i := 0) hC dX5_makeFile_86 rfl rfl rfl ?_
        refine g_getf (q := 90) hC kg_X5_30 dX5_makeFile_87 hM3.1 rfl rfl ?_
        refine g_aload_n (q := 91) (i := 0) hC dX5_makeFile_90 rfl rfl rfl ?_
        refine g_getf (q := 94) (v := .int (nI (S.1 0 3))) hC kg_X5_115 dX5_makeFile_91 hM3.1 rfl rfl ?_
        refine g_iload_n (q := 95) (i := 2) hC dX5_makeFile_94 rfl rfl rfl ?_
        refine g_iast (q := 96) hC dX5_makeFile_95 hM3.a6 (vp_in_nI (by omega) (by omega)) rfl ?_
        rw [nI_clamp (by omega)]
        refine g_aload_n (q := 97) (i := 0) hC dX5_makeFile_96 rfl rfl rfl ?_
        refine g_dup (q := 98) hC dX5_makeFile_97 rfl rfl ?_
        refine g_getf (q := 101) (v := .int (nI (S.1 0 3))) hC kg_X5_115 dX5_makeFile_98 hM4.1 rfl rfl ?_
        refine g_iconst (q := 102) (v := nI 1) hC dX5_makeFile_101 rfl rfl ?_
        refine g_iadd (q := 103) (v := (nI ((S.1 0 3) + 1))) hC dX5_makeFile_102 (nI_add _ _) rfl ?_
        refine g_putf (q := 106) hC kf_X5_115 dX5_makeFile_103 hM4.1 (Nat.le_of_ble_eq_true rfl) rfl rfl rfl ?_
        refine g_aload_n (q := 107) (i := 0) hC dX5_makeFile_106 rfl rfl rfl ?_
        refine g_getf (q := 110) (v := .int (nI ((sN (sN (sN S 5 (S.1 0 3) o) 6 (S.1 0 3) p) 0 3 (S.1 0 3 + 1)).1 0 3))) hC kg_X5_115 dX5_makeFile_107 hM5.1 rfl rfl ?_
        refine g_iconst (q := 111) (v := nI 1) hC dX5_makeFile_110 rfl rfl ?_
        refine g_isub (q := 112) (v := (nI (((sN (sN (sN S 5 (S.1 0 3) o) 6 (S.1 0 3) p) 0 3 (S.1 0 3 + 1)).1 0 3) - 1))) hC dX5_makeFile_111 (pk_sub (Nat.le_add_left _ _)) rfl ?_
        exact g_iret hC hR dX5_makeFile_112 (by omega) (by omega) (⟨_, rfl, by rw [e9]; exact ⟨rfl, hM5⟩⟩)
      · cases e9 : brr S o p 0 1 12 0 with
        | none => exact absurd (by rw [e9]; rfl) c_67
        | some j =>
          refine g_bipush (q := 72) (v := (-2)) hC dX5_makeFile_70 rfl rfl ?_
          refine g_iload (q := 74) (i := 4) hC dX5_makeFile_72 rfl rfl ?_
          refine g_isub (q := 75) hC dX5_makeFile_74 rfl rfl ?_
          exact g_iret hC hR dX5_makeFile_75 (by omega) (by omega) (⟨_, rfl, ⟨rfl, hM2⟩⟩)
    · have h1 : ¬ w = 0 := fun z => c_49 (rf0.mpr z)
      refine g_iconst (q := 53) (v := (0)) hC dX5_makeFile_52 rfl rfl ?_
      exact g_iret hC hR dX5_makeFile_53 (by omega) (by omega) (⟨_, rfl, by rw [mo_makeFile, ← hw, gd1 h1]; exact ⟨rfl, hM2⟩⟩)
  have join0 : ∀ v3 : Bool, v3 = ((decide (0 ≤ u) && decide (u ≤ 5)) && isP S x) → G X M 5 (gQ X M 0 0 (rI (mP M φ m ad (mo_makeFile S u x))) nX) 0 0 σ 22 [(0, .ref m), (1, .int u), (2, .int x)] [.int (bI v3)] := by
    intro v3 hv
    refine g_istore_n (q := 23) (i := 3) hC dX5_makeFile_22 rfl (by decide) rfl ?_
    refine g_aload_n (q := 24) (i := 0) hC dX5_makeFile_23 rfl rfl rfl ?_
    refine g_iload_n (q := 25) (i := 3) hC dX5_makeFile_24 rfl rfl rfl ?_
    refine g_if_ne (tgt := 32) (q := 28) hC dX5_makeFile_25 (by decide) rfl (fun c_25 => ?_) (fun c_25 => ?_)
    · refine g_aload_n (q := 33) (i := 0) hC dX5_makeFile_32 rfl rfl rfl ?_
      refine g_getf (q := 36) (v := .int (nI (S.1 0 3))) hC kg_X5_115 dX5_makeFile_33 hM.1 rfl rfl ?_
      refine g_bipush (q := 38) (v := nI 40) hC dX5_makeFile_36 rfl rfl ?_
      refine g_icmp_ne (tgt := 45) (q := 41) hC dX5_makeFile_38 (by decide) rfl (fun c_38 => ?_) (fun c_38 => ?_)
      · refine g_iconst (q := 46) (v := (0)) hC dX5_makeFile_45 rfl rfl ?_
        refine g_sub (lv0 := [(0, .ref m), (1, .int u), (2, .int x)]) ⟨rfl, rfl, rfl, trivial⟩ ?_
        exact join 0 (by rw [rf_makeFile, ← hv, if_neg (by rw [bI_n.mp c_25]; decide), if_neg (fun z => c_38 (by rw [z]))])
      · refine g_iconst (q := 42) (v := (2)) hC dX5_makeFile_41 rfl rfl ?_
        refine g_goto (tgt := 46) hC dX5_makeFile_42 (by decide) ?_
        refine g_sub (lv0 := [(0, .ref m), (1, .int u), (2, .int x)]) ⟨rfl, rfl, rfl, trivial⟩ ?_
        exact join 2 (by rw [rf_makeFile, ← hv, if_neg (by rw [bI_n.mp c_25]; decide), if_pos ((nI_eq (by omega) (by omega)).mp c_38)])
    · refine g_iconst (q := 29) (v := (1)) hC dX5_makeFile_28 rfl rfl ?_
      refine g_goto (tgt := 46) hC dX5_makeFile_29 (by decide) ?_
      refine g_sub (lv0 := [(0, .ref m), (1, .int u), (2, .int x)]) ⟨rfl, rfl, rfl, trivial⟩ ?_
      exact join 1 (by rw [rf_makeFile, ← hv, if_pos (bI_0.mp c_25)])
  refine g_iload_n (q := 1) (i := 1) hC dX5_makeFile_0 rfl rfl rfl ?_
  refine g_iconst (q := 2) (v := (0)) hC dX5_makeFile_1 rfl rfl ?_
  refine g_iconst (q := 3) (v := (5)) hC dX5_makeFile_2 rfl rfl ?_
  refine g_ci (q := 6) (g_runS hC ks_X5_78 md_X5_in (c_M_in _ hC.fl M _ u 0 5) dX5_makeFile_3 (by decide) (by decide) (by omega) (by omega) rfl rfl (Nat.le_of_ble_eq_true rfl)) rfl (fun r σ ⟨e1, e2⟩ => ?_) (fun _ _ h9 => False.elim h9)
  subst e1 e2
  refine g_if_eq (tgt := 21) (q := 9) hC dX5_makeFile_6 (by decide) rfl (fun c_6 => ?_) (fun c_6 => ?_)
  · refine g_iconst (q := 22) (v := (0)) hC dX5_makeFile_21 rfl rfl ?_
    exact join0 false (by rw [bI_0.mp c_6]; rfl)
  · have g1 := bI_n.mp c_6
    refine g_aload_n (q := 10) (i := 0) hC dX5_makeFile_9 rfl rfl rfl ?_
    refine g_iload_n (q := 11) (i := 2) hC dX5_makeFile_10 rfl rfl rfl ?_
    refine g_ci (q := 14) (g_runV hC kv_X5_93 md_X5_isProject (c_M_isProject _ hC.fl M _ φ m ad rf x S hM) (ci := 5) rfl hM.1 dX5_makeFile_11 (by decide) (by decide) (by omega) (by omega) rfl rfl (Nat.le_of_ble_eq_true rfl)) rfl (fun r σ ⟨e1, e2⟩ => ?_) (fun _ _ h9 => False.elim h9)
    subst e1 e2
    refine g_if_eq (tgt := 21) (q := 17) hC dX5_makeFile_14 (by decide) rfl (fun c_14 => ?_) (fun c_14 => ?_)
    · have g2 : isP S x = false := bI_0.mp c_14
      refine g_iconst (q := 22) (v := (0)) hC dX5_makeFile_21 rfl rfl ?_
      exact join0 false (by rw [g1, g2]; rfl)
    · have g2 : isP S x = true := bI_n.mp c_14
      refine g_iconst (q := 18) (v := (1)) hC dX5_makeFile_17 rfl rfl ?_
      refine g_goto (tgt := 22) hC dX5_makeFile_18 (by decide) ?_
      exact join0 true (by rw [g1, g2]; rfl)
theorem SB_places {S : gSt} (hB : SB S) {f p : Nat} (hp : p < S.1 0 2) : SB (sN S 6 f p) := by
  obtain ⟨b1, b2, b3, b4, b5, b6, b7, b8⟩ := hB
  refine ⟨b1, b2, b3, b4, b5, b6, fun g hg => ⟨(b7 g hg).1, ?_⟩, b8⟩
  show up2 S.1 6 f p 6 g < S.1 0 2
  by_cases z : g = f
  · subst z
    rw [up2_self]
    exact hp
  · rw [up2_ne _ _ (Or.inr z)]
    exact (b7 g hg).2
def rf_moveFile (S : gSt) (x y : Int32) : Int32 := if (isF S x && isP S y) = true then 0 else 1
def mo_moveFile (S : gSt) (x y : Int32) : Int32 × Int32 × gSt := gd (rf_moveFile S x y) 0 S (nI (S.1 6 x.toNatClampNeg), lkS (sN S 6 x.toNatClampNeg y.toNatClampNeg))
set_option maxRecDepth 100000 in
set_option maxHeartbeats 4000000 in
theorem c_M_moveFile (l : Launch) (hfl : l.stackTraces = false) (M : gMT) (σ : gS) (φ : gS) (m : Nat) (ad : Nat → Nat) (rf x y : Int32) (S : gSt) (hM : Mod M φ σ m ad rf S) (hB : SB S) : Con l M yX5_moveFile (.code yX5_moveFile cX5_moveFile 4 (Option.some FieldType.int)) 5 0 0 [.ref m, .int x, .int y] σ (rI (mP M φ m ad (mo_moveFile S x y))) (nX) := by
  refine g_con hfl (by decide) (lv := [(0, .ref m), (1, .int x), (2, .int y)]) rfl rfl (Nat.le_of_ble_eq_true rfl) (fun X hX hC hR htb => ?_)
  have b3 := hB.2.2.1
  have b2 := hB.2.1
  have join : ∀ w : Int32, w = rf_moveFile S x y → G X M 4 (gQ X M 0 0 (rI (mP M φ m ad (mo_moveFile S x y))) nX) 0 0 σ 22 [(0, .ref m), (1, .int x), (2, .int y)] [.int w, .ref m] := by
    intro w hw
    refine g_ci (q := 25) (g_runV hC kv_X5_67 md_X5_refused (c_M_refused _ hC.fl M _ φ m ad rf w S hM) (ci := 5) rfl hM.1 dX5_moveFile_22 (by decide) (by decide) (by omega) (by omega) rfl rfl (Nat.le_of_ble_eq_true rfl)) rfl (fun r σ2 ⟨e1, hM2⟩ => ?_) (fun _ _ h9 => False.elim h9)
    subst e1
    refine g_if_eq (tgt := 30) (q := 28) hC dX5_moveFile_25 (by decide) rfl (fun c_25 => ?_) (fun c_25 => ?_)
    · have h0 := rf0.mp c_25
      subst h0
      have h8 := rf1' hw
      obtain ⟨g1, g2⟩ := Bool.and_eq_true_iff.mp h8
      obtain ⟨p, hp, ey⟩ := isP_nI hB g2
      obtain ⟨f, hf, ex, -, ec⟩ := isF_nI hB g1
      have ed : y.toNatClampNeg = p := by rw [ey, nI_clamp (by omega)]
      have eT : mo_moveFile S x y = (0, nI (S.1 6 f), lkS (sN S 6 f p)) := by
        rw [mo_moveFile, ← hw, gd0 rfl, ec, ed]
      rw [eT]
      clear eT hw
      have hM3 := hM2.w6 f p
      subst ex
      subst ey
      refine g_aload_n (q := 31) (i := 0) hC dX5_moveFile_30 rfl rfl rfl ?_
      refine g_getf (q := 34) hC kg_X5_30 dX5_moveFile_31 hM2.1 rfl rfl ?_
      refine g_iload_n (q := 35) (i := 1) hC dX5_moveFile_34 rfl rfl rfl ?_
      refine g_iald (q := 36) (v := nI (S.1 6 f)) hC dX5_moveFile_35 hM2.a6 (vp_in_nI (by omega) (by omega)) (by rw [nI_clamp (by omega)]) rfl ?_
      refine g_istore_n (q := 37) (i := 3) hC dX5_moveFile_36 rfl (by decide) rfl ?_
      refine g_aload_n (q := 38) (i := 0) hC dX5_moveFile_37 rfl rfl rfl ?_
      refine g_getf (q := 41) hC kg_X5_30 dX5_moveFile_38 hM2.1 rfl rfl ?_
      refine g_iload_n (q := 42) (i := 1) hC dX5_moveFile_41 rfl rfl rfl ?_
      refine g_iload_n (q := 43) (i := 2) hC dX5_moveFile_42 rfl rfl rfl ?_
      refine g_iast (q := 44) hC dX5_moveFile_43 hM2.a6 (vp_in_nI (by omega) (by omega)) rfl ?_
      rw [nI_clamp (by omega)]
      refine g_aload_n (q := 45) (i := 0) hC dX5_moveFile_44 rfl rfl rfl ?_
      refine g_cv (q := 48) (g_runV hC kv_X5_103 md_X5_look (c_M_look _ hC.fl M _ φ m ad 0 _ hM3 (SB_places hB hp)) (ci := 5) rfl hM3.1 dX5_moveFile_45 (by decide) (by decide) (by omega) (by omega) rfl rfl (Nat.le_of_ble_eq_true rfl)) rfl (fun σ6 hM6 => ?_) (fun _ _ h9 => False.elim h9)
      refine g_iload_n (q := 49) (i := 3) hC dX5_moveFile_48 rfl rfl rfl ?_
      exact g_iret hC hR dX5_moveFile_49 (by omega) (by omega) (⟨_, rfl, ⟨rfl, hM6⟩⟩)
    · have h1 : ¬ w = 0 := fun z => c_25 (rf0.mpr z)
      refine g_iconst (q := 29) (v := (0)) hC dX5_moveFile_28 rfl rfl ?_
      exact g_iret hC hR dX5_moveFile_29 (by omega) (by omega) (⟨_, rfl, by rw [mo_moveFile, ← hw, gd1 h1]; exact ⟨rfl, hM2⟩⟩)
  refine g_aload_n (q := 1) (i := 0) hC dX5_moveFile_0 rfl rfl rfl ?_
  refine g_aload_n (q := 2) (i := 0) hC dX5_moveFile_1 rfl rfl rfl ?_
  refine g_iload_n (q := 3) (i := 1) hC dX5_moveFile_2 rfl rfl rfl ?_
  refine g_ci (q := 6) (g_runV hC kv_X5_139 md_X5_isFile (c_M_isFile _ hC.fl M _ φ m ad rf x S hM hB) (ci := 5) rfl hM.1 dX5_moveFile_3 (by decide) (by decide) (by omega) (by omega) rfl rfl (Nat.le_of_ble_eq_true rfl)) rfl (fun r σ ⟨e1, e2⟩ => ?_) (fun _ _ h9 => False.elim h9)
  subst e1 e2
  refine g_if_eq (tgt := 21) (q := 9) hC dX5_moveFile_6 (by decide) rfl (fun c_6 => ?_) (fun c_6 => ?_)
  · refine g_iconst (q := 22) (v := (1)) hC dX5_moveFile_21 rfl rfl ?_
    exact join 1 (by rw [rf_moveFile, bI_0.mp c_6]; rfl)
  · have g1 := bI_n.mp c_6
    refine g_aload_n (q := 10) (i := 0) hC dX5_moveFile_9 rfl rfl rfl ?_
    refine g_iload_n (q := 11) (i := 2) hC dX5_moveFile_10 rfl rfl rfl ?_
    refine g_ci (q := 14) (g_runV hC kv_X5_93 md_X5_isProject (c_M_isProject _ hC.fl M _ φ m ad rf y S hM) (ci := 5) rfl hM.1 dX5_moveFile_11 (by decide) (by decide) (by omega) (by omega) rfl rfl (Nat.le_of_ble_eq_true rfl)) rfl (fun r σ ⟨e1, e2⟩ => ?_) (fun _ _ h9 => False.elim h9)
    subst e1 e2
    refine g_if_eq (tgt := 21) (q := 17) hC dX5_moveFile_14 (by decide) rfl (fun c_14 => ?_) (fun c_14 => ?_)
    · have g2 : isP S y = false := bI_0.mp c_14
      refine g_iconst (q := 22) (v := (1)) hC dX5_moveFile_21 rfl rfl ?_
      exact join 1 (by rw [rf_moveFile, g2, Bool.and_false]; rfl)
    · have g2 : isP S y = true := bI_n.mp c_14
      refine g_iconst (q := 18) (v := (0)) hC dX5_moveFile_17 rfl rfl ?_
      refine g_goto (tgt := 22) hC dX5_moveFile_18 (by decide) ?_
      exact join 0 (by rw [rf_moveFile, g1, g2]; rfl)
def rf_reserve (S : gSt) (x b : Int32) : Int32 := if isF S x = false then 1 else if (decide (1 ≤ b) && decide (b ≤ 1000)) = false then 2 else if S.1 0 4 = 30 then 3 else 0
def rsvS (S : gSt) (f : Nat) (b : Int32) : gSt := sN (sB (sI (sN S 9 (S.1 0 4) f) 10 (S.1 0 4) b) 11 (S.1 0 4) true) 0 4 (S.1 0 4 + 1)
def mo_reserve (S : gSt) (x b : Int32) : Int32 × Int32 × gSt := gd (rf_reserve S x b) 0 S (br2 S (brr S (S.1 5 x.toNatClampNeg) (S.1 6 x.toNatClampNeg) b 0 12 0) (nI (S.1 0 4), lkS (rsvS S x.toNatClampNeg b)))
theorem SB_rsv {S : gSt} (hB : SB S) {f : Nat} (b : Int32) (hf : f < S.1 0 3) (hn : ¬ S.1 0 4 = 30) : SB (rsvS S f b) := by
  obtain ⟨b1, b2, b3, b4, b5, b6, b7, b8⟩ := hB
  have e : ∀ c j, c ≠ 9 → (c ≠ 0 ∨ j ≠ 4) → (rsvS S f b).1 c j = S.1 c j := by
    intro c j h1 h2
    show up2 (up2 S.1 9 (S.1 0 4) f) 0 4 (S.1 0 4 + 1) c j = _
    rw [up2_ne _ _ h2, up2_ne _ _ (Or.inl h1)]
  have e4 : (rsvS S f b).1 0 4 = S.1 0 4 + 1 := rfl
  unfold SB
  rw [e 0 1 (by decide) (by decide), e 0 2 (by decide) (by decide), e 0 3 (by decide) (by decide), e4, e 0 6 (by decide) (by decide)]
  refine ⟨b1, b2, b3, by omega, b5, fun p hp => ?_, fun g hg => ?_, fun r hr => ?_⟩
  · rw [e 4 p (by decide) (Or.inl (by decide))]
    exact b6 p hp
  · rw [e 5 g (by decide) (Or.inl (by decide)), e 6 g (by decide) (Or.inl (by decide))]
    exact b7 g hg
  · show up2 (up2 S.1 9 (S.1 0 4) f) 0 4 (S.1 0 4 + 1) 9 r < _
    rw [up2_ne _ _ (Or.inl (by decide))]
    by_cases z : r = S.1 0 4
    · subst z
      rw [up2_self]
      exact hf
    · rw [up2_ne _ _ (Or.inr z)]
      exact b8 r (by omega)
set_option maxRecDepth 100000 in
set_option maxHeartbeats 4000000 in
theorem c_M_reserve (l : Launch) (hfl : l.stackTraces = false) (M : gMT) (σ : gS) (φ : gS) (m : Nat) (ad : Nat → Nat) (rf x b : Int32) (S : gSt) (hM : Mod M φ σ m ad rf S) (hB : SB S) : Con l M yX5_reserve (.code yX5_reserve cX5_reserve 4 (Option.some FieldType.int)) 5 0 0 [.ref m, .int x, .int b] σ (rI (mP M φ m ad (mo_reserve S x b))) (nX) := by
  refine g_con hfl (by decide) (lv := [(0, .ref m), (1, .int x), (2, .int b)]) rfl rfl (Nat.le_of_ble_eq_true rfl) (fun X hX hC hR htb => ?_)
  have b3 := hB.2.2.1
  have b4 := hB.2.2.2.1
  have b7 := hB.2.2.2.2.2.2.1
  have join : ∀ w : Int32, w = rf_reserve S x b → G X M 4 (gQ X M 0 0 (rI (mP M φ m ad (mo_reserve S x b))) nX) 0 0 σ 42 [(0, .ref m), (1, .int x), (2, .int b)] [.int w, .ref m] := by
    intro w hw
    refine g_ci (q := 45) (g_runV hC kv_X5_67 md_X5_refused (c_M_refused _ hC.fl M _ φ m ad rf w S hM) (ci := 5) rfl hM.1 dX5_reserve_42 (by decide) (by decide) (by omega) (by omega) rfl rfl (Nat.le_of_ble_eq_true rfl)) rfl (fun r σ2 ⟨e1, hM2⟩ => ?_) (fun _ _ h9 => False.elim h9)
    subst e1
    refine g_if_eq (tgt := 50) (q := 48) hC dX5_reserve_45 (by decide) rfl (fun c_45 => ?_) (fun c_45 => ?_)
    · have h0 := rf0.mp c_45
      subst h0
      obtain ⟨h8, -, h7⟩ := rf3 hw
      obtain ⟨f, hf, ex, -, ec⟩ := isF_nI hB (Bool.not_eq_false _ ▸ h8)
      obtain ⟨ho, hp⟩ := b7 f hf
      have eT : mo_reserve S x b = (0, (br2 S (brr S (S.1 5 f) (S.1 6 f) b 0 12 0) (nI (S.1 0 4), lkS (rsvS S f b))).1, (br2 S (brr S (S.1 5 f) (S.1 6 f) b 0 12 0) (nI (S.1 0 4), lkS (rsvS S f b))).2) := by
        rw [mo_reserve, ← hw, gd0 rfl, ec]
      rw [eT]
      clear eT hw
      subst ex
      refine g_aload_n (q := 51) (i := 0) hC dX5_reserve_50 rfl rfl rfl ?_
      refine g_aload_n (q := 52) (i := 0) hC dX5_reserve_51 rfl rfl rfl ?_
      refine g_getf (q := 55) hC kg_X5_27 dX5_reserve_52 hM2.1 rfl rfl ?_
      refine g_iload_n (q := 56) (i := 1) hC dX5_reserve_55 rfl rfl rfl ?_
      refine g_iald (q := 57) (v := nI (S.1 5 f)) hC dX5_reserve_56 hM2.a5 (vp_in_nI (by omega) (by omega)) (by rw [nI_clamp (by omega)]) rfl ?_
      refine g_aload_n (q := 58) (i := 0) hC dX5_reserve_57 rfl rfl rfl ?_
      refine g_getf (q := 61) hC kg_X5_30 dX5_reserve_58 hM2.1 rfl rfl ?_
      refine g_iload_n (q := 62) (i := 1) hC dX5_reserve_61 rfl rfl rfl ?_
      refine g_iald (q := 63) (v := nI (S.1 6 f)) hC dX5_reserve_62 hM2.a6 (vp_in_nI (by omega) (by omega)) (by rw [nI_clamp (by omega)]) rfl ?_
      refine g_iload_n (q := 64) (i := 2) hC dX5_reserve_63 rfl rfl rfl ?_
      refine g_iconst (q := 65) (v := (0)) hC dX5_reserve_64 rfl rfl ?_
      refine g_ci (q := 68) (g_runV hC kv_X5_135 md_X5_barring (c_M_barring _ hC.fl M _ φ m (S.1 5 f) (S.1 6 f) ad 0 b 0 S hM2 hB ho hp) (ci := 5) rfl hM2.1 dX5_reserve_65 (by decide) (by decide) (by omega) (by omega) rfl rfl (Nat.le_of_ble_eq_true rfl)) rfl (fun r σ ⟨e1, e2⟩ => ?_) (fun _ _ h9 => False.elim h9)
      subst e1 e2
      refine g_istore_n (q := 69) (i := 3) hC dX5_reserve_68 rfl (by decide) rfl ?_
      refine g_iload_n (q := 70) (i := 3) hC dX5_reserve_69 rfl rfl rfl ?_
      refine g_iconst (q := 71) (v := (-1)) hC dX5_reserve_70 rfl rfl ?_
      refine g_icmp_eq (tgt := 79) (q := 74) hC dX5_reserve_71 (by decide) rfl (fun c_71 => ?_) (fun c_71 => ?_)
      · have e9 := brr_n.mp c_71
        have hM3 := hM2.w9 (S.1 0 4) f
        have hM4 := hM3.w10 (S.1 0 4) b
        have hM5 := hM4.w11 (S.1 0 4) true
        have hM6 := hM5.s13 (S.1 0 4 + 1)
        refine g_aload_n (q := 80) (i := 0) hC dX5_reserve_79 rfl rfl rfl ?_
        refine g_getf (q := 83) hC kg_X5_40 dX5_reserve_80 hM2.1 rfl rfl ?_
        refine g_aload_n (q := 84) (i := 0) hC dX5_reserve_83 rfl rfl rfl ?_
        refine g_getf (q := 87) (v := .int (nI (S.1 0 4))) hC kg_X5_106 dX5_reserve_84 hM2.1 rfl rfl ?_
        refine g_iload_n (q := 88) (i := 1) hC dX5_reserve_87 rfl rfl rfl ?_
        refine g_iast (q := 89) hC dX5_reserve_88 hM2.a9 (vp_in_nI (by omega) (by omega)) rfl ?_
        rw [nI_clamp (by omega)]
        refine g_aload_n (q := 90) (i := 0) hC dX5_reserve_89 rfl rfl rfl ?_
        refine g_getf (q := 93) hC kg_X5_43 dX5_reserve_90 hM3.1 rfl rfl ?_
        refine g_aload_n (q := 94) (i := 0) hC dX5_reserve_93 rfl rfl rfl ?_
        refine g_getf (q := 97) (v := .int (nI (S.1 0 4))) hC kg_X5_106 dX5_reserve_94 hM3.1 rfl rfl ?_
        refine g_iload_n (q := 98) (i := 2) hC dX5_reserve_97 rfl rfl rfl ?_
        refine g_iast (q := 99) hC dX5_reserve_98 hM3.a10 (vp_in_nI (by omega) (by omega)) rfl ?_
        rw [nI_clamp (by omega)]
        refine g_aload_n (q := 100) (i := 0) hC dX5_reserve_99 rfl rfl rfl ?_
        refine g_getf (q := 103) hC kg_X5_46 dX5_reserve_100 hM4.1 rfl rfl ?_
        refine g_aload_n (q := 104) (i := 0) hC dX5_reserve_103 rfl rfl rfl ?_
        refine g_getf (q := 107) (v := .int (nI (S.1 0 4))) hC kg_X5_106 dX5_reserve_104 hM4.1 rfl rfl ?_
        refine g_iconst (q := 108) (v := (1)) hC dX5_reserve_107 rfl rfl ?_
        refine g_zast (q := 109) hC dX5_reserve_108 hM4.a11 (vp_in_nI (by omega) (by omega)) rfl ?_
        rw [nI_clamp (by omega)]
        refine g_aload_n (q := 110) (i := 0) hC dX5_reserve_109 rfl rfl rfl ?_
        refine g_dup (q := 111) hC dX5_reserve_110 rfl rfl ?_
        refine g_getf (q := 114) (v := .int (nI (S.1 0 4))) hC kg_X5_106 dX5_reserve_111 hM5.1 rfl rfl ?_
        refine g_iconst (q := 115) (v := nI 1) hC dX5_reserve_114 rfl rfl ?_
        refine g_iadd (q := 116) (v := (nI ((S.1 0 4) + 1))) hC dX5_reserve_115 (nI_add _ _) rfl ?_
        refine g_putf (q := 119) hC kf_X5_106 dX5_reserve_116 hM5.1 (Nat.le_of_ble_eq_true rfl) rfl rfl rfl ?_
        refine g_aload_n (q := 120) (i := 0) hC dX5_reserve_119 rfl rfl rfl ?_
        refine g_cv (q := 123) (g_runV hC kv_X5_103 md_X5_look (c_M_look _ hC.fl M _ φ m ad 0 _ hM6 (SB_rsv hB b hf h7)) (ci := 5) rfl hM6.1 dX5_reserve_120 (by decide) (by decide) (by omega) (by omega) rfl rfl (Nat.le_of_ble_eq_true rfl)) rfl (fun σ6 hM7 => ?_) (fun _ _ h9 => False.elim h9)
        refine g_aload_n (q := 124) (i := 0) hC dX5_reserve_123 rfl rfl rfl ?_
        refine g_getf (q := 127) (v := .int (nI ((lkS (rsvS S f b)).1 0 4))) hC kg_X5_106 dX5_reserve_124 hM7.1 rfl rfl ?_
        refine g_iconst (q := 128) (v := nI 1) hC dX5_reserve_127 rfl rfl ?_
        refine g_isub (q := 129) (v := (nI (((lkS (rsvS S f b)).1 0 4) - 1))) hC dX5_reserve_128 (pk_sub (Nat.le_add_left _ _)) rfl ?_
        exact g_iret hC hR dX5_reserve_129 (by omega) (by omega) (⟨_, rfl, by rw [e9]; exact ⟨rfl, hM7⟩⟩)
      · cases e9 : brr S (S.1 5 f) (S.1 6 f) b 0 12 0 with
        | none => exact absurd (by rw [e9]; rfl) c_71
        | some j =>
          refine g_bipush (q := 76) (v := (-2)) hC dX5_reserve_74 rfl rfl ?_
          refine g_iload_n (q := 77) (i := 3) hC dX5_reserve_76 rfl rfl rfl ?_
          refine g_isub (q := 78) hC dX5_reserve_77 rfl rfl ?_
          exact g_iret hC hR dX5_reserve_78 (by omega) (by omega) (⟨_, rfl, ⟨rfl, hM2⟩⟩)
    · have h1 : ¬ w = 0 := fun z => c_45 (rf0.mpr z)
      refine g_iconst (q := 49) (v := (0)) hC dX5_reserve_48 rfl rfl ?_
      exact g_iret hC hR dX5_reserve_49 (by omega) (by omega) (⟨_, rfl, by rw [mo_reserve, ← hw, gd1 h1]; exact ⟨rfl, hM2⟩⟩)
  refine g_aload_n (q := 1) (i := 0) hC dX5_reserve_0 rfl rfl rfl ?_
  refine g_aload_n (q := 2) (i := 0) hC dX5_reserve_1 rfl rfl rfl ?_
  refine g_iload_n (q := 3) (i := 1) hC dX5_reserve_2 rfl rfl rfl ?_
  refine g_ci (q := 6) (g_runV hC kv_X5_139 md_X5_isFile (c_M_isFile _ hC.fl M _ φ m ad rf x S hM hB) (ci := 5) rfl hM.1 dX5_reserve_3 (by decide) (by decide) (by omega) (by omega) rfl rfl (Nat.le_of_ble_eq_true rfl)) rfl (fun r σ ⟨e1, e2⟩ => ?_) (fun _ _ h9 => False.elim h9)
  subst e1 e2
  refine g_if_ne (tgt := 13) (q := 9) hC dX5_reserve_6 (by decide) rfl (fun c_6 => ?_) (fun c_6 => ?_)
  · have g1 := bI_n.mp c_6
    refine g_iload_n (q := 14) (i := 2) hC dX5_reserve_13 rfl rfl rfl ?_
    refine g_iconst (q := 15) (v := (1)) hC dX5_reserve_14 rfl rfl ?_
    refine g_sipush (q := 18) (v := (1000)) hC dX5_reserve_15 rfl rfl ?_
    refine g_ci (q := 21) (g_runS hC ks_X5_78 md_X5_in (c_M_in _ hC.fl M _ b 1 1000) dX5_reserve_18 (by decide) (by decide) (by omega) (by omega) rfl rfl (Nat.le_of_ble_eq_true rfl)) rfl (fun r σ ⟨e3, e2⟩ => ?_) (fun _ _ h9 => False.elim h9)
    subst e3 e2
    refine g_if_ne (tgt := 28) (q := 24) hC dX5_reserve_21 (by decide) rfl (fun c_21 => ?_) (fun c_21 => ?_)
    · have g2 := bI_n.mp c_21
      refine g_aload_n (q := 29) (i := 0) hC dX5_reserve_28 rfl rfl rfl ?_
      refine g_getf (q := 32) (v := .int (nI (S.1 0 4))) hC kg_X5_106 dX5_reserve_29 hM.1 rfl rfl ?_
      refine g_bipush (q := 34) (v := nI 30) hC dX5_reserve_32 rfl rfl ?_
      refine g_icmp_ne (tgt := 41) (q := 37) hC dX5_reserve_34 (by decide) rfl (fun c_34 => ?_) (fun c_34 => ?_)
      · refine g_iconst (q := 42) (v := (0)) hC dX5_reserve_41 rfl rfl ?_
        exact join 0 (by rw [rf_reserve, if_neg (by rw [g1]; decide), if_neg (by rw [g2]; decide), if_neg (fun z => c_34 (by rw [z]))])
      · refine g_iconst (q := 38) (v := (3)) hC dX5_reserve_37 rfl rfl ?_
        refine g_goto (tgt := 42) hC dX5_reserve_38 (by decide) ?_
        exact join 3 (by rw [rf_reserve, if_neg (by rw [g1]; decide), if_neg (by rw [g2]; decide), if_pos ((nI_eq (by omega) (by omega)).mp c_34)])
    · refine g_iconst (q := 25) (v := (2)) hC dX5_reserve_24 rfl rfl ?_
      refine g_goto (tgt := 42) hC dX5_reserve_25 (by decide) ?_
      exact join 2 (by rw [rf_reserve, if_neg (by rw [g1]; decide), if_pos (bI_0.mp c_21)])
  · refine g_iconst (q := 10) (v := (1)) hC dX5_reserve_9 rfl rfl ?_
    refine g_goto (tgt := 42) hC dX5_reserve_10 (by decide) ?_
    exact join 1 (by rw [rf_reserve, if_pos (bI_0.mp c_6)])
