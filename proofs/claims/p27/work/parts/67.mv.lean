/-! ===== the ledger's calls (12): moveProject ===== -/
def mvL1 (ρ : gSt) (p t : Nat) : gSt := sN (cfw ρ p (-1) (ρ.1 10 4)) 3 p (t + 1)
def mvL2 (ρ : gSt) (p t : Nat) : gSt := ntS (cfw (mvL1 ρ p t) p 1 (ρ.1 10 4))
def lo_moveProject (ρ : gSt) (x : Int32) : lRes := if inR x (ρ.1 10 3) = false then (eI, 0, ρ) else match pop ρ (ρ.1 0 0) with
  | none => (eS, 0, ρ)
  | some t => if cmL ρ x.toNatClampNeg t = false then (eS, 0, ρ) else if par ρ x.toNatClampNeg = some t then ("", 0, ρ) else ("", nI (cnw (mvL2 ρ x.toNatClampNeg t) x.toNatClampNeg (ρ.1 10 3)), mvL2 ρ x.toNatClampNeg t)
set_option maxRecDepth 100000 in
set_option maxHeartbeats 4000000 in
theorem c_L_moveProject (l : Launch) (hfl : l.stackTraces = false) (M : gMT) (σ : gS) (A : gAd) (ρ : gSt) (W : gWt) (x : Int32) (hr : Raw M σ A ρ W) (hW : RW ρ) (hE : RE ρ) : Con l M yX4_moveProject (.code yX4_moveProject cX4_moveProject 4 (Option.some FieldType.int)) 12 170 2100 [.ref (A 0 0), .int x] σ (rI (lP M σ A (lo_moveProject ρ x))) (lX σ (lo_moveProject ρ x)) := by
  refine g_con hfl (by decide) (lv := [(0, .ref (A 0 0)), (1, .int x)]) rfl rfl (Nat.le_of_ble_eq_true rfl) (fun X hX hC hR htb => ?_)
  have w2 := hW.2.1
  have e23 := hE.1.1
  refine g_aload_n (q := 1) (i := 0) hC dX4_moveProject_0 rfl rfl rfl ?_
  refine g_iload_n (q := 2) (i := 1) hC dX4_moveProject_1 rfl rfl rfl ?_
  refine g_cr (q := 5) (g_runV hC kv_X4_111 md_X4_projectOfNumber (c_L_projectOfNumber _ hC.fl M _ A ρ W x hr hW) (ci := 4) rfl (hr.led hW) dX4_moveProject_2 (by decide) (by decide) (by omega) (by omega) rfl rfl (Nat.le_of_ble_eq_true rfl)) rfl (fun r σ ⟨⟨hx, e1⟩, e2⟩ => ?_) (fun E σ2 h9 => by obtain ⟨⟨rfl, h8⟩, rfl⟩ := h9; exact g_out hR htb (by omega) (by omega) (lX_of (by rw [lo_moveProject, if_pos h8]) eI_n))
  subst e1 e2
  obtain ⟨p, hp, ex, ec⟩ := inR_nI (by omega) hx
  rw [ec]
  have eT : lo_moveProject ρ x = (match pop ρ (ρ.1 0 0) with
    | none => (eS, 0, ρ)
    | some t => if cmL ρ p t = false then (eS, 0, ρ) else if par ρ p = some t then ("", 0, ρ) else ("", nI (cnw (mvL2 ρ p t) p (ρ.1 10 3)), mvL2 ρ p t)) := by
    rw [lo_moveProject, if_neg (by rw [hx]; decide), ec]
  have bad : ∀ o, (lo_moveProject ρ x).1 = eS → G X M 4 (gQ X M 170 2100 (rI (lP M σ A (lo_moveProject ρ x))) (lX σ (lo_moveProject ρ x))) (0 + 1 + 0 + 0 + 0) (0 + 6 + 0 + 0 + 0) σ 31 [(3, va_rf o), (2, .ref (A 2 p)), (0, .ref (A 0 0)), (1, .int x)] [] := by
    intro o hb
    exact g_throwS hC hR htb (tS (is := 118) (text := "the project cannot be moved there") (by decide +kernel)) dX4_moveProject_31 dX4_moveProject_34 dX4_moveProject_35 dX4_moveProject_37 dX4_moveProject_40 (by decide) (Nat.le_of_ble_eq_true rfl) (by omega) (by omega) (lX_of hb eS_n)
  refine g_astore_n (q := 6) (i := 2) hC dX4_moveProject_5 rfl (by decide) rfl ?_
  refine g_aload_n (q := 7) (i := 0) hC dX4_moveProject_6 rfl rfl rfl ?_
  refine g_aload_n (q := 8) (i := 0) hC dX4_moveProject_7 rfl rfl rfl ?_
  refine g_getf (q := 11) (v := .ref (A 5 6)) hC kg_X4_31 dX4_moveProject_8 (hr.led hW) rfl rfl ?_
  refine g_ci (q := 14) (g_runV hC kv_X4_72 md_J4_length_8abf5 (c_sb_len _ hC.fl M _ (A 5 6) _ _ _ hr.sb) (ci := 7) rfl hr.sb dX4_moveProject_11 (by decide) (by decide) (by omega) (by omega) rfl rfl (Nat.le_of_ble_eq_true rfl)) rfl (fun r σ ⟨e1, e2⟩ => ?_) (fun _ _ h9 => False.elim h9)
  subst e1 e2
  refine g_cq (q := 17) (g_runV hC kv_X4_91 md_X4_projectOfPath (c_L_projectOfPath _ hC.fl M _ A ρ W (ρ.1 0 0) hr hW (Nat.le_refl _)) (ci := 4) rfl (hr.led hW) dX4_moveProject_14 (by decide) (by decide) (by omega) (by omega) rfl rfl (Nat.le_of_ble_eq_true rfl)) rfl (fun r σ ⟨e1, e2⟩ => ?_) (fun _ _ h9 => False.elim h9)
  subst e1 e2
  cases e9 : pop ρ (ρ.1 0 0) with
  | none =>
    rw [e9] at eT
    refine g_astore_nQ (q := 18) (i := 3) (o := none) hC dX4_moveProject_17 rfl (by decide) rfl ?_
    refine g_aload_nQ (q := 19) (i := 3) (o := none) hC dX4_moveProject_18 rfl rfl rfl ?_
    refine g_ifnull (o := none) (tgt := 31) (q := 22) hC dX4_moveProject_19 (by decide) rfl (fun c_19 => ?_) (fun a c_19 => ?_)
    · exact g_widen (by omega) (by omega) (bad none (by rw [eT]))
    · cases c_19
  | some t =>
    rw [e9] at eT
    have ht := pop_lt hW _ _ e9
    refine g_astore_nQ (q := 18) (i := 3) (o := (some (A 2 t))) hC dX4_moveProject_17 rfl (by decide) rfl ?_
    refine g_aload_nQ (q := 19) (i := 3) (o := (some (A 2 t))) hC dX4_moveProject_18 rfl rfl rfl ?_
    refine g_ifnull (o := some (A 2 t)) (tgt := 31) (q := 22) hC dX4_moveProject_19 (by decide) rfl (fun c_19 => ?_) (fun a c_19 => ?_)
    · cases c_19
    · skip
      refine g_aload_n (q := 23) (i := 0) hC dX4_moveProject_22 rfl rfl rfl ?_
      refine g_aload_n (q := 24) (i := 2) hC dX4_moveProject_23 rfl rfl rfl ?_
      refine g_aload_n (q := 25) (i := 3) hC dX4_moveProject_24 rfl rfl rfl ?_
      refine g_ci (q := 28) (g_runV hC kv_X4_114 md_X4_canMove (c_L_canMove _ hC.fl M _ A ρ W p t hr hW (by omega) (by omega)) (ci := 4) rfl (hr.led hW) dX4_moveProject_25 (by decide) (by decide) (by omega) (by omega) rfl rfl (Nat.le_of_ble_eq_true rfl)) rfl (fun r σ ⟨e1, e2⟩ => ?_) (fun _ _ h9 => False.elim h9)
      subst e1 e2
      refine g_if_ne (tgt := 41) (q := 31) hC dX4_moveProject_28 (by decide) rfl (fun c_28 => ?_) (fun c_28 => ?_)
      · have hcm : cmL ρ p t = true := bI_n.mp c_28
        have eT : lo_moveProject ρ x = (if par ρ p = some t then ("", 0, ρ) else ("", nI (cnw (mvL2 ρ p t) p (ρ.1 10 3)), mvL2 ρ p t)) := by rw [eT]; exact if_neg (by rw [hcm]; decide)
        refine g_aload_n (q := 42) (i := 2) hC dX4_moveProject_41 rfl rfl rfl ?_
        refine g_getf (q := 45) (v := va_rf ((par ρ p).map (A 2))) hC kg_X4_120 dX4_moveProject_42 (hr.prj (by omega)) rfl rfl ?_
        refine g_aload_n (q := 46) (i := 3) hC dX4_moveProject_45 rfl rfl rfl ?_
        refine g_acmp_ne (tgt := 51) (q := 49) (rx := (par ρ p).map (A 2)) (ry := some (A 2 t)) hC dX4_moveProject_46 (by decide) rfl (fun c_46 => ?_) (fun c_46 => ?_)
        · have hne : ¬ par ρ p = some t := fun z => c_46 ((par_ref hr hW (p := p) (q := t) (by omega) (by omega)).mpr z)
          have eT : lo_moveProject ρ x = ("", nI (cnw (mvL2 ρ p t) p (ρ.1 10 3)), mvL2 ρ p t) := by rw [eT, if_neg hne]
          rw [eT]
          refine g_aload_n (q := 52) (i := 0) hC dX4_moveProject_51 rfl rfl rfl ?_
          refine g_aload_n (q := 53) (i := 2) hC dX4_moveProject_52 rfl rfl rfl ?_
          refine g_iconst (q := 54) (v := (-1)) hC dX4_moveProject_53 rfl rfl ?_
          refine g_cv (q := 57) (g_runV hC kv_X4_123 md_X4_chargeFilesWithin (c_L_chargeFilesWithin _ hC.fl M _ A ρ p (-1) ⟨W, hr⟩ hW (by omega)) (ci := 4) rfl (hr.led hW) dX4_moveProject_54 (by decide) (by decide) (by omega) (by omega) rfl rfl (Nat.le_of_ble_eq_true rfl)) rfl (fun σ1 ⟨⟨W1, hr1⟩, hF1⟩ => ?_) (fun _ _ h9 => False.elim h9)
          obtain ⟨e11, e12⟩ := cfw_12 ρ p (-1) (ρ.1 10 4)
          have hW1 := RW_1 e11 hW
          have hp1 : p < (cfw ρ p (-1) (ρ.1 10 4)).1 11 2 := by rw [e11]; omega
          have hr2 := hr1.pPar hp1 t
          have hF2 := hF1.trans (gFF.obj (e := oB 1 ((prjF A (cfw ρ p (-1) (ρ.1 10 4)) p).set 3 (.ref (A 2 t)))) (hr1.prj hp1) (by decide))
          have e2c : ∀ c i, c ≠ 3 → (mvL1 ρ p t).1 c i = ρ.1 c i := fun c i hc => by show up2 (cfw ρ p (-1) (ρ.1 10 4)).1 3 p (t + 1) c i = _; rw [up2_ne _ _ (Or.inl hc), e11]
          have hW2 : RW (mvL1 ρ p t) := RW_1 (ρ := sN ρ 3 p (t + 1)) (by show up2 (cfw ρ p (-1) (ρ.1 10 4)).1 3 p (t + 1) = up2 ρ.1 3 p (t + 1); rw [e11]) (mv_W hW hE hp ht hcm)
          refine g_aload_n (q := 58) (i := 2) hC dX4_moveProject_57 rfl rfl rfl ?_
          refine g_aload_n (q := 59) (i := 3) hC dX4_moveProject_58 rfl rfl rfl ?_
          refine g_putf (q := 62) hC kf_X4_120 dX4_moveProject_59 (hr1.prj hp1) (Nat.le_of_ble_eq_true rfl) rfl rfl rfl ?_
          have hr2 : Raw M _ A (mvL1 ρ p t) W1 := hr2
          generalize gUp σ1 (A 2 p) (oB 1 ((prjF A (cfw ρ p (-1) (ρ.1 10 4)) p).set 3 (.ref (A 2 t)))) = σ2 at hr2 hF2
          refine g_aload_n (q := 63) (i := 0) hC dX4_moveProject_62 rfl rfl rfl ?_
          refine g_aload_n (q := 64) (i := 2) hC dX4_moveProject_63 rfl rfl rfl ?_
          refine g_iconst (q := 65) (v := (1)) hC dX4_moveProject_64 rfl rfl ?_
          refine g_cv (q := 68) (g_runV hC kv_X4_123 md_X4_chargeFilesWithin (c_L_chargeFilesWithin _ hC.fl M _ A (mvL1 ρ p t) p 1 ⟨W1, hr2⟩ hW2 (by rw [e2c 11 2 (by decide)]; omega)) (ci := 4) rfl (hr2.led hW2) dX4_moveProject_65 (by decide) (by decide) (by omega) (by omega) rfl rfl (Nat.le_of_ble_eq_true rfl)) rfl (fun σ3 ⟨⟨W3, hr3⟩, hF3⟩ => ?_) (fun _ _ h9 => False.elim h9)
          obtain ⟨e31, e32⟩ := cfw_12 (mvL1 ρ p t) p 1 ((mvL1 ρ p t).1 10 4)
          have hW3 := RW_1 e31 hW2
          refine g_aload_n (q := 69) (i := 0) hC dX4_moveProject_68 rfl rfl rfl ?_
          refine g_cv (q := 72) (g_runV hC kv_X4_127 md_X4_noteOverAccounts (c_L_noteOver _ hC.fl M _ A _ W3 hr3 hW3) (ci := 4) rfl (hr3.led hW3) dX4_moveProject_69 (by decide) (by decide) (by omega) (by omega) rfl rfl (Nat.le_of_ble_eq_true rfl)) rfl (fun σ4 ⟨⟨W4, hr4⟩, hF4⟩ => ?_) (fun _ _ h9 => False.elim h9)
          have e40 : ntS (cfw (mvL1 ρ p t) p 1 ((mvL1 ρ p t).1 10 4)) = mvL2 ρ p t := by rw [e2c 10 4 (by decide)]; rfl
          rw [e40] at hr4
          have e41 : (mvL2 ρ p t).1 = (mvL1 ρ p t).1 := by rw [← e40, ntS_1, e31]
          have hW4 : RW (mvL2 ρ p t) := RW_1 e41 hW2
          refine g_aload_n (q := 73) (i := 0) hC dX4_moveProject_72 rfl rfl rfl ?_
          refine g_aload_n (q := 74) (i := 2) hC dX4_moveProject_73 rfl rfl rfl ?_
          refine g_ci (q := 77) (g_runV hC kv_X4_130 md_X4_projectsWithin (c_L_projectsWithin _ hC.fl M _ A _ W4 p hr4 hW4 (by rw [e41, e2c 11 2 (by decide)]; omega)) (ci := 4) rfl (hr4.led hW4) dX4_moveProject_74 (by decide) (by decide) (by omega) (by omega) rfl rfl (Nat.le_of_ble_eq_true rfl)) rfl (fun r σ5 ⟨e1, e2⟩ => ?_) (fun _ _ h9 => False.elim h9)
          subst e2
          rw [e41, e2c 10 3 (by decide)] at e1
          subst e1
          exact g_iret hC hR dX4_moveProject_77 (by omega) (by omega) (⟨_, rfl, rfl, rfl, ⟨A, rfl, W4, hr4⟩, (hF2.trans hF3).trans hF4⟩)
        · have he : par ρ p = some t := (par_ref hr hW (p := p) (q := t) (by omega) (by omega)).mp c_46
          refine g_iconst (q := 50) (v := nI 0) hC dX4_moveProject_49 rfl rfl ?_
          exact g_iret hC hR dX4_moveProject_50 (by omega) (by omega) (⟨_, rfl, lP_same hr (by rw [eT, if_pos he]; rfl)⟩)
      · have hcm : cmL ρ p t = false := bI_0.mp c_28
        exact g_widen (by omega) (by omega) (bad (some (A 2 t)) (by rw [eT]; show (if cmL ρ p t = false then (eS, 0, ρ) else _ : lRes).1 = eS; rw [if_pos hcm]))
