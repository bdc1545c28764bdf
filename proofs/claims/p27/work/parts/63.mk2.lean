/-! ===== the ledger's calls (9): makeFile ===== -/
def mkF (ρ : gSt) (u p : Nat) : gSt := fN ρ (ρ.1 10 4) u (6 + u % 3) p
def lo_makeFile (ρ : gSt) (x y : Int32) : lRes := if inR x 6 = false ∨ inR y (ρ.1 10 3) = false then (eI, 0, ρ) else if 40 ≤ ρ.1 10 4 then (eS, 0, ρ) else lb2 ρ (bpl (mkF ρ x.toNatClampNeg y.toNatClampNeg) (ρ.1 10 4) 0 1) (nI (ρ.1 10 4), chg (sN (mkF ρ x.toNatClampNeg y.toNatClampNeg) 10 4 (ρ.1 10 4 + 1)) (ρ.1 10 4) 0 1)
theorem acl_0 {ρ : gSt} {x : Int32} : acl ρ 0 x = if inR x 6 = true then some x.toNatClampNeg else none := by
  unfold acl
  by_cases h : inR x 6 = true
  · rw [if_pos ⟨rfl, h⟩, if_pos h]
  · rw [if_neg (fun z => h z.2), if_neg (fun z => absurd z.1 (by decide)), if_neg (fun z => absurd z.1 (by decide)), if_neg h]
theorem acl_0n {ρ : gSt} {x : Int32} (h : acl ρ 0 x = none) : inR x 6 = false := by
  rw [acl_0] at h
  by_cases z : inR x 6 = true
  · rw [if_pos z] at h
    cases h
  · exact Bool.eq_false_iff.mpr z
theorem acl_1 {ρ : gSt} {g : Nat} (hg : g < 3) : acl ρ 1 (nI g) = some (6 + g) := by
  unfold acl
  have h : inR (nI g) 3 = true := inR_t (Int32.not_lt.mpr (nI_le (a := 0) (Nat.zero_le _) (by omega))) (nI_lt hg (by decide))
  rw [if_neg (fun z => absurd z.1 (by decide)), if_pos ⟨rfl, h⟩, nI_clamp (by omega)]
set_option maxRecDepth 100000 in
set_option maxHeartbeats 4000000 in
theorem c_L_makeFile (l : Launch) (hfl : l.stackTraces = false) (M : gMT) (σ : gS) (A : gAd) (ρ : gSt) (W : gWt) (x y : Int32) (hr : Raw M σ A ρ W) (hW : RW ρ) (hE : RE ρ) : Con l M yX4_makeFile (.code yX4_makeFile cX4_makeFile 8 (Option.some FieldType.int)) 12 40 1000 [.ref (A 0 0), .int x, .int y] σ (rI (lP M σ A (lo_makeFile ρ x y))) (lX σ (lo_makeFile ρ x y)) := by
  refine g_con hfl (by decide) (lv := [(0, .ref (A 0 0)), (1, .int x), (2, .int y)]) rfl rfl (Nat.le_of_ble_eq_true rfl) (fun X hX hC hR htb => ?_)
  have w3 := hW.2.2.1
  have w2 := hW.2.1
  have w1 := hW.1
  have e34 := hE.1.2.1
  have e23 := hE.1.1
  refine g_aload_n (q := 1) (i := 0) hC dX4_makeFile_0 rfl rfl rfl ?_
  refine g_iconst (q := 2) (v := (0)) hC dX4_makeFile_1 rfl rfl ?_
  refine g_iload_n (q := 3) (i := 1) hC dX4_makeFile_2 rfl rfl rfl ?_
  refine g_cr (q := 6) (g_runV hC kv_X4_146 md_X4_accountOf (c_L_accountOf _ hC.fl M _ A ρ W 0 x hr hW) (ci := 4) rfl (hr.led hW) dX4_makeFile_3 (by decide) (by decide) (by omega) (by omega) rfl rfl (Nat.le_of_ble_eq_true rfl)) rfl (fun r σ ⟨⟨a, hx, e1⟩, e2⟩ => ?_) (fun E σ2 h9 => by obtain ⟨⟨rfl, h8⟩, rfl⟩ := h9; exact g_out hR htb (by omega) (by omega) (lX_of (by rw [lo_makeFile, if_pos (Or.inl (acl_0n h8))]) eI_n))
  subst e1 e2
  rw [acl_0] at hx
  have hx6 : inR x 6 = true := by
    by_cases z : inR x 6 = true
    · exact z
    · rw [if_neg z] at hx
      cases hx
  obtain ⟨u, hu, ex, ec⟩ := inR_nI (by omega) hx6
  rw [if_pos hx6, ec] at hx
  rw [← Option.some.inj hx]
  subst ex
  refine g_astore_n (q := 7) (i := 3) hC dX4_makeFile_6 rfl (by decide) rfl ?_
  refine g_aload_n (q := 8) (i := 0) hC dX4_makeFile_7 rfl rfl rfl ?_
  refine g_iconst (q := 9) (v := nI 1) hC dX4_makeFile_8 rfl rfl ?_
  refine g_iload_n (q := 10) (i := 1) hC dX4_makeFile_9 rfl rfl rfl ?_
  refine g_iconst (q := 11) (v := nI 3) hC dX4_makeFile_10 rfl rfl ?_
  refine g_irem (q := 12) (v := (nI (u % 3))) hC dX4_makeFile_11 (by decide) (pk_rem (by omega) (by omega) (by omega)) rfl ?_
  have hg : u % 3 < 3 := Nat.mod_lt _ (by decide)
  refine g_cr (q := 15) (g_runV hC kv_X4_146 md_X4_accountOf (c_L_accountOf _ hC.fl M _ A ρ W 1 (nI (u % 3)) hr hW) (ci := 4) rfl (hr.led hW) dX4_makeFile_12 (by decide) (by decide) (by omega) (by omega) rfl rfl (Nat.le_of_ble_eq_true rfl)) rfl (fun r σ ⟨⟨a', hx, e1⟩, e2⟩ => ?_) (fun E σ2 h9 => by obtain ⟨⟨rfl, h8⟩, rfl⟩ := h9; rw [acl_1 hg] at h8; cases h8)
  subst e1 e2
  rw [acl_1 hg] at hx
  rw [← Option.some.inj hx]
  refine g_astore (q := 17) (i := 4) hC dX4_makeFile_15 (by decide) rfl ?_
  refine g_aload_n (q := 18) (i := 0) hC dX4_makeFile_17 rfl rfl rfl ?_
  refine g_iload_n (q := 19) (i := 2) hC dX4_makeFile_18 rfl rfl rfl ?_
  refine g_cr (q := 22) (g_runV hC kv_X4_111 md_X4_projectOfNumber (c_L_projectOfNumber _ hC.fl M _ A ρ W y hr hW) (ci := 4) rfl (hr.led hW) dX4_makeFile_19 (by decide) (by decide) (by omega) (by omega) rfl rfl (Nat.le_of_ble_eq_true rfl)) rfl (fun r σ ⟨⟨hy, e1⟩, e2⟩ => ?_) (fun E σ2 h9 => by obtain ⟨⟨rfl, h8⟩, rfl⟩ := h9; exact g_out hR htb (by omega) (by omega) (lX_of (by rw [lo_makeFile, if_pos (Or.inr h8)]) eI_n))
  subst e1 e2
  obtain ⟨p, hp, ey, ec'⟩ := inR_nI (by omega) hy
  have eT : lo_makeFile ρ (nI u) y = (if 40 ≤ ρ.1 10 4 then (eS, 0, ρ) else lb2 ρ (bpl (mkF ρ u p) (ρ.1 10 4) 0 1) (nI (ρ.1 10 4), chg (sN (mkF ρ u p) 10 4 (ρ.1 10 4 + 1)) (ρ.1 10 4) 0 1)) := by
    rw [lo_makeFile, if_neg (fun z => z.elim (fun z => by rw [hx6] at z; cases z) (fun z => by rw [hy] at z; cases z)), ec, ec']
  rw [eT, ec']
  refine g_astore (q := 24) (i := 5) hC dX4_makeFile_22 (by decide) rfl ?_
  refine g_aload_n (q := 25) (i := 0) hC dX4_makeFile_24 rfl rfl rfl ?_
  refine g_getf (q := 28) (v := .ref (A 5 4)) hC kg_X4_22 dX4_makeFile_25 (hr.led hW) rfl rfl ?_
  refine g_ci (q := 31) (g_runV hC kv_X4_99 md_Jx4a65c_size_8abf5 (c_size _ hC.fl M _ (A 5 4) _ _ _ hr.l4) (ci := 6) rfl hr.l4 dX4_makeFile_28 (by decide) (by decide) (by omega) (by omega) rfl rfl (Nat.le_of_ble_eq_true rfl)) rfl (fun r σ ⟨e1, e2⟩ => ?_) (fun _ _ h9 => False.elim h9)
  subst e1 e2
  refine g_bipush (q := 33) (v := nI 40) hC dX4_makeFile_31 rfl rfl ?_
  refine g_icmp_lt (tgt := 46) (q := 36) hC dX4_makeFile_33 (by decide) rfl (fun c_33 => ?_) (fun c_33 => ?_)
  · have h40 : ρ.1 10 4 < 40 := Nat.lt_of_not_le (fun z => absurd c_33 (Int32.not_lt.mpr (nI_le z (by omega))))
    rw [if_neg (by omega)]
    refine g_new (q := 49) (ty := tyX3) (fs := [.int 0, .null, .null, .null, .int 0, .int 0]) hC kn_X4_152 tyX3_ok dX4_makeFile_46 (fun j hj => by
      have h : j = 0 ∨ j = 1 ∨ j = 2 ∨ j = 3 ∨ j = 4 ∨ j = 5 := by omega
      rcases h with rfl | rfl | rfl | rfl | rfl | rfl <;> rfl) (by omega) (by omega) rfl (fun z hz => ?_)
    have hF := hr.newF hW (u := u) (g := 6 + u % 3) (p := p) e34 hz
    have hWF := fN_W hW (u := u) (g := 6 + u % 3) (p := p) e34 h40 hu ⟨by omega, by omega⟩ (by omega)
    have hled : gUp σ z (oB 3 [.int 0, .null, .null, .null, .int 0, .int 0]) (A 0 0) = some (oB 4 (ledF A ρ)) := by
      rw [gUp_ne _ _ (fun e => by rw [← e, hr.led hW] at hz; cases hz)]
      exact hr.led hW
    have hl4 : gUp σ z (oB 3 [.int 0, .null, .null, .null, .int 0, .int 0]) (A 5 4) = some (oB 6 (lV (wMd W 4) (wDd W 4) (ρ.1 10 4))) := by
      rw [gUp_ne _ _ (fun e => by rw [← e, hr.l4] at hz; cases hz)]
      exact hr.l4
    refine g_dup (q := 50) hC dX4_makeFile_49 rfl rfl ?_
    refine g_aload_n (q := 51) (i := 0) hC dX4_makeFile_50 rfl rfl rfl ?_
    refine g_getf (q := 54) hC kg_X4_22 dX4_makeFile_51 hled rfl rfl ?_
    refine g_ci (q := 57) (g_runV hC kv_X4_99 md_Jx4a65c_size_8abf5 (c_size _ hC.fl M _ (A 5 4) _ _ _ hl4) (ci := 6) rfl hl4 dX4_makeFile_54 (by decide) (by decide) (by omega) (by omega) rfl rfl (Nat.le_of_ble_eq_true rfl)) rfl (fun r σ3 ⟨e1, e2⟩ => ?_) (fun _ _ h9 => False.elim h9)
    subst e1 e2
    refine g_aload_n (q := 58) (i := 3) hC dX4_makeFile_57 rfl rfl rfl ?_
    refine g_aload (q := 60) (i := 4) hC dX4_makeFile_58 rfl rfl ?_
    refine g_aload (q := 62) (i := 5) hC dX4_makeFile_60 rfl rfl ?_
    refine g_cv (q := 65) (g_runI hC ki_X4_154 md_X3_init (c_F_init _ hC.fl M _ z (A 1 u) (A 1 (6 + u % 3)) (A 2 p) (nI (ρ.1 10 4)) (gUp_self _ _ _)) dX4_makeFile_62 (by decide) (by decide) (by omega) (by omega) rfl rfl (Nat.le_of_ble_eq_true rfl)) rfl (fun σ4 e4 => ?_) (fun _ _ h9 => False.elim h9)
    rw [gUp_up] at e4
    subst e4
    have eA0 : aN A 3 (ρ.1 10 4) z 0 0 = A 0 0 := aN_o A (Or.inl (by decide))
    have eA5 : ∀ j, aN A 3 (ρ.1 10 4) z 5 j = A 5 j := fun j => aN_o A (Or.inl (by decide))
    have eA3 : aN A 3 (ρ.1 10 4) z 3 (ρ.1 10 4) = z := aN_s _ _ _ _
    generalize eA9 : aN A 3 (ρ.1 10 4) z = A' at *
    obtain ⟨hF1, hF2⟩ := hF
    rw [← eA0, ← eA3]
    rw [← eA3] at hF1 hF2
    generalize gUp σ (A' 3 (ρ.1 10 4)) (oB 3 [.int (nI (ρ.1 10 4)), .ref (A 1 u), .ref (A 1 (6 + u % 3)), .ref (A 2 p), .int 0, .int 0]) = σ5 at hF1 hF2
    refine g_astore (q := 67) (i := 6) hC dX4_makeFile_65 (by decide) rfl ?_
    refine g_aload_n (q := 68) (i := 0) hC dX4_makeFile_67 rfl rfl rfl ?_
    refine g_aload (q := 70) (i := 6) hC dX4_makeFile_68 rfl rfl ?_
    refine g_iconst (q := 71) (v := (0)) hC dX4_makeFile_70 rfl rfl ?_
    refine g_iconst (q := 72) (v := (1)) hC dX4_makeFile_71 rfl rfl ?_
    have hn5 : ρ.1 10 4 < (fN ρ (ρ.1 10 4) u (6 + u % 3) p).1 11 3 := by simp [fN, sN, sI, sB, up2]
    refine g_ci (q := 75) (g_runV hC kv_X4_157 md_X4_barringPlace (c_L_barringPlace _ hC.fl M _ A' _ W (ρ.1 10 4) 0 1 hF1 hWF hn5) (ci := 4) rfl (hF1.led hWF) dX4_makeFile_72 (by decide) (by decide) (by omega) (by omega) rfl rfl (Nat.le_of_ble_eq_true rfl)) rfl (fun r σ6 ⟨e1, ⟨W6, hr6⟩, hF6⟩ => ?_) (fun _ _ h9 => False.elim h9)
    subst e1
    refine g_istore (q := 77) (i := 7) hC dX4_makeFile_75 (by decide) rfl ?_
    refine g_iload (q := 79) (i := 7) hC dX4_makeFile_77 rfl rfl ?_
    refine g_iconst (q := 80) (v := (-1)) hC dX4_makeFile_79 rfl rfl ?_
    refine g_icmp_eq (tgt := 89) (q := 83) hC dX4_makeFile_80 (by decide) rfl (fun c_80 => ?_) (fun c_80 => ?_)
    · have e9 := bpl_n.mp c_80
      have hl4' : σ6 (A' 5 4) = some (oB 6 (lV (wMd W6 4) (wDd W6 4) (ρ.1 10 4))) := hr6.l4
      have hLR := hr6.2.2.1 4 ⟨by decide, by decide, by decide⟩
      have hc4 : cntL (fN ρ (ρ.1 10 4) u (6 + u % 3) p) W6 4 = ρ.1 10 4 := rfl
      refine g_aload_n (q := 90) (i := 0) hC dX4_makeFile_89 rfl rfl rfl ?_
      refine g_getf (q := 93) (v := .ref (A' 5 4)) hC kg_X4_22 dX4_makeFile_90 (hr6.led hWF) rfl rfl ?_
      refine g_aload (q := 95) (i := 6) hC dX4_makeFile_93 rfl rfl ?_
      have hle4 : ρ.1 10 4 ≤ wN W6 4 := hLR.2.2.1
      refine g_addG (q := 98) (ms9 := 60) hC hl4' hLR.2.1 hle4 hLR.2.2.2.1.1 (by omega) ?_ (hr6.els hWF (j := 4) ⟨by decide, by decide, by decide⟩ (fun z => absurd z (by decide))) (hr6.gobj (k := 3) (by decide) (by decide) hn5) dX4_makeFile_95 (by omega) (by omega) (by omega) (Nat.le_of_ble_eq_true rfl) rfl (fun σ7 d2 n2 hg => ?_)
      · unfold gGrow
        split <;> omega
      · have hW7 : RW (sN (fN ρ (ρ.1 10 4) u (6 + u % 3) p) 10 4 (ρ.1 10 4 + 1)) := sN_10_4 hWF hn5 (Nat.le_succ _)
        obtain ⟨⟨W7, hr7⟩, hF7⟩ := hr6.addL (ρ' := sN (fN ρ (ρ.1 10 4) u (6 + u % 3) p) 10 4 (ρ.1 10 4 + 1)) (j := 4) ⟨by decide, by decide, by decide⟩ hg (by rw [hc4]; omega) (by decide) rfl (fun k i hk hi => cel_10 (A := A') (ρ := fN ρ (ρ.1 10 4) u (6 + u % 3) p) (ρ' := sN (fN ρ (ρ.1 10 4) u (6 + u % 3) p) 10 4 (ρ.1 10 4 + 1)) (j := 4) (v := ρ.1 10 4 + 1) rfl rfl k i hk) (fun k => rfl) (fun j' hj' => up2_ne _ _ (Or.inr hj')) (up2_self (fN ρ (ρ.1 10 4) u (6 + u % 3) p).1 10 4 (ρ.1 10 4 + 1)) rfl (fun i => rfl)
        refine g_pop (q := 99) hC dX4_makeFile_98 rfl rfl ?_
        refine g_aload_n (q := 100) (i := 0) hC dX4_makeFile_99 rfl rfl rfl ?_
        refine g_aload (q := 102) (i := 6) hC dX4_makeFile_100 rfl rfl ?_
        refine g_iconst (q := 103) (v := (0)) hC dX4_makeFile_102 rfl rfl ?_
        refine g_iconst (q := 104) (v := (1)) hC dX4_makeFile_103 rfl rfl ?_
        refine g_cv (q := 107) (g_runV hC kv_X4_165 md_X4_charge (c_L_charge _ hC.fl M _ A' _ W7 (ρ.1 10 4) 0 1 hr7 hW7 hn5) (ci := 4) rfl (hr7.led hW7) dX4_makeFile_104 (by decide) (by decide) (by omega) (by omega) rfl rfl (Nat.le_of_ble_eq_true rfl)) rfl (fun σ8 ⟨⟨W8, hr8⟩, hF8⟩ => ?_) (fun _ _ h9 => False.elim h9)
        refine g_aload (q := 109) (i := 6) hC dX4_makeFile_107 rfl rfl ?_
        refine g_getf (q := 112) hC kg_X4_169 dX4_makeFile_109 (hr8.fil (f := ρ.1 10 4) (by rw [chg_1]; exact hn5)) rfl rfl ?_
        exact g_iret hC hR dX4_makeFile_112 (by omega) (by omega) (⟨_, rfl, by rw [show bpl (mkF ρ u p) (ρ.1 10 4) 0 1 = none from e9]; exact ⟨rfl, rfl, ⟨A', eA0, W8, hr8⟩, ((hF2.trans hF6).trans hF7).trans hF8⟩⟩)
    · cases e9 : bpl (fN ρ (ρ.1 10 4) u (6 + u % 3) p) (ρ.1 10 4) 0 1 with
      | none => exact absurd (by rw [e9]; rfl) c_80
      | some j =>
        refine g_iload (q := 85) (i := 7) hC dX4_makeFile_83 rfl rfl ?_
        refine g_ci (q := 88) (g_runS hC ks_X4_161 md_X4_barredAnswer (c_L_barred _ hC.fl M _ (nI j)) dX4_makeFile_85 (by decide) (by decide) (by omega) (by omega) rfl rfl (Nat.le_of_ble_eq_true rfl)) rfl (fun r σ1 ⟨e1, e2⟩ => ?_) (fun _ _ h9 => False.elim h9)
        subst e1 e2
        have hr9 := hr6.fewer (ρ' := ρ) (fun k i hk hi => fN_cel hW A' e34 hk hi) (fun k hk => fN_cnt e34 k) (fun j => by simp [fN, sN, sI, sB, up2]) rfl (fun i => rfl)
        exact g_iret hC hR dX4_makeFile_88 (by omega) (by omega) (⟨_, rfl, by rw [show bpl (mkF ρ u p) (ρ.1 10 4) 0 1 = some j from e9]; exact ⟨rfl, rfl, ⟨A', eA0, W6, hr9⟩, hF2.trans hF6⟩⟩)
  · have h40 : 40 ≤ ρ.1 10 4 := Nat.le_of_not_lt (fun z => c_33 (nI_lt z (by decide)))
    rw [if_pos h40]
    exact g_throwS hC hR htb (tS (is := 150) (text := "there are all the files that can be") (by decide +kernel)) dX4_makeFile_36 dX4_makeFile_39 dX4_makeFile_40 dX4_makeFile_42 dX4_makeFile_45 (by decide) (Nat.le_of_ble_eq_true rfl) (by omega) (by omega) (lX_of rfl eS_n)
