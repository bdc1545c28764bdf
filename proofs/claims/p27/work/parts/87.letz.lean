/-! ===== letterAt where there is such a project and place: no cell is made ===== -/
set_option maxRecDepth 100000 in
set_option maxHeartbeats 4000000 in
theorem c_L_projectOfNumberZ (l : Launch) (hfl : l.stackTraces = false) (M : gMT) (σ : gS) (A : gAd) (ρ : gSt) (W : gWt) (x : Int32) (hr : Raw M σ A ρ W) (hW : RW ρ) (hin : inR x (ρ.1 10 3) = true) : Con l M yX4_projectOfNumber (.code yX4_projectOfNumber cX4_projectOfNumber 2 (Option.some (FieldType.object "AllotmentLedger$Project"))) 6 0 0 [.ref (A 0 0), .int x] σ (rR fun r σ2 => (inR x (ρ.1 10 3) = true ∧ r = A 2 x.toNatClampNeg) ∧ σ2 = σ) (nX) := by
  refine g_con hfl (by decide) (lv := [(0, .ref (A 0 0)), (1, .int x)]) rfl rfl (Nat.le_of_ble_eq_true rfl) (fun X hX hC hR htb => ?_)
  have b2 := hW.2.1
  refine g_iload_n (q := 1) (i := 1) hC dX4_projectOfNumber_0 rfl rfl rfl ?_
  refine g_if_lt (tgt := 15) (q := 4) hC dX4_projectOfNumber_1 (by decide) rfl (fun c_1 => ?_) (fun c_1 => ?_)
  · exact absurd (inR_f1 c_1) (by rw [hin]; decide)
  · refine g_iload_n (q := 5) (i := 1) hC dX4_projectOfNumber_4 rfl rfl rfl ?_
    refine g_aload_n (q := 6) (i := 0) hC dX4_projectOfNumber_5 rfl rfl rfl ?_
    refine g_getf (q := 9) (v := .ref (A 5 3)) hC kg_X4_19 dX4_projectOfNumber_6 (hr.led hW) rfl rfl ?_
    refine g_ci (q := 12) (g_runV hC kv_X4_99 md_Jx4a65c_size_8abf5 (c_size _ hC.fl M _ (A 5 3) _ _ _ hr.l3) (ci := 6) rfl hr.l3 dX4_projectOfNumber_9 (by decide) (by decide) (by omega) (by omega) rfl rfl (Nat.le_of_ble_eq_true rfl)) rfl (fun r σ ⟨e1, e2⟩ => ?_) (fun _ _ h9 => False.elim h9)
    subst e1 e2
    refine g_icmp_lt (tgt := 26) (q := 15) hC dX4_projectOfNumber_12 (by decide) rfl (fun c_12 => ?_) (fun c_12 => ?_)
    · have h8 := inR_t c_1 c_12
      obtain ⟨p, hp, ex, ec⟩ := inR_nI (by omega) h8
      subst ex
      refine g_aload_n (q := 27) (i := 0) hC dX4_projectOfNumber_26 rfl rfl rfl ?_
      refine g_getf (q := 30) (v := .ref (A 5 3)) hC kg_X4_19 dX4_projectOfNumber_27 (hr.led hW) rfl rfl ?_
      refine g_iload_n (q := 31) (i := 1) hC dX4_projectOfNumber_30 rfl rfl rfl ?_
      refine g_cr (q := 34) (g_runV hC kv_X4_186 md_Jx4a65c_get_915e3 (c_gt3 _ hC.fl hr p hp) (ci := 6) rfl hr.l3 dX4_projectOfNumber_31 (by decide) (by decide) (by omega) (by omega) rfl rfl (Nat.le_of_ble_eq_true rfl)) rfl (fun r σ ⟨e1, e2⟩ => ?_) (fun _ _ h9 => False.elim h9)
      subst e1 e2
      refine g_ccast (q := 37) (ci := 1) hC kc_X4_56 dX4_projectOfNumber_34 rfl (hr.prj (by omega)) rfl ?_
      exact g_aret (o := some (A 2 p)) hC hR (Or.inl ⟨_, rfl⟩) dX4_projectOfNumber_37 (by omega) (by omega) (⟨_, rfl, ⟨h8, by rw [ec]⟩, rfl⟩)
    · exact absurd (inR_f2 (Int32.not_lt.mp c_12)) (by rw [hin]; decide)
set_option maxRecDepth 100000 in
set_option maxHeartbeats 4000000 in
theorem c_L_letterAtZ (l : Launch) (hfl : l.stackTraces = false) (M : gMT) (σ : gS) (A : gAd) (ρ : gSt) (W : gWt) (x pl : Int32) (hr : Raw M σ A ρ W) (hW : RW ρ) (hin : inR x (ρ.1 10 3) = true) (hpl0 : ¬ pl < 0) : Con l M yX4_letterAt (.code yX4_letterAt cX4_letterAt 6 (Option.some FieldType.char)) 12 0 0 [.ref (A 0 0), .int x, .int pl] σ (rI (lP M σ A (lo_letterAt ρ x pl))) (nX) := by
  refine g_con hfl (by decide) (lv := [(0, .ref (A 0 0)), (1, .int x), (2, .int pl)]) rfl rfl (Nat.le_of_ble_eq_true rfl) (fun X hX hC hR htb => ?_)
  have b2 := hW.2.1
  have b7 := hW.2.2.2.2.2.2.1
  refine g_aload_n (q := 1) (i := 0) hC dX4_letterAt_0 rfl rfl rfl ?_
  refine g_iload_n (q := 2) (i := 1) hC dX4_letterAt_1 rfl rfl rfl ?_
  refine g_cr (q := 5) (g_runV hC kv_X4_111 md_X4_projectOfNumber (c_L_projectOfNumberZ _ hC.fl M _ A ρ W x hr hW hin) (ci := 4) rfl (hr.led hW) dX4_letterAt_2 (by decide) (by decide) (by omega) (by omega) rfl rfl (Nat.le_of_ble_eq_true rfl)) rfl (fun r σ ⟨⟨hx, e1⟩, e2⟩ => ?_) (fun _ _ h9 => False.elim h9)
  subst e1 e2
  obtain ⟨p, hp, ex, ec⟩ := inR_nI (by omega) hx
  rw [ec]
  have hd := dep_le ρ p
  refine g_astore_n (q := 6) (i := 3) hC dX4_letterAt_5 rfl (by decide) rfl ?_
  refine g_iload_n (q := 7) (i := 2) hC dX4_letterAt_6 rfl rfl rfl ?_
  refine g_if_ge (tgt := 20) (q := 10) hC dX4_letterAt_7 (by decide) rfl (fun c_7 => ?_) (fun c_7 => ?_)
  · have hpl := Int32.not_lt.mpr c_7
    have eT : lo_letterAt ρ x pl = ("", if nI (dep ρ p) - 1 < pl then 32 else nI (ρ.1 2 ((upn ρ p (dep ρ p - 1 - pl.toNatClampNeg)).getD 0)), ρ) := by
      rw [lo_letterAt, if_neg (fun z => z.elim (fun y => by rw [hx] at y; cases y) hpl), ec]
    rw [eT]
    refine g_aload_n (q := 21) (i := 3) hC dX4_letterAt_20 rfl rfl rfl ?_
    refine g_ci (q := 24) (g_runV hC kv_X4_139 md_X1_letters (c_P_letters _ hC.fl M _ A ρ W p hr hW (by omega)) (ci := 1) rfl (hr.prj (by omega)) dX4_letterAt_21 (by decide) (by decide) (by omega) (by omega) rfl rfl (Nat.le_of_ble_eq_true rfl)) rfl (fun r σ ⟨e1, e2⟩ => ?_) (fun _ _ h9 => False.elim h9)
    subst e1 e2
    refine g_iconst (q := 25) (v := (1)) hC dX4_letterAt_24 rfl rfl ?_
    refine g_isub (q := 26) hC dX4_letterAt_25 rfl rfl ?_
    refine g_istore (q := 28) (i := 4) hC dX4_letterAt_26 (by decide) rfl ?_
    refine g_iload_n (q := 29) (i := 2) hC dX4_letterAt_28 rfl rfl rfl ?_
    refine g_iload (q := 31) (i := 4) hC dX4_letterAt_29 rfl rfl ?_
    refine g_icmp_le (tgt := 37) (q := 34) hC dX4_letterAt_31 (by decide) rfl (fun c_31 => ?_) (fun c_31 => ?_)
    · have hpl2 : ¬ nI (dep ρ p) - 1 < pl := Int32.not_lt.mpr c_31
      rw [if_neg hpl2]
      have ej := nonneg_nI c_7
      have hlt : pl.toNatClampNeg < 2 ^ 31 := Int32.toNatClampNeg_lt _
      generalize hj : pl.toNatClampNeg = j at *
      subst ej
      have hd1 : 1 ≤ dep ρ p := by
        rcases Nat.eq_zero_or_pos (dep ρ p) with z | z
        · rw [z] at c_31
          have h6 := Int32.le_iff_toInt_le.mp c_31
          rw [nI_toInt hlt] at h6
          have : (nI 0 - 1).toInt = -1 := by decide
          omega
        · exact z
      have ed : nI (dep ρ p) - 1 = nI (dep ρ p - 1) := pk_sub (b := 1) hd1
      rw [ed] at c_31 ⊢
      have hjd : j ≤ dep ρ p - 1 := (nI_leI hlt (by omega)).mp c_31
      have fin : ∀ (q : Nat) (lv : List (Nat × Value)), q < ρ.1 11 2 → upn ρ p (dep ρ p - 1 - j) = some q → gL lv 3 = some (.ref (A 2 q)) → G X M 6 (gQ X M 0 0 (rI (lP M σ A ("", nI (ρ.1 2 ((upn ρ p (dep ρ p - 1 - j)).getD 0)), ρ))) nX) (0 + 0 + 0) (0 + 0 + 0) σ 65 lv [] := by
        intro q lv hq hu g3
        refine g_aload_n (q := 66) (i := 3) hC dX4_letterAt_65 rfl g3 rfl ?_
        refine g_getf (q := 69) (v := .int (nI (ρ.1 2 q))) hC kg_X4_142 dX4_letterAt_66 (hr.prj (by omega)) rfl rfl ?_
        exact g_zret hC hR ((pk_charN (by have := (b7 q hq).1; omega)).1) dX4_letterAt_69 (by omega) (by omega) (⟨_, rfl, lP_same hr (by rw [hu]; rfl)⟩)
      have loop : ∀ (d9 t q : Nat), j + d9 + t = dep ρ p - 1 → upn ρ p t = some q → G X M 6 (gQ X M 0 0 (rI (lP M σ A ("", nI (ρ.1 2 ((upn ρ p (dep ρ p - 1 - j)).getD 0)), ρ))) nX) (0 + 0 + 0) (0 + 0 + 0) σ 41 [(5, .int (nI (j + d9))), (3, .ref (A 2 q)), (2, .int (nI j))] [] := by
        intro d9
        induction d9 with
        | zero =>
          intro t q h1 hu
          have hq := upn_lt hW (by omega) _ _ hu
          refine g_iload (q := 43) (i := 5) hC dX4_letterAt_41 rfl rfl ?_
          refine g_iload_n (q := 44) (i := 2) hC dX4_letterAt_43 rfl rfl rfl ?_
          refine g_icmp_le (tgt := 65) (q := 47) hC dX4_letterAt_44 (by decide) rfl (fun c_44 => ?_) (fun c_44 => ?_)
          · exact fin q _ hq (by rw [show dep ρ p - 1 - j = t by omega]; exact hu) rfl
          · exact absurd (nI_le (by omega) (by omega)) c_44
        | succ d9 ih =>
          intro t q h1 hu
          have hq := upn_lt hW (by omega) _ _ hu
          obtain ⟨q', hu'⟩ := dep_some ρ p (t + 1) (by omega)
          have hpar : par ρ q = some q' := by rw [← upn_s ρ p t hu]; exact hu'
          refine g_sub (lv0 := [(5, .int (nI (j + d9 + 1))), (3, .ref (A 2 q)), (2, .int (nI j))]) ⟨rfl, rfl, rfl, trivial⟩ ?_
          refine g_iload (q := 43) (i := 5) hC dX4_letterAt_41 rfl rfl ?_
          refine g_iload_n (q := 44) (i := 2) hC dX4_letterAt_43 rfl rfl rfl ?_
          refine g_icmp_le (tgt := 65) (q := 47) hC dX4_letterAt_44 (by decide) rfl (fun c_44 => ?_) (fun c_44 => ?_)
          · exact absurd c_44 (nI_ge (by omega) (by omega))
          · refine g_aload_n (q := 48) (i := 3) hC dX4_letterAt_47 rfl rfl rfl ?_
            refine g_getf (q := 51) (v := va_rf ((par ρ q).map (A 2))) hC kg_X4_120 dX4_letterAt_48 (hr.prj (by omega)) rfl rfl ?_
            rw [hpar]
            refine g_ifnull (o := some (A 2 q')) (tgt := 65) (q := 54) hC dX4_letterAt_51 (by decide) rfl (fun c_51 => ?_) (fun a c_51 => ?_)
            · cases c_51
            · refine g_aload_n (q := 55) (i := 3) hC dX4_letterAt_54 rfl rfl rfl ?_
              refine g_getf (q := 58) (v := va_rf ((par ρ q).map (A 2))) hC kg_X4_120 dX4_letterAt_55 (hr.prj (by omega)) rfl rfl ?_
              rw [hpar]
              refine g_astore_n (q := 59) (i := 3) hC dX4_letterAt_58 rfl (by decide) rfl ?_
              refine g_iinc (q := 62) (i := 5) (v := (nI (j + d9))) hC dX4_letterAt_59 rfl (pk_m1 _) rfl ?_
              refine g_goto (tgt := 41) hC dX4_letterAt_62 (by decide) ?_
              refine g_sub (lv0 := [(5, .int (nI (j + d9))), (3, .ref (A 2 q')), (2, .int (nI j))]) ⟨rfl, rfl, rfl, trivial⟩ ?_
              exact ih (t + 1) q' (by omega) hu'
      refine g_iload (q := 39) (i := 4) hC dX4_letterAt_37 rfl rfl ?_
      refine g_istore (q := 41) (i := 5) hC dX4_letterAt_39 (by decide) rfl ?_
      refine g_sub (lv0 := [(5, .int (nI (dep ρ p - 1))), (3, .ref (A 2 p)), (2, .int (nI j))]) ⟨rfl, rfl, rfl, trivial⟩ ?_
      have key := loop (dep ρ p - 1 - j) 0 p (by omega) rfl
      rw [show j + (dep ρ p - 1 - j) = dep ρ p - 1 by omega] at key
      exact key
    · have hpl2 : nI (dep ρ p) - 1 < pl := Int32.not_le.mp c_31
      refine g_bipush (q := 36) (v := (32)) hC dX4_letterAt_34 rfl rfl ?_
      exact g_zret hC hR (rfl) dX4_letterAt_36 (by omega) (by omega) (⟨_, rfl, lP_same hr (by rw [if_pos hpl2])⟩)
  · exact absurd (Int32.not_le.mp c_7) hpl0
set_option maxRecDepth 100000 in
set_option maxHeartbeats 4000000 in
theorem c_W_letterZ (l : Launch) (hfl : l.stackTraces = false) (M : gMT) (σ : gS) (A : gAd) (ρ : gSt) (W : gWt) (x : Int32) (y : Int32) (hr : Raw M σ A ρ W) (hW : RW ρ) (hin : inR x (ρ.1 10 3) = true) (hpl0 : ¬ y < 0) : Con l M yL_letter (.codeWith yL_letter cL_letter 4 (some .int) hL_letter) 13 0 0 [.ref (A 0 0), .int x, .int y] σ (rI fun r σ2 => r = wR (lo_letterAt ρ x y) ∧ ∃ A', A' 0 0 = A 0 0 ∧ RawE M σ2 A' (nx ρ (lo_letterAt ρ x y))) nX := by
  refine g_conW (hh := hL_letter) hfl (by decide) (lv := [(0, .ref (A 0 0)), (1, .int x), (2, .int y)]) rfl rfl (Nat.le_of_ble_eq_true rfl) (fun X hX hC hR htb => ?_)
  refine g_aload_n (q := 1) (i := 0) hC dL_letter_0 rfl rfl rfl ?_
  refine g_iload_n (q := 2) (i := 1) hC dL_letter_1 rfl rfl rfl ?_
  refine g_iload_n (q := 3) (i := 2) hC dL_letter_2 rfl rfl rfl ?_
  refine g_ci (q := 6) (g_runV hC kv_L_33 md_X4_letterAt (c_L_letterAtZ _ hC.fl M _ A ρ W x y hr hW hin hpl0) (ci := 4) rfl (hr.led hW) dL_letter_3 (by decide) (by decide) (by omega) (by omega) rfl rfl (Nat.le_of_ble_eq_true rfl)) rfl (fun r σ1 ⟨h1, h2, ⟨A', hA', h3⟩, h4⟩ => ?_) (fun _ _ h9 => False.elim h9)
  exact g_iret hC hR dL_letter_6 (by omega) (by omega) (⟨_, rfl, by rw [wR_ok h1]; exact h2, A', hA', by rw [nx_ok h1]; exact h3⟩)
theorem s_letterZ {l : Launch} (hfl : l.stackTraces = false) {M : gMT} {φ σ : gS} {a0 : Nat} {ρ : gSt} (x : Int32) (y : Int32) (hst : St M φ a0 ρ σ) (hW : RW ρ ∧ RE ρ) (hin : inR x (ρ.1 10 3) = true) (hpl0 : ¬ y < 0) : Con l M yL_letter (.codeWith yL_letter cL_letter 4 (some .int) hL_letter) 13 0 0 [.ref a0, .int x, .int y] σ (rI (sQ M φ a0 (wR (lo_letterAt ρ x y)) (nx ρ (lo_letterAt ρ x y)))) nX := St.lift hst (fun M σ1 A W h1 h2 => by subst h1; exact c_W_letterZ l hfl M σ1 A ρ W x y h2 hW.1 hin hpl0)
