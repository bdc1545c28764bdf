/-! ===== the ledger's calls (5): recount, setLimits, write, settle ===== -/
theorem sN_W6 {ρ : gSt} (hW : RW ρ) {v : Nat} (hv : v ≤ ρ.1 10 4) : RW (sN ρ 0 6 v) := by
  have hu : ∀ p k, upn (sN ρ 0 6 v) p k = upn ρ p k := by
    intro p k
    induction k with
    | zero => rfl
    | succ k ih =>
      unfold upn
      rw [ih]
      rfl
  obtain ⟨w1, w2, w3, w4, w5, w6, w7, w8, w9⟩ := hW
  refine ⟨w1, w2, w3, w4, w5, hv, fun p hp => ?_, w8, w9⟩
  obtain ⟨h1, h2, h3⟩ := w7 p hp
  exact ⟨h1, h2, (hu p 9).trans h3⟩
def rcN (ρ : gSt) : Nat → gSt
  | 0 => ρ
  | d + 1 => if ρ.1 0 6 < ρ.1 10 4 then rcN (sN (tkS ρ (ρ.1 0 6)) 0 6 (ρ.1 0 6 + 1)) d else ρ
def lo_recount (ρ : gSt) (n : Int32) : lRes := if n < 1 ∨ 40 < n then (eA, 0, ρ) else if ρ.2.2 0 5 = false then (eS, 0, ρ) else ("", nI ((rcN ρ n.toNatClampNeg).1 10 4 - (rcN ρ n.toNatClampNeg).1 0 6), rcN ρ n.toNatClampNeg)
set_option maxRecDepth 100000 in
set_option maxHeartbeats 4000000 in
theorem c_L_recount (l : Launch) (hfl : l.stackTraces = false) (M : gMT) (σ : gS) (A : gAd) (ρ : gSt) (n : Int32) (hre : RawE M σ A ρ) (hW : RW ρ) : Con l M yX4_recount (.code yX4_recount cX4_recount 3 (Option.some FieldType.int)) 12 80 1000 [.ref (A 0 0), .int n] σ (rI (lP M σ A (lo_recount ρ n))) (lX σ (lo_recount ρ n)) := by
  refine g_con hfl (by decide) (lv := [(0, .ref (A 0 0)), (1, .int n)]) rfl rfl (Nat.le_of_ble_eq_true rfl) (fun X hX hC hR htb => ?_)
  have bad : (n < 1 ∨ 40 < n) → G X M 3 (gQ X M 80 1000 (rI (lP M σ A (lo_recount ρ n))) (lX σ (lo_recount ρ n))) 0 0 σ 11 [(0, .ref (A 0 0)), (1, .int n)] [] := by
    intro hb
    exact g_throwSW hC hR htb (tA (is := 260) (text := "files is out of range") (by decide +kernel)) dX4_recount_11 dX4_recount_14 dX4_recount_15 dX4_recount_18 dX4_recount_21 (by decide) (Nat.le_of_ble_eq_true rfl) (by omega) (by omega) (lX_of (by rw [lo_recount, if_pos hb]) eA_n)
  obtain ⟨W, hr⟩ := hre
  refine g_iload_n (q := 1) (i := 1) hC dX4_recount_0 rfl rfl rfl ?_
  refine g_iconst (q := 2) (v := (1)) hC dX4_recount_1 rfl rfl ?_
  refine g_icmp_lt (tgt := 11) (q := 5) hC dX4_recount_2 (by decide) rfl (fun c_2 => ?_) (fun c_2 => ?_)
  · exact bad (Or.inl c_2)
  · refine g_iload_n (q := 6) (i := 1) hC dX4_recount_5 rfl rfl rfl ?_
    refine g_bipush (q := 8) (v := (40)) hC dX4_recount_6 rfl rfl ?_
    refine g_icmp_le (tgt := 22) (q := 11) hC dX4_recount_8 (by decide) rfl (fun c_8 => ?_) (fun c_8 => ?_)
    · have ok : ¬ (n < 1 ∨ 40 < n) := fun z => z.elim c_2 (Int32.not_lt.mpr c_8)
      have en := nonneg_nI (Int32.le_trans (by decide) (Int32.not_lt.mp c_2))
      have hn : n.toNatClampNeg ≤ 40 := by
        have h6 : n.toNatClampNeg = n.toInt.toNat := rfl
        have h7 := Int32.le_iff_toInt_le.mp c_8
        have : (40 : Int32).toInt = 40 := by decide
        omega
      refine g_aload_n (q := 23) (i := 0) hC dX4_recount_22 rfl rfl rfl ?_
      refine g_getf (q := 26) (v := .int (bI (ρ.2.2 0 5))) hC kg_X4_42 dX4_recount_23 (hr.led hW) rfl rfl ?_
      refine g_if_ne (tgt := 40) (q := 29) hC dX4_recount_26 (by decide) rfl (fun c_26 => ?_) (fun c_26 => ?_)
      · have hb := bI_n.mp c_26
        have eT : lo_recount ρ n = ("", nI ((rcN ρ n.toNatClampNeg).1 10 4 - (rcN ρ n.toNatClampNeg).1 0 6), rcN ρ n.toNatClampNeg) := by
          rw [lo_recount, if_neg ok, if_neg (by rw [hb]; decide)]
        rw [eT]
        generalize hj : n.toNatClampNeg = j at *
        subst en
        have fin : ∀ (σ3 : gS) (ρ3 : gSt) (W3 : gWt) (lv : List (Nat × Value)) (k9 n9 : Nat), k9 ≤ 80 → n9 ≤ 1000 → RW ρ3 → Raw M σ3 A ρ3 W3 → gFF σ σ3 → rcN ρ j = ρ3 → gL lv 0 = some (.ref (A 0 0)) → G X M 3 (gQ X M 80 1000 (rI (lP M σ A ("", nI ((rcN ρ j).1 10 4 - (rcN ρ j).1 0 6), rcN ρ j))) (lX σ ("", nI ((rcN ρ j).1 10 4 - (rcN ρ j).1 0 6), rcN ρ j))) k9 n9 σ3 95 lv [] := by
          intro σ3 ρ3 W3 lv k9 n9 hk9 hn9 hW3 hr3 hF e g0
          have w6 := hW3.2.2.2.2.2.1
          refine g_aload_n (q := 96) (i := 0) hC dX4_recount_95 rfl g0 rfl ?_
          refine g_getf (q := 99) (v := .ref (A 5 4)) hC kg_X4_22 dX4_recount_96 (hr3.led hW3) rfl rfl ?_
          refine g_ci (q := 102) (g_runV hC kv_X4_99 md_Jx4a65c_size_8abf5 (c_size _ hC.fl M _ (A 5 4) _ _ _ hr3.l4) (ci := 6) rfl hr3.l4 dX4_recount_99 (by decide) (by decide) (by omega) (by omega) rfl rfl (Nat.le_of_ble_eq_true rfl)) rfl (fun r σ3 ⟨e1, e2⟩ => ?_) (fun _ _ h9 => False.elim h9)
          subst e1 e2
          refine g_aload_n (q := 103) (i := 0) hC dX4_recount_102 rfl g0 rfl ?_
          refine g_getf (q := 106) (v := .int (nI (ρ3.1 0 6))) hC kg_X4_46 dX4_recount_103 (hr3.led hW3) rfl rfl ?_
          refine g_isub (q := 107) (v := (nI ((ρ3.1 10 4) - (ρ3.1 0 6)))) hC dX4_recount_106 (pk_sub w6) rfl ?_
          exact g_iret hC hR dX4_recount_107 (by omega) (by omega) (⟨_, rfl, by rw [e]; exact ⟨rfl, rfl, ⟨A, rfl, W3, hr3⟩, hF⟩⟩)
        have loop : ∀ (d9 i : Nat) (σ3 : gS) (ρ3 : gSt), i + d9 = j → RW ρ3 → RawE M σ3 A ρ3 → gFF σ σ3 → rcN ρ j = rcN ρ3 d9 → G X M 3 (gQ X M 80 1000 (rI (lP M σ A ("", nI ((rcN ρ j).1 10 4 - (rcN ρ j).1 0 6), rcN ρ j))) (lX σ ("", nI ((rcN ρ j).1 10 4 - (rcN ρ j).1 0 6), rcN ρ j))) (2 * i) (25 * i) σ3 42 [(2, .int (nI i)), (0, .ref (A 0 0)), (1, .int (nI j))] [] := by
          intro d9
          induction d9 with
          | zero =>
            intro i σ3 ρ3 h1 hW3 hre3 hF e
            obtain ⟨W3, hr3⟩ := hre3
            refine g_iload_n (q := 43) (i := 2) hC dX4_recount_42 rfl rfl rfl ?_
            refine g_iload_n (q := 44) (i := 1) hC dX4_recount_43 rfl rfl rfl ?_
            refine g_icmp_ge (tgt := 95) (q := 47) hC dX4_recount_44 (by decide) rfl (fun c_44 => ?_) (fun c_44 => ?_)
            · exact fin σ3 ρ3 W3 _ _ _ (by omega) (by omega) hW3 hr3 hF e rfl
            · exact absurd (nI_le (by omega) (by omega)) c_44
          | succ d9 ih =>
            intro i σ3 ρ3 h1 hW3 hre3 hF e
            obtain ⟨W3, hr3⟩ := hre3
            have w6 := hW3.2.2.2.2.2.1
            have w3 := hW3.2.2.1
            refine g_iload_n (q := 43) (i := 2) hC dX4_recount_42 rfl rfl rfl ?_
            refine g_iload_n (q := 44) (i := 1) hC dX4_recount_43 rfl rfl rfl ?_
            refine g_icmp_ge (tgt := 95) (q := 47) hC dX4_recount_44 (by decide) rfl (fun c_44 => ?_) (fun c_44 => ?_)
            · exact absurd c_44 (nI_ge (by omega) (by omega))
            · refine g_aload_n (q := 48) (i := 0) hC dX4_recount_47 rfl rfl rfl ?_
              refine g_getf (q := 51) (v := .int (nI (ρ3.1 0 6))) hC kg_X4_46 dX4_recount_48 (hr3.led hW3) rfl rfl ?_
              refine g_aload_n (q := 52) (i := 0) hC dX4_recount_51 rfl rfl rfl ?_
              refine g_getf (q := 55) (v := .ref (A 5 4)) hC kg_X4_22 dX4_recount_52 (hr3.led hW3) rfl rfl ?_
              refine g_ci (q := 58) (g_runV hC kv_X4_99 md_Jx4a65c_size_8abf5 (c_size _ hC.fl M _ (A 5 4) _ _ _ hr3.l4) (ci := 6) rfl hr3.l4 dX4_recount_55 (by decide) (by decide) (by omega) (by omega) rfl rfl (Nat.le_of_ble_eq_true rfl)) rfl (fun r σ3 ⟨e1, e2⟩ => ?_) (fun _ _ h9 => False.elim h9)
              subst e1 e2
              refine g_icmp_ge (tgt := 95) (q := 61) hC dX4_recount_58 (by decide) rfl (fun c_58 => ?_) (fun c_58 => ?_)
              · have hge : ¬ ρ3.1 0 6 < ρ3.1 10 4 := fun z => absurd c_58 (nI_ge z (by omega))
                exact fin σ3 ρ3 W3 _ _ _ (by omega) (by omega) hW3 hr3 hF (by rw [e, rcN, if_neg hge]) rfl
              · have hlt : ρ3.1 0 6 < ρ3.1 10 4 := (nI_ltI (by omega) (by omega)).mp (Int32.not_le.mp c_58)
                refine g_aload_n (q := 62) (i := 0) hC dX4_recount_61 rfl rfl rfl ?_
                refine g_aload_n (q := 63) (i := 0) hC dX4_recount_62 rfl rfl rfl ?_
                refine g_getf (q := 66) (v := .ref (A 5 4)) hC kg_X4_22 dX4_recount_63 (hr3.led hW3) rfl rfl ?_
                refine g_aload_n (q := 67) (i := 0) hC dX4_recount_66 rfl rfl rfl ?_
                refine g_getf (q := 70) (v := .int (nI (ρ3.1 0 6))) hC kg_X4_46 dX4_recount_67 (hr3.led hW3) rfl rfl ?_
                refine g_cr (q := 73) (g_runV hC kv_X4_186 md_Jx4a65c_get_915e3 (c_gt4 _ hC.fl hr3 (ρ3.1 0 6) hlt) (ci := 6) rfl hr3.l4 dX4_recount_70 (by decide) (by decide) (by omega) (by omega) rfl rfl (Nat.le_of_ble_eq_true rfl)) rfl (fun r σ3 ⟨e1, e2⟩ => ?_) (fun _ _ h9 => False.elim h9)
                subst e1 e2
                refine g_ccast (q := 76) (ci := 3) hC kc_X4_152 dX4_recount_73 rfl (hr3.fil (by omega)) rfl ?_
                refine g_cv (q := 79) (g_runV hC kv_X4_264 md_X4_take (c_L_take _ hC.fl M _ A ρ3 W3 (ρ3.1 0 6) hr3 hW3 (by omega)) (ci := 4) rfl (hr3.led hW3) dX4_recount_76 (by decide) (by decide) (by omega) (by omega) rfl rfl (Nat.le_of_ble_eq_true rfl)) rfl (fun σ4 ⟨⟨W4, hr4⟩, hF4⟩ => ?_) (fun _ _ h9 => False.elim h9)
                have e11 := tkS_1 ρ3 (ρ3.1 0 6)
                have hW4 : RW (tkS ρ3 (ρ3.1 0 6)) := RW_1 e11 hW3
                have e6 : (tkS ρ3 (ρ3.1 0 6)).1 0 6 = ρ3.1 0 6 := by rw [e11]
                have e4 : (tkS ρ3 (ρ3.1 0 6)).1 10 4 = ρ3.1 10 4 := by rw [e11]
                have h5 := hr4.pTak hW4.1.1 (ρ3.1 0 6 + 1)
                have hW5 : RW (sN (tkS ρ3 (ρ3.1 0 6)) 0 6 (ρ3.1 0 6 + 1)) := sN_W6 hW4 (by omega)
                refine g_aload_n (q := 80) (i := 0) hC dX4_recount_79 rfl rfl rfl ?_
                refine g_dup (q := 81) hC dX4_recount_80 rfl rfl ?_
                refine g_getf (q := 84) (v := .int (nI ((tkS ρ3 (ρ3.1 0 6)).1 0 6))) hC kg_X4_46 dX4_recount_81 (hr4.led hW4) rfl rfl ?_
                refine g_iconst (q := 85) (v := nI 1) hC dX4_recount_84 rfl rfl ?_
                rw [e6]
                refine g_iadd (q := 86) (v := (nI ((ρ3.1 0 6) + 1))) hC dX4_recount_85 (nI_add _ _) rfl ?_
                refine g_putf (q := 89) hC kf_X4_46 dX4_recount_86 (hr4.led hW4) (Nat.le_of_ble_eq_true rfl) rfl rfl rfl ?_
                refine g_iinc (q := 92) (i := 2) (v := (nI (i + 1))) hC dX4_recount_89 rfl (nI_1 _) rfl ?_
                refine g_goto (tgt := 42) hC dX4_recount_92 (by decide) ?_
                refine g_sub (lv0 := [(2, .int (nI (i + 1))), (0, .ref (A 0 0)), (1, .int (nI j))]) ⟨rfl, rfl, rfl, trivial⟩ ?_
                have key := ih (i + 1) _ _ (by omega) hW5 ⟨W4, h5⟩ ((hF.trans hF4).trans (gFF.obj (hr4.led hW4) (by decide))) (by rw [e, rcN, if_pos hlt])
                rw [show 2 * (i + 1) = 2 * i + 2 by omega, show 25 * (i + 1) = 25 * i + 25 by omega] at key
                exact key
        refine g_iconst (q := 41) (v := nI 0) hC dX4_recount_40 rfl rfl ?_
        refine g_istore_n (q := 42) (i := 2) hC dX4_recount_41 rfl (by decide) rfl ?_
        refine g_sub (lv0 := [(2, .int (nI 0)), (0, .ref (A 0 0)), (1, .int (nI j))]) ⟨rfl, rfl, rfl, trivial⟩ ?_
        exact loop j 0 σ ρ (by omega) hW ⟨W, hr⟩ gFF.rf rfl
      · have hb := bI_0.mp c_26
        exact g_throwSW hC hR htb (tS (is := 262) (text := "no recount was begun") (by decide +kernel)) dX4_recount_29 dX4_recount_32 dX4_recount_33 dX4_recount_36 dX4_recount_39 (by decide) (Nat.le_of_ble_eq_true rfl) (by omega) (by omega) (lX_of (by rw [lo_recount, if_neg ok, if_pos hb]) eS_n)
    · exact bad (Or.inr (Int32.not_le.mp c_8))
def slA (ρ : gSt) (a : Nat) (s h f : Int32) : gSt := setA ρ a (fun c => if c = 1 then s else if c = 2 then h else if c = 3 then f else ρ.2.1 c a)
def lmO (s h f : Int32) : Bool := (isLm s 100000 && isLm h 100000) && isLm f 100
def lo_setLimits (ρ : gSt) (kd x s h f : Int32) : lRes := match acl ρ kd x with
  | none => (eI, 0, ρ)
  | some a => if lmO s h f = false then (eA, 0, ρ) else ("", 0, ntA (slA ρ a s h f) a)
def lV0 (M : gMT) (σ : gS) (A : gAd) (T : lRes) : gS → Prop := fun σ2 => lP M σ A T T.2.1 σ2
set_option maxRecDepth 100000 in
set_option maxHeartbeats 4000000 in
theorem c_L_setLimits (l : Launch) (hfl : l.stackTraces = false) (M : gMT) (σ : gS) (A : gAd) (ρ : gSt) (W : gWt) (kd x s h f : Int32) (hr : Raw M σ A ρ W) (hW : RW ρ) : Con l M yX4_setLimits (.code yX4_setLimits cX4_setLimits 7 (Option.none : Option FieldType)) 12 2 12 [.ref (A 0 0), .int kd, .int x, .int s, .int h, .int f] σ (rV (lV0 M σ A (lo_setLimits ρ kd x s h f))) (lX σ (lo_setLimits ρ kd x s h f)) := by
  refine g_con hfl (by decide) (lv := [(0, .ref (A 0 0)), (1, .int kd), (2, .int x), (3, .int s), (4, .int h), (5, .int f)]) rfl rfl (Nat.le_of_ble_eq_true rfl) (fun X hX hC hR htb => ?_)
  refine g_aload_n (q := 1) (i := 0) hC dX4_setLimits_0 rfl rfl rfl ?_
  refine g_iload_n (q := 2) (i := 1) hC dX4_setLimits_1 rfl rfl rfl ?_
  refine g_iload_n (q := 3) (i := 2) hC dX4_setLimits_2 rfl rfl rfl ?_
  refine g_cr (q := 6) (g_runV hC kv_X4_146 md_X4_accountOf (c_L_accountOf _ hC.fl M _ A ρ W kd x hr hW) (ci := 4) rfl (hr.led hW) dX4_setLimits_3 (by decide) (by decide) (by omega) (by omega) rfl rfl (Nat.le_of_ble_eq_true rfl)) rfl (fun r σ ⟨⟨a, ha, e1⟩, e2⟩ => ?_) (fun E σ2 h9 => by obtain ⟨⟨rfl, h8⟩, rfl⟩ := h9; exact g_out hR htb (by omega) (by omega) (lX_of (by rw [lo_setLimits, h8]) eI_n))
  subst e1 e2
  have ha9 := acl_lt hW ha
  have eT : lo_setLimits ρ kd x s h f = (if lmO s h f = false then (eA, 0, ρ) else ("", 0, ntA (slA ρ a s h f) a)) := by rw [lo_setLimits, ha]
  rw [eT]
  have bad : lmO s h f = false → G X M 7 (gQ X M 2 12 (rV (lV0 M σ A (if lmO s h f = false then (eA, 0, ρ) else ("", 0, ntA (slA ρ a s h f) a)))) (lX σ (if lmO s h f = false then (eA, 0, ρ) else ("", 0, ntA (slA ρ a s h f) a)))) (0 + 1) (0 + 6) σ 37 [(6, .ref (A 1 a)), (0, .ref (A 0 0)), (1, .int kd), (2, .int x), (3, .int s), (4, .int h), (5, .int f)] [] := by
    intro hb
    exact g_throwS hC hR htb (tA (is := 215) (text := "a limit is out of range") (by decide +kernel)) dX4_setLimits_37 dX4_setLimits_40 dX4_setLimits_41 dX4_setLimits_43 dX4_setLimits_46 (by decide) (Nat.le_of_ble_eq_true rfl) (by omega) (by omega) (lX_of (by rw [if_pos hb]) eA_n)
  refine g_astore (q := 8) (i := 6) hC dX4_setLimits_6 (by decide) rfl ?_
  refine g_iload_n (q := 9) (i := 3) hC dX4_setLimits_8 rfl rfl rfl ?_
  refine g_ldc (q := 11) hC kk_X4_210 dX4_setLimits_9 rfl ?_
  refine g_ci (q := 14) (g_runS hC ks_X4_211 md_X4_isLimit (c_L_isLimit _ hC.fl M _ s 100000) dX4_setLimits_11 (by decide) (by decide) (by omega) (by omega) rfl rfl (Nat.le_of_ble_eq_true rfl)) rfl (fun r σ ⟨e1, e2⟩ => ?_) (fun _ _ h9 => False.elim h9)
  subst e1 e2
  refine g_if_eq (tgt := 37) (q := 17) hC dX4_setLimits_14 (by decide) rfl (fun c_14 => ?_) (fun c_14 => ?_)
  · exact bad (by rw [lmO, bI_0.mp c_14]; rfl)
  · have g1 := bI_n.mp c_14
    refine g_iload (q := 19) (i := 4) hC dX4_setLimits_17 rfl rfl ?_
    refine g_ldc (q := 21) hC kk_X4_210 dX4_setLimits_19 rfl ?_
    refine g_ci (q := 24) (g_runS hC ks_X4_211 md_X4_isLimit (c_L_isLimit _ hC.fl M _ h 100000) dX4_setLimits_21 (by decide) (by decide) (by omega) (by omega) rfl rfl (Nat.le_of_ble_eq_true rfl)) rfl (fun r σ ⟨e1, e2⟩ => ?_) (fun _ _ h9 => False.elim h9)
    subst e1 e2
    refine g_if_eq (tgt := 37) (q := 27) hC dX4_setLimits_24 (by decide) rfl (fun c_24 => ?_) (fun c_24 => ?_)
    · exact bad (by rw [lmO, g1, bI_0.mp c_24]; rfl)
    · have g2 := bI_n.mp c_24
      refine g_iload (q := 29) (i := 5) hC dX4_setLimits_27 rfl rfl ?_
      refine g_bipush (q := 31) (v := (100)) hC dX4_setLimits_29 rfl rfl ?_
      refine g_ci (q := 34) (g_runS hC ks_X4_211 md_X4_isLimit (c_L_isLimit _ hC.fl M _ f 100) dX4_setLimits_31 (by decide) (by decide) (by omega) (by omega) rfl rfl (Nat.le_of_ble_eq_true rfl)) rfl (fun r σ ⟨e1, e2⟩ => ?_) (fun _ _ h9 => False.elim h9)
      subst e1 e2
      refine g_if_ne (tgt := 47) (q := 37) hC dX4_setLimits_34 (by decide) rfl (fun c_34 => ?_) (fun c_34 => ?_)
      · have g3 := bI_n.mp c_34
        have ok : ¬ lmO s h f = false := by rw [lmO, g1, g2, g3]; decide
        rw [if_neg ok]
        have h5 := hr.pAcc ha9 (fun c => if c = 1 then s else if c = 2 then h else if c = 3 then f else ρ.2.1 c a)
        have hW5 : RW (slA ρ a s h f) := RW_1 rfl hW
        refine g_aload (q := 49) (i := 6) hC dX4_setLimits_47 rfl rfl ?_
        refine g_iload_n (q := 50) (i := 3) hC dX4_setLimits_49 rfl rfl rfl ?_
        refine g_putf (q := 53) hC kf_X4_217 dX4_setLimits_50 (hr.acc ha9) (Nat.le_of_ble_eq_true rfl) rfl rfl rfl ?_
        refine g_aload (q := 55) (i := 6) hC dX4_setLimits_53 rfl rfl ?_
        refine g_iload (q := 57) (i := 4) hC dX4_setLimits_55 rfl rfl ?_
        refine g_putf2 (q := 60) hC kf_X4_220 dX4_setLimits_57 (Nat.le_of_ble_eq_true rfl) rfl rfl rfl ?_
        refine g_aload (q := 62) (i := 6) hC dX4_setLimits_60 rfl rfl ?_
        refine g_iload (q := 64) (i := 5) hC dX4_setLimits_62 rfl rfl ?_
        refine g_putf2 (q := 67) hC kf_X4_223 dX4_setLimits_64 (Nat.le_of_ble_eq_true rfl) rfl rfl rfl ?_
        have h5 : Raw M (gUp σ (A 1 a) (oB 0 (accV s h f (ρ.2.1 4 a) (ρ.2.1 5 a) (ρ.2.1 6 a) (ρ.2.1 7 a) (ρ.2.1 8 a)))) A (slA ρ a s h f) W := h5
        have hF5 : gFF σ (gUp σ (A 1 a) (oB 0 (accV s h f (ρ.2.1 4 a) (ρ.2.1 5 a) (ρ.2.1 6 a) (ρ.2.1 7 a) (ρ.2.1 8 a)))) := gFF.obj (hr.acc ha9) (by decide)
        refine g_eq (σ2 := gUp σ (A 1 a) (oB 0 (accV s h f (ρ.2.1 4 a) (ρ.2.1 5 a) (ρ.2.1 6 a) (ρ.2.1 7 a) (ρ.2.1 8 a)))) rfl ?_
        generalize gUp σ (A 1 a) (oB 0 (accV s h f (ρ.2.1 4 a) (ρ.2.1 5 a) (ρ.2.1 6 a) (ρ.2.1 7 a) (ρ.2.1 8 a))) = σ5 at h5 hF5
        have ha5 : a < (slA ρ a s h f).1 11 1 := ha9
        have h6 := h5.pAcc ha5 (fun c => if c = 7 then fO ((slA ρ a s h f).2.1 1 a) ((slA ρ a s h f).2.1 4 a) else if c = 8 then (if fO ((slA ρ a s h f).2.1 1 a) ((slA ρ a s h f).2.1 4 a) = 1 ∧ (slA ρ a s h f).2.1 7 a = 0 then (slA ρ a s h f).2.1 0 0 else (slA ρ a s h f).2.1 8 a) else (slA ρ a s h f).2.1 c a)
        refine g_aload (q := 69) (i := 6) hC dX4_setLimits_67 rfl rfl ?_
        refine g_aload_n (q := 70) (i := 0) hC dX4_setLimits_69 rfl rfl rfl ?_
        refine g_getf (q := 73) (v := .int ((slA ρ a s h f).2.1 0 0)) hC kg_X4_38 dX4_setLimits_70 (h5.led hW5) rfl rfl ?_
        refine g_cv (q := 76) (g_runV hC kv_X4_226 md_X0_noteOver (c_X0_noteOver _ hC.fl M _ (A 1 a) _ _ _ _ _ _ _ _ _ (h5.acc ha5)) (ci := 0) rfl (h5.acc ha5) dX4_setLimits_73 (by decide) (by decide) (by omega) (by omega) rfl rfl (Nat.le_of_ble_eq_true rfl)) rfl (fun σ6 e2 => ?_) (fun _ _ h9 => False.elim h9)
        subst e2
        exact g_vret hC hR dX4_setLimits_76 (by omega) (by omega) (⟨rfl, rfl, rfl, ⟨A, rfl, W, h6⟩, hF5.trans (gFF.obj (h5.acc ha5) (by decide))⟩)
      · exact bad (by rw [lmO, bI_0.mp c_34]; simp)
