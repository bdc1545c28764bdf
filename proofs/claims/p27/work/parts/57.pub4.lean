/-! ===== the ledger's calls (4): usedByFiles, beginRecount, recount, setLimits ===== -/
def ubN (ρ : gSt) (a : Nat) : Nat → Int32
  | 0 => 0
  | i + 1 => if (!ρ.2.2 8 i && ctL ρ i a) = true then ubN ρ a i + bub ρ i (ρ.1 10 5) else ubN ρ a i
def lo_usedByFiles (ρ : gSt) (kd x : Int32) : lRes := lo_acc ρ kd x (fun a => ubN ρ a (ρ.1 10 4))
set_option maxRecDepth 100000 in
set_option maxHeartbeats 4000000 in
theorem c_L_usedByFiles (l : Launch) (hfl : l.stackTraces = false) (M : gMT) (σ : gS) (A : gAd) (ρ : gSt) (W : gWt) (kd x : Int32) (hr : Raw M σ A ρ W) (hW : RW ρ) : Con l M yX4_usedByFiles (.code yX4_usedByFiles cX4_usedByFiles 7 (Option.some FieldType.int)) 12 81 1006 [.ref (A 0 0), .int kd, .int x] σ (rI (lP M σ A (lo_usedByFiles ρ kd x))) (lX σ (lo_usedByFiles ρ kd x)) := by
  refine g_con hfl (by decide) (lv := [(0, .ref (A 0 0)), (1, .int kd), (2, .int x)]) rfl rfl (Nat.le_of_ble_eq_true rfl) (fun X hX hC hR htb => ?_)
  have w3 := hW.2.2.1
  refine g_aload_n (q := 1) (i := 0) hC dX4_usedByFiles_0 rfl rfl rfl ?_
  refine g_iload_n (q := 2) (i := 1) hC dX4_usedByFiles_1 rfl rfl rfl ?_
  refine g_iload_n (q := 3) (i := 2) hC dX4_usedByFiles_2 rfl rfl rfl ?_
  refine g_cr (q := 6) (g_runV hC kv_X4_146 md_X4_accountOf (c_L_accountOf _ hC.fl M _ A ρ W kd x hr hW) (ci := 4) rfl (hr.led hW) dX4_usedByFiles_3 (by decide) (by decide) (by omega) (by omega) rfl rfl (Nat.le_of_ble_eq_true rfl)) rfl (fun r σ ⟨⟨a, ha, e1⟩, e2⟩ => ?_) (fun E σ2 h9 => by obtain ⟨⟨rfl, h8⟩, rfl⟩ := h9; exact g_out hR htb (by omega) (by omega) (lX_of (by rw [lo_usedByFiles, lo_acc_n h8]) eI_n))
  subst e1 e2
  have ha9 := acl_lt hW ha
  have eT : lo_usedByFiles ρ kd x = ("", ubN ρ a (ρ.1 10 4), ρ) := lo_acc_s ha
  rw [eT]
  have loop : ∀ (d9 i : Nat) (σ3 : gS), i + d9 = ρ.1 10 4 → RawE M σ3 A ρ → gFF σ σ3 → G X M 7 (gQ X M 81 1006 (rI (lP M σ A ("", ubN ρ a (ρ.1 10 4), ρ))) (lX σ ("", ubN ρ a (ρ.1 10 4), ρ))) (1 + 2 * i) (6 + 25 * i) σ3 13 [(5, .int (nI i)), (4, .int (ubN ρ a i)), (3, .ref (A 1 a)), (0, .ref (A 0 0))] [] := by
    intro d9
    induction d9 with
    | zero =>
      intro i σ3 h1 hre3 hF
      obtain ⟨W3, hr3⟩ := hre3
      refine g_iload (q := 15) (i := 5) hC dX4_usedByFiles_13 rfl rfl ?_
      refine g_aload_n (q := 16) (i := 0) hC dX4_usedByFiles_15 rfl rfl rfl ?_
      refine g_getf (q := 19) (v := .ref (A 5 4)) hC kg_X4_22 dX4_usedByFiles_16 (hr3.led hW) rfl rfl ?_
      refine g_ci (q := 22) (g_runV hC kv_X4_99 md_Jx4a65c_size_8abf5 (c_size _ hC.fl M _ (A 5 4) _ _ _ hr3.l4) (ci := 6) rfl hr3.l4 dX4_usedByFiles_19 (by decide) (by decide) (by omega) (by omega) rfl rfl (Nat.le_of_ble_eq_true rfl)) rfl (fun r σ3 ⟨e1, e2⟩ => ?_) (fun _ _ h9 => False.elim h9)
      subst e1 e2
      refine g_icmp_ge (tgt := 74) (q := 25) hC dX4_usedByFiles_22 (by decide) rfl (fun c_22 => ?_) (fun c_22 => ?_)
      · refine g_iload (q := 76) (i := 4) hC dX4_usedByFiles_74 rfl rfl ?_
        exact g_iret hC hR dX4_usedByFiles_76 (by omega) (by omega) (⟨_, rfl, by rw [← h1]; exact ⟨rfl, rfl, ⟨A, rfl, W3, hr3⟩, hF⟩⟩)
      · exact absurd (nI_le (by omega) (by omega)) c_22
    | succ d9 ih =>
      intro i σ3 h1 hre3 hF
      obtain ⟨W3, hr3⟩ := hre3
      have next : ∀ (v : Int32) (σ4 : gS), v = ubN ρ a (i + 1) → RawE M σ4 A ρ → gFF σ σ4 → G X M 7 (gQ X M 81 1006 (rI (lP M σ A ("", ubN ρ a (ρ.1 10 4), ρ))) (lX σ ("", ubN ρ a (ρ.1 10 4), ρ))) (1 + 2 * i + 2) (6 + 25 * i + 25) σ4 68 [(5, .int (nI i)), (4, .int v), (3, .ref (A 1 a)), (0, .ref (A 0 0))] [] := by
        intro v σ4 hv hr4 hF4
        refine g_iinc (q := 71) (i := 5) (v := (nI (i + 1))) hC dX4_usedByFiles_68 rfl (nI_1 _) rfl ?_
        refine g_goto (tgt := 13) hC dX4_usedByFiles_71 (by decide) ?_
        rw [hv]
        refine g_sub (lv0 := [(5, .int (nI (i + 1))), (4, .int (ubN ρ a (i + 1))), (3, .ref (A 1 a)), (0, .ref (A 0 0))]) ⟨rfl, rfl, rfl, rfl, trivial⟩ ?_
        have key := ih (i + 1) σ4 (by omega) hr4 hF4
        rw [show 1 + 2 * (i + 1) = 1 + 2 * i + 2 by omega, show 6 + 25 * (i + 1) = 6 + 25 * i + 25 by omega] at key
        exact key
      refine g_iload (q := 15) (i := 5) hC dX4_usedByFiles_13 rfl rfl ?_
      refine g_aload_n (q := 16) (i := 0) hC dX4_usedByFiles_15 rfl rfl rfl ?_
      refine g_getf (q := 19) (v := .ref (A 5 4)) hC kg_X4_22 dX4_usedByFiles_16 (hr3.led hW) rfl rfl ?_
      refine g_ci (q := 22) (g_runV hC kv_X4_99 md_Jx4a65c_size_8abf5 (c_size _ hC.fl M _ (A 5 4) _ _ _ hr3.l4) (ci := 6) rfl hr3.l4 dX4_usedByFiles_19 (by decide) (by decide) (by omega) (by omega) rfl rfl (Nat.le_of_ble_eq_true rfl)) rfl (fun r σ3 ⟨e1, e2⟩ => ?_) (fun _ _ h9 => False.elim h9)
      subst e1 e2
      refine g_icmp_ge (tgt := 74) (q := 25) hC dX4_usedByFiles_22 (by decide) rfl (fun c_22 => ?_) (fun c_22 => ?_)
      · exact absurd c_22 (nI_ge (by omega) (by omega))
      · refine g_aload_n (q := 26) (i := 0) hC dX4_usedByFiles_25 rfl rfl rfl ?_
        refine g_getf (q := 29) (v := .ref (A 5 4)) hC kg_X4_22 dX4_usedByFiles_26 (hr3.led hW) rfl rfl ?_
        refine g_iload (q := 31) (i := 5) hC dX4_usedByFiles_29 rfl rfl ?_
        refine g_cr (q := 34) (g_runV hC kv_X4_186 md_Jx4a65c_get_915e3 (c_gt4 _ hC.fl hr3 i (by omega)) (ci := 6) rfl hr3.l4 dX4_usedByFiles_31 (by decide) (by decide) (by omega) (by omega) rfl rfl (Nat.le_of_ble_eq_true rfl)) rfl (fun r σ3 ⟨e1, e2⟩ => ?_) (fun _ _ h9 => False.elim h9)
        subst e1 e2
        refine g_ccast (q := 37) (ci := 3) hC kc_X4_152 dX4_usedByFiles_34 rfl (hr3.fil (by omega)) rfl ?_
        refine g_astore (q := 39) (i := 6) hC dX4_usedByFiles_37 (by decide) rfl ?_
        refine g_aload (q := 41) (i := 6) hC dX4_usedByFiles_39 rfl rfl ?_
        refine g_getf (q := 44) (v := .int (bI (ρ.2.2 8 i))) hC kg_X4_183 dX4_usedByFiles_41 (hr3.fil (by omega)) rfl rfl ?_
        refine g_if_ne (tgt := 68) (q := 47) hC dX4_usedByFiles_44 (by decide) rfl (fun c_44 => ?_) (fun c_44 => ?_)
        · refine g_sub (lv0 := [(5, .int (nI i)), (4, .int (ubN ρ a i)), (3, .ref (A 1 a)), (0, .ref (A 0 0))]) ⟨rfl, rfl, rfl, rfl, trivial⟩ ?_
          exact g_widen (by omega) (by omega) (next _ σ3 (by rw [ubN, if_neg (by rw [bI_n.mp c_44]; simp)]) ⟨W3, hr3⟩ hF)
        · have hd := bI_0.mp c_44
          refine g_aload_n (q := 48) (i := 0) hC dX4_usedByFiles_47 rfl rfl rfl ?_
          refine g_aload (q := 50) (i := 6) hC dX4_usedByFiles_48 rfl rfl ?_
          refine g_aload_n (q := 51) (i := 3) hC dX4_usedByFiles_50 rfl rfl rfl ?_
          refine g_ci (q := 54) (g_runV hC kv_X4_239 md_X4_countsIn (c_L_countsIn _ hC.fl M _ A ρ W3 i a hr3 hW (by omega) ha9) (ci := 4) rfl (hr3.led hW) dX4_usedByFiles_51 (by decide) (by decide) (by omega) (by omega) rfl rfl (Nat.le_of_ble_eq_true rfl)) rfl (fun r σ4 ⟨e1, hre4, hF4⟩ => ?_) (fun _ _ h9 => False.elim h9)
          subst e1
          obtain ⟨W4, hr4⟩ := hre4
          refine g_if_eq (tgt := 68) (q := 57) hC dX4_usedByFiles_54 (by decide) rfl (fun c_54 => ?_) (fun c_54 => ?_)
          · refine g_sub (lv0 := [(5, .int (nI i)), (4, .int (ubN ρ a i)), (3, .ref (A 1 a)), (0, .ref (A 0 0))]) ⟨rfl, rfl, rfl, rfl, trivial⟩ ?_
            exact next _ σ4 (by rw [ubN, if_neg (by rw [bI_0.mp c_54]; simp)]) ⟨W4, hr4⟩ (hF.trans hF4)
          · refine g_iload (q := 59) (i := 4) hC dX4_usedByFiles_57 rfl rfl ?_
            refine g_aload_n (q := 60) (i := 0) hC dX4_usedByFiles_59 rfl rfl rfl ?_
            refine g_aload (q := 62) (i := 6) hC dX4_usedByFiles_60 rfl rfl ?_
            refine g_ci (q := 65) (g_runV hC kv_X4_179 md_X4_blocksUsedBy (c_L_blocksUsedBy _ hC.fl M _ A ρ W4 i hr4 hW (by omega)) (ci := 4) rfl (hr4.led hW) dX4_usedByFiles_62 (by decide) (by decide) (by omega) (by omega) rfl rfl (Nat.le_of_ble_eq_true rfl)) rfl (fun r σ4 ⟨e1, e2⟩ => ?_) (fun _ _ h9 => False.elim h9)
            subst e1 e2
            refine g_iadd (q := 66) (v := (ubN ρ a i + bub ρ i (ρ.1 10 5))) hC dX4_usedByFiles_65 rfl rfl ?_
            refine g_istore (q := 68) (i := 4) hC dX4_usedByFiles_66 (by decide) rfl ?_
            refine g_sub (lv0 := [(5, .int (nI i)), (4, .int (ubN ρ a i + bub ρ i (ρ.1 10 5))), (3, .ref (A 1 a)), (0, .ref (A 0 0))]) ⟨rfl, rfl, rfl, rfl, trivial⟩ ?_
            exact next _ σ4 (by rw [ubN, if_pos (by rw [hd, bI_n.mp c_54]; rfl)]) ⟨W4, hr4⟩ (hF.trans hF4)
  refine g_astore_n (q := 7) (i := 3) hC dX4_usedByFiles_6 rfl (by decide) rfl ?_
  refine g_iconst (q := 8) (v := (0)) hC dX4_usedByFiles_7 rfl rfl ?_
  refine g_istore (q := 10) (i := 4) hC dX4_usedByFiles_8 (by decide) rfl ?_
  refine g_iconst (q := 11) (v := nI 0) hC dX4_usedByFiles_10 rfl rfl ?_
  refine g_istore (q := 13) (i := 5) hC dX4_usedByFiles_11 (by decide) rfl ?_
  refine g_sub (lv0 := [(5, .int (nI 0)), (4, .int 0), (3, .ref (A 1 a)), (0, .ref (A 0 0))]) ⟨rfl, rfl, rfl, rfl, trivial⟩ ?_
  exact loop _ 0 σ (Nat.zero_add _) ⟨W, hr⟩ gFF.rf
def bgA (ρ : gSt) (a : Nat) : gSt := setA ρ a (fun c => if c = 6 then 0 else ρ.2.1 c a)
def bgN (ρ : gSt) : Nat → gSt
  | 0 => ρ
  | n + 1 => bgA (bgN ρ n) n
theorem bgN_1 (ρ : gSt) : ∀ n, (bgN ρ n).1 = ρ.1 := by
  intro n
  induction n with
  | zero => rfl
  | succ n ih => exact ih
def bg0 (ρ : gSt) : gSt := sN (sB ρ 0 5 true) 0 6 0
def lo_beginRecount (ρ : gSt) : lRes := ("", nI (ρ.1 10 4), bgN (bg0 ρ) (9 + ρ.1 10 3))
theorem bg0_W {ρ : gSt} (hW : RW ρ) : RW (bg0 ρ) := by
  have hu : ∀ p k, upn (bg0 ρ) p k = upn ρ p k := by
    intro p k
    induction k with
    | zero => rfl
    | succ k ih =>
      unfold upn
      rw [ih]
      rfl
  obtain ⟨w1, w2, w3, w4, w5, w6, w7, w8, w9⟩ := hW
  refine ⟨w1, w2, w3, w4, w5, Nat.zero_le _, fun p hp => ?_, w8, w9⟩
  obtain ⟨h1, h2, h3⟩ := w7 p hp
  exact ⟨h1, h2, (hu p 9).trans h3⟩
set_option maxRecDepth 100000 in
set_option maxHeartbeats 4000000 in
theorem c_L_beginRecount (l : Launch) (hfl : l.stackTraces = false) (M : gMT) (σ : gS) (A : gAd) (ρ : gSt) (W : gWt) (hr : Raw M σ A ρ W) (hW : RW ρ) : Con l M yX4_beginRecount (.code yX4_beginRecount cX4_beginRecount 2 (Option.some FieldType.int)) 12 0 0 [.ref (A 0 0)] σ (rI (lP M σ A (lo_beginRecount ρ))) (nX) := by
  refine g_con hfl (by decide) (lv := [(0, .ref (A 0 0))]) rfl rfl (Nat.le_of_ble_eq_true rfl) (fun X hX hC hR htb => ?_)
  have w1 := hW.1
  have w2 := hW.2.1
  have w3 := hW.2.2.1
  have hWb := bg0_W hW
  have step : ∀ (n : Nat) (σ3 : gS), n < ρ.1 11 1 → Raw M σ3 A (bgN (bg0 ρ) n) W → gFF σ σ3 → σ3 (A 1 n) = some (oB 0 (accW (bgN (bg0 ρ) n) n)) ∧ Raw M (gUp σ3 (A 1 n) (oB 0 ((accW (bgN (bg0 ρ) n) n).set 5 (.int 0)))) A (bgN (bg0 ρ) (n + 1)) W ∧ gFF σ (gUp σ3 (A 1 n) (oB 0 ((accW (bgN (bg0 ρ) n) n).set 5 (.int 0)))) := by
    intro n σ3 hn hr3 hF
    have ha : n < (bgN (bg0 ρ) n).1 11 1 := by
      rw [bgN_1]
      exact hn
    exact ⟨hr3.acc ha, hr3.pAcc ha (fun c => if c = 6 then 0 else (bgN (bg0 ρ) n).2.1 c n), hF.trans (gFF.obj (hr3.acc ha) (by decide))⟩
  have loop3 : ∀ (d9 i : Nat) (σ3 : gS), i + d9 = ρ.1 10 3 → Raw M σ3 A (bgN (bg0 ρ) (9 + i)) W → gFF σ σ3 → G X M 2 (gQ X M 0 0 (rI (lP M σ A (lo_beginRecount ρ))) nX) 0 0 σ3 80 [(1, .int (nI i)), (0, .ref (A 0 0))] [] := by
    intro d9
    induction d9 with
    | zero =>
      intro i σ3 h1 hr3 hF
      have hW3 := RW_1 (bgN_1 (bg0 ρ) (9 + i)) hWb
      have e10 : (bgN (bg0 ρ) (9 + i)).1 10 3 = ρ.1 10 3 := by rw [bgN_1]; rfl
      have e104 : (bgN (bg0 ρ) (9 + i)).1 10 4 = ρ.1 10 4 := by rw [bgN_1]; rfl
      refine g_iload_n (q := 81) (i := 1) hC dX4_beginRecount_80 rfl rfl rfl ?_
      refine g_aload_n (q := 82) (i := 0) hC dX4_beginRecount_81 rfl rfl rfl ?_
      refine g_getf (q := 85) (v := .ref (A 5 3)) hC kg_X4_19 dX4_beginRecount_82 (hr3.led hW3) rfl rfl ?_
      refine g_ci (q := 88) (g_runV hC kv_X4_99 md_Jx4a65c_size_8abf5 (c_size _ hC.fl M _ (A 5 3) _ _ _ hr3.l3) (ci := 6) rfl hr3.l3 dX4_beginRecount_85 (by decide) (by decide) (by omega) (by omega) rfl rfl (Nat.le_of_ble_eq_true rfl)) rfl (fun r σ3 ⟨e1, e2⟩ => ?_) (fun _ _ h9 => False.elim h9)
      subst e1 e2
      refine g_icmp_ge (tgt := 115) (q := 91) hC dX4_beginRecount_88 (by decide) rfl (fun c_88 => ?_) (fun c_88 => ?_)
      · refine g_aload_n (q := 116) (i := 0) hC dX4_beginRecount_115 rfl rfl rfl ?_
        refine g_getf (q := 119) (v := .ref (A 5 4)) hC kg_X4_22 dX4_beginRecount_116 (hr3.led hW3) rfl rfl ?_
        refine g_ci (q := 122) (g_runV hC kv_X4_99 md_Jx4a65c_size_8abf5 (c_size _ hC.fl M _ (A 5 4) _ _ _ hr3.l4) (ci := 6) rfl hr3.l4 dX4_beginRecount_119 (by decide) (by decide) (by omega) (by omega) rfl rfl (Nat.le_of_ble_eq_true rfl)) rfl (fun r σ3 ⟨e1, e2⟩ => ?_) (fun _ _ h9 => False.elim h9)
        subst e1 e2
        exact g_iret hC hR dX4_beginRecount_122 (by omega) (by omega) (⟨_, rfl, rfl, by rw [e104]; rfl, ⟨A, rfl, W, by rw [lo_beginRecount, ← h1]; exact hr3⟩, hF⟩)
      · exact absurd (nI_le (by omega) (by omega)) c_88
    | succ d9 ih =>
      intro i σ3 h1 hr3 hF
      have hW3 := RW_1 (bgN_1 (bg0 ρ) (9 + i)) hWb
      have e10 : (bgN (bg0 ρ) (9 + i)).1 10 3 = ρ.1 10 3 := by rw [bgN_1]; rfl
      have e11 : (bgN (bg0 ρ) (9 + i)).1 11 2 = ρ.1 11 2 := by rw [bgN_1]; rfl
      obtain ⟨s1, s2, s3⟩ := step (9 + i) σ3 (by omega) hr3 hF
      refine g_iload_n (q := 81) (i := 1) hC dX4_beginRecount_80 rfl rfl rfl ?_
      refine g_aload_n (q := 82) (i := 0) hC dX4_beginRecount_81 rfl rfl rfl ?_
      refine g_getf (q := 85) (v := .ref (A 5 3)) hC kg_X4_19 dX4_beginRecount_82 (hr3.led hW3) rfl rfl ?_
      refine g_ci (q := 88) (g_runV hC kv_X4_99 md_Jx4a65c_size_8abf5 (c_size _ hC.fl M _ (A 5 3) _ _ _ hr3.l3) (ci := 6) rfl hr3.l3 dX4_beginRecount_85 (by decide) (by decide) (by omega) (by omega) rfl rfl (Nat.le_of_ble_eq_true rfl)) rfl (fun r σ3 ⟨e1, e2⟩ => ?_) (fun _ _ h9 => False.elim h9)
      subst e1 e2
      refine g_icmp_ge (tgt := 115) (q := 91) hC dX4_beginRecount_88 (by decide) rfl (fun c_88 => ?_) (fun c_88 => ?_)
      · exact absurd c_88 (nI_ge (by omega) (by omega))
      · refine g_aload_n (q := 92) (i := 0) hC dX4_beginRecount_91 rfl rfl rfl ?_
        refine g_getf (q := 95) (v := .ref (A 5 3)) hC kg_X4_19 dX4_beginRecount_92 (hr3.led hW3) rfl rfl ?_
        refine g_iload_n (q := 96) (i := 1) hC dX4_beginRecount_95 rfl rfl rfl ?_
        refine g_cr (q := 99) (g_runV hC kv_X4_186 md_Jx4a65c_get_915e3 (c_gt3 _ hC.fl hr3 i (by omega)) (ci := 6) rfl hr3.l3 dX4_beginRecount_96 (by decide) (by decide) (by omega) (by omega) rfl rfl (Nat.le_of_ble_eq_true rfl)) rfl (fun r σ3 ⟨e1, e2⟩ => ?_) (fun _ _ h9 => False.elim h9)
        subst e1 e2
        refine g_ccast (q := 102) (ci := 1) hC kc_X4_56 dX4_beginRecount_99 rfl (hr3.prj (by omega)) rfl ?_
        refine g_getf (q := 105) (v := .ref (A 1 (9 + i))) hC kg_X4_256 dX4_beginRecount_102 (hr3.prj (by omega)) rfl rfl ?_
        refine g_iconst (q := 106) (v := (0)) hC dX4_beginRecount_105 rfl rfl ?_
        refine g_putf (q := 109) hC kf_X4_253 dX4_beginRecount_106 s1 (Nat.le_of_ble_eq_true rfl) rfl rfl rfl ?_
        refine g_iinc (q := 112) (i := 1) (v := (nI (i + 1))) hC dX4_beginRecount_109 rfl (nI_1 _) rfl ?_
        refine g_goto (tgt := 80) hC dX4_beginRecount_112 (by decide) ?_
        refine g_sub (lv0 := [(1, .int (nI (i + 1))), (0, .ref (A 0 0))]) ⟨rfl, rfl, trivial⟩ ?_
        exact ih (i + 1) _ (by omega) s2 s3
  have loop2 : ∀ (d9 i : Nat) (σ3 : gS), i + d9 = 3 → Raw M σ3 A (bgN (bg0 ρ) (6 + i)) W → gFF σ σ3 → G X M 2 (gQ X M 0 0 (rI (lP M σ A (lo_beginRecount ρ))) nX) 0 0 σ3 46 [(1, .int (nI i)), (0, .ref (A 0 0))] [] := by
    intro d9
    induction d9 with
    | zero =>
      intro i σ3 h1 hr3 hF
      have hW3 := RW_1 (bgN_1 (bg0 ρ) (6 + i)) hWb
      have e10 : (bgN (bg0 ρ) (6 + i)).1 10 2 = 3 := by rw [bgN_1]; exact w1.2.2.2
      refine g_iload_n (q := 47) (i := 1) hC dX4_beginRecount_46 rfl rfl rfl ?_
      refine g_aload_n (q := 48) (i := 0) hC dX4_beginRecount_47 rfl rfl rfl ?_
      refine g_getf (q := 51) (v := .ref (A 5 2)) hC kg_X4_16 dX4_beginRecount_48 (hr3.led hW3) rfl rfl ?_
      refine g_ci (q := 54) (g_runV hC kv_X4_99 md_Jx4a65c_size_8abf5 (c_size _ hC.fl M _ (A 5 2) _ _ _ hr3.l2) (ci := 6) rfl hr3.l2 dX4_beginRecount_51 (by decide) (by decide) (by omega) (by omega) rfl rfl (Nat.le_of_ble_eq_true rfl)) rfl (fun r σ3 ⟨e1, e2⟩ => ?_) (fun _ _ h9 => False.elim h9)
      subst e1 e2
      refine g_icmp_ge (tgt := 78) (q := 57) hC dX4_beginRecount_54 (by decide) rfl (fun c_54 => ?_) (fun c_54 => ?_)
      · refine g_iconst (q := 79) (v := nI 0) hC dX4_beginRecount_78 rfl rfl ?_
        refine g_istore_n (q := 80) (i := 1) hC dX4_beginRecount_79 rfl (by decide) rfl ?_
        refine g_sub (lv0 := [(1, .int (nI 0)), (0, .ref (A 0 0))]) ⟨rfl, rfl, trivial⟩ ?_
        exact loop3 _ 0 σ3 (Nat.zero_add _) (by rw [show 6 + i = 9 + 0 by omega] at hr3; exact hr3) hF
      · exact absurd (nI_le (by omega) (by omega)) c_54
    | succ d9 ih =>
      intro i σ3 h1 hr3 hF
      have hW3 := RW_1 (bgN_1 (bg0 ρ) (6 + i)) hWb
      have e10 : (bgN (bg0 ρ) (6 + i)).1 10 2 = 3 := by rw [bgN_1]; exact w1.2.2.2
      have e11 : (bgN (bg0 ρ) (6 + i)).1 11 1 = ρ.1 11 1 := by rw [bgN_1]; rfl
      obtain ⟨s1, s2, s3⟩ := step (6 + i) σ3 (by omega) hr3 hF
      refine g_iload_n (q := 47) (i := 1) hC dX4_beginRecount_46 rfl rfl rfl ?_
      refine g_aload_n (q := 48) (i := 0) hC dX4_beginRecount_47 rfl rfl rfl ?_
      refine g_getf (q := 51) (v := .ref (A 5 2)) hC kg_X4_16 dX4_beginRecount_48 (hr3.led hW3) rfl rfl ?_
      refine g_ci (q := 54) (g_runV hC kv_X4_99 md_Jx4a65c_size_8abf5 (c_size _ hC.fl M _ (A 5 2) _ _ _ hr3.l2) (ci := 6) rfl hr3.l2 dX4_beginRecount_51 (by decide) (by decide) (by omega) (by omega) rfl rfl (Nat.le_of_ble_eq_true rfl)) rfl (fun r σ3 ⟨e1, e2⟩ => ?_) (fun _ _ h9 => False.elim h9)
      subst e1 e2
      refine g_icmp_ge (tgt := 78) (q := 57) hC dX4_beginRecount_54 (by decide) rfl (fun c_54 => ?_) (fun c_54 => ?_)
      · exact absurd c_54 (nI_ge (by omega) (by omega))
      · refine g_aload_n (q := 58) (i := 0) hC dX4_beginRecount_57 rfl rfl rfl ?_
        refine g_getf (q := 61) (v := .ref (A 5 2)) hC kg_X4_16 dX4_beginRecount_58 (hr3.led hW3) rfl rfl ?_
        refine g_iload_n (q := 62) (i := 1) hC dX4_beginRecount_61 rfl rfl rfl ?_
        refine g_cr (q := 65) (g_runV hC kv_X4_186 md_Jx4a65c_get_915e3 (c_gt2 _ hC.fl hr3 i (by omega)) (ci := 6) rfl hr3.l2 dX4_beginRecount_62 (by decide) (by decide) (by omega) (by omega) rfl rfl (Nat.le_of_ble_eq_true rfl)) rfl (fun r σ3 ⟨e1, e2⟩ => ?_) (fun _ _ h9 => False.elim h9)
        subst e1 e2
        refine g_ccast (q := 68) (ci := 0) hC kc_X4_49 dX4_beginRecount_65 rfl (hr3.acc (by omega)) rfl ?_
        refine g_iconst (q := 69) (v := (0)) hC dX4_beginRecount_68 rfl rfl ?_
        refine g_putf (q := 72) hC kf_X4_253 dX4_beginRecount_69 s1 (Nat.le_of_ble_eq_true rfl) rfl rfl rfl ?_
        refine g_iinc (q := 75) (i := 1) (v := (nI (i + 1))) hC dX4_beginRecount_72 rfl (nI_1 _) rfl ?_
        refine g_goto (tgt := 46) hC dX4_beginRecount_75 (by decide) ?_
        refine g_sub (lv0 := [(1, .int (nI (i + 1))), (0, .ref (A 0 0))]) ⟨rfl, rfl, trivial⟩ ?_
        exact ih (i + 1) _ (by omega) s2 s3
  have loop1 : ∀ (d9 i : Nat) (σ3 : gS), i + d9 = 6 → Raw M σ3 A (bgN (bg0 ρ) i) W → gFF σ σ3 → G X M 2 (gQ X M 0 0 (rI (lP M σ A (lo_beginRecount ρ))) nX) 0 0 σ3 12 [(1, .int (nI i)), (0, .ref (A 0 0))] [] := by
    intro d9
    induction d9 with
    | zero =>
      intro i σ3 h1 hr3 hF
      have hW3 := RW_1 (bgN_1 (bg0 ρ) i) hWb
      have e10 : (bgN (bg0 ρ) i).1 10 1 = 6 := by rw [bgN_1]; exact w1.2.2.1
      refine g_iload_n (q := 13) (i := 1) hC dX4_beginRecount_12 rfl rfl rfl ?_
      refine g_aload_n (q := 14) (i := 0) hC dX4_beginRecount_13 rfl rfl rfl ?_
      refine g_getf (q := 17) (v := .ref (A 5 1)) hC kg_X4_10 dX4_beginRecount_14 (hr3.led hW3) rfl rfl ?_
      refine g_ci (q := 20) (g_runV hC kv_X4_99 md_Jx4a65c_size_8abf5 (c_size _ hC.fl M _ (A 5 1) _ _ _ hr3.l1) (ci := 6) rfl hr3.l1 dX4_beginRecount_17 (by decide) (by decide) (by omega) (by omega) rfl rfl (Nat.le_of_ble_eq_true rfl)) rfl (fun r σ3 ⟨e1, e2⟩ => ?_) (fun _ _ h9 => False.elim h9)
      subst e1 e2
      refine g_icmp_ge (tgt := 44) (q := 23) hC dX4_beginRecount_20 (by decide) rfl (fun c_20 => ?_) (fun c_20 => ?_)
      · refine g_iconst (q := 45) (v := nI 0) hC dX4_beginRecount_44 rfl rfl ?_
        refine g_istore_n (q := 46) (i := 1) hC dX4_beginRecount_45 rfl (by decide) rfl ?_
        refine g_sub (lv0 := [(1, .int (nI 0)), (0, .ref (A 0 0))]) ⟨rfl, rfl, trivial⟩ ?_
        exact loop2 _ 0 σ3 (Nat.zero_add _) (by rw [show i = 6 + 0 by omega] at hr3; exact hr3) hF
      · exact absurd (nI_le (by omega) (by omega)) c_20
    | succ d9 ih =>
      intro i σ3 h1 hr3 hF
      have hW3 := RW_1 (bgN_1 (bg0 ρ) i) hWb
      have e10 : (bgN (bg0 ρ) i).1 10 1 = 6 := by rw [bgN_1]; exact w1.2.2.1
      have e11 : (bgN (bg0 ρ) i).1 11 1 = ρ.1 11 1 := by rw [bgN_1]; rfl
      obtain ⟨s1, s2, s3⟩ := step i σ3 (by omega) hr3 hF
      refine g_iload_n (q := 13) (i := 1) hC dX4_beginRecount_12 rfl rfl rfl ?_
      refine g_aload_n (q := 14) (i := 0) hC dX4_beginRecount_13 rfl rfl rfl ?_
      refine g_getf (q := 17) (v := .ref (A 5 1)) hC kg_X4_10 dX4_beginRecount_14 (hr3.led hW3) rfl rfl ?_
      refine g_ci (q := 20) (g_runV hC kv_X4_99 md_Jx4a65c_size_8abf5 (c_size _ hC.fl M _ (A 5 1) _ _ _ hr3.l1) (ci := 6) rfl hr3.l1 dX4_beginRecount_17 (by decide) (by decide) (by omega) (by omega) rfl rfl (Nat.le_of_ble_eq_true rfl)) rfl (fun r σ3 ⟨e1, e2⟩ => ?_) (fun _ _ h9 => False.elim h9)
      subst e1 e2
      refine g_icmp_ge (tgt := 44) (q := 23) hC dX4_beginRecount_20 (by decide) rfl (fun c_20 => ?_) (fun c_20 => ?_)
      · exact absurd c_20 (nI_ge (by omega) (by omega))
      · refine g_aload_n (q := 24) (i := 0) hC dX4_beginRecount_23 rfl rfl rfl ?_
        refine g_getf (q := 27) (v := .ref (A 5 1)) hC kg_X4_10 dX4_beginRecount_24 (hr3.led hW3) rfl rfl ?_
        refine g_iload_n (q := 28) (i := 1) hC dX4_beginRecount_27 rfl rfl rfl ?_
        refine g_cr (q := 31) (g_runV hC kv_X4_186 md_Jx4a65c_get_915e3 (c_gt1 _ hC.fl hr3 i (by omega)) (ci := 6) rfl hr3.l1 dX4_beginRecount_28 (by decide) (by decide) (by omega) (by omega) rfl rfl (Nat.le_of_ble_eq_true rfl)) rfl (fun r σ3 ⟨e1, e2⟩ => ?_) (fun _ _ h9 => False.elim h9)
        subst e1 e2
        refine g_ccast (q := 34) (ci := 0) hC kc_X4_49 dX4_beginRecount_31 rfl (hr3.acc (by omega)) rfl ?_
        refine g_iconst (q := 35) (v := (0)) hC dX4_beginRecount_34 rfl rfl ?_
        refine g_putf (q := 38) hC kf_X4_253 dX4_beginRecount_35 s1 (Nat.le_of_ble_eq_true rfl) rfl rfl rfl ?_
        refine g_iinc (q := 41) (i := 1) (v := (nI (i + 1))) hC dX4_beginRecount_38 rfl (nI_1 _) rfl ?_
        refine g_goto (tgt := 12) hC dX4_beginRecount_41 (by decide) ?_
        refine g_sub (lv0 := [(1, .int (nI (i + 1))), (0, .ref (A 0 0))]) ⟨rfl, rfl, trivial⟩ ?_
        exact ih (i + 1) _ (by omega) s2 s3
  have h5 := hr.pBeg w1.1 true
  have h6 := h5.pTak w1.1 0
  have hl5 : (gUp σ (A 0 0) (oB 4 ((ledF A ρ).set 9 (.int (bI true))))) (A 0 0) = some (oB 4 (ledF A (sB ρ 0 5 true))) := h5.1 0 0 (by decide) (by show 0 < ρ.1 11 0; rw [w1.1]; decide)
  refine g_aload_n (q := 1) (i := 0) hC dX4_beginRecount_0 rfl rfl rfl ?_
  refine g_iconst (q := 2) (v := (1)) hC dX4_beginRecount_1 rfl rfl ?_
  refine g_putf (q := 5) hC kf_X4_42 dX4_beginRecount_2 (hr.led hW) (Nat.le_of_ble_eq_true rfl) rfl rfl rfl ?_
  refine g_aload_n (q := 6) (i := 0) hC dX4_beginRecount_5 rfl rfl rfl ?_
  refine g_iconst (q := 7) (v := nI 0) hC dX4_beginRecount_6 rfl rfl ?_
  refine g_putf (q := 10) hC kf_X4_46 dX4_beginRecount_7 hl5 (Nat.le_of_ble_eq_true rfl) rfl rfl rfl ?_
  refine g_iconst (q := 11) (v := nI 0) hC dX4_beginRecount_10 rfl rfl ?_
  refine g_istore_n (q := 12) (i := 1) hC dX4_beginRecount_11 rfl (by decide) rfl ?_
  refine g_sub (lv0 := [(1, .int (nI 0)), (0, .ref (A 0 0))]) ⟨rfl, rfl, trivial⟩ ?_
  exact loop1 6 0 _ (by omega) h6 ((gFF.obj (hr.led hW) (by decide)).trans (gFF.obj hl5 (by decide)))
