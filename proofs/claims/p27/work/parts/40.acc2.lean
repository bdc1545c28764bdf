/-! ===== accounts: bars, the constructor; a throw by a wide index ===== -/
set_option maxRecDepth 100000 in
set_option maxHeartbeats 4000000 in
theorem c_X0_bars (l : Launch) (hfl : l.stackTraces = false) (M : gMT) (σ : gS) (a : Nat) (s h f u n c o w mb mf clk : Int32) (hA : σ a = some (oB 0 (accV s h f u n c o w))) : Con l M yX0_bars (.code yX0_bars cX0_bars 7 (Option.some FieldType.boolean)) 4 0 0 [.ref a, .int mb, .int mf, .int clk] σ (rI fun r σ2 => r = bI (fBar h f u n o w mb mf clk) ∧ σ2 = σ) (nX) := by
  refine g_con hfl (by decide) (lv := [(0, .ref a), (1, .int mb), (2, .int mf), (3, .int clk)]) rfl rfl (Nat.le_of_ble_eq_true rfl) (fun X hX hC hR htb => ?_)
  refine g_aload_n (q := 1) (i := 0) hC dX0_bars_0 rfl rfl rfl ?_
  refine g_iload_n (q := 2) (i := 3) hC dX0_bars_1 rfl rfl rfl ?_
  refine g_ci (q := 5) (g_runV hC kv_X0_47 md_X0_blocksLeft (c_X0_blocksLeft _ hC.fl M _ a s h f u n c o w clk hA) (ci := 0) rfl hA dX0_bars_2 (by decide) (by decide) (by omega) (by omega) rfl rfl (Nat.le_of_ble_eq_true rfl)) rfl (fun lf σ ⟨e1, e2⟩ => ?_) (fun _ _ h9 => False.elim h9)
  subst e2
  refine g_istore (q := 7) (i := 4) hC dX0_bars_5 (by decide) rfl ?_
  have tl2 : ∀ b5 b6 : Bool, b5 = (decide (0 < mb) && !decide (fLeft h u o w clk = -1) && decide (fLeft h u o w clk < mb)) → b6 = (decide (0 < mf) && !decide (f = -1) && decide (f < n + mf)) → G X M 7 (gQ X M 0 0 (rI fun r σ2 => r = bI (fBar h f u n o w mb mf clk) ∧ σ2 = σ) nX) (0 + 0) (0 + 0) σ 60 [(5, .int (bI b5)), (4, .int lf), (0, .ref a), (1, .int mb), (2, .int mf), (3, .int clk)] [.int (bI b6)] := by
    intro b5 b6 h5 h6
    have e : fBar h f u n o w mb mf clk = (b5 || b6) := by rw [fBar, h5, h6]
    refine g_istore (q := 62) (i := 6) hC dX0_bars_60 (by decide) rfl ?_
    refine g_iload (q := 64) (i := 5) hC dX0_bars_62 rfl rfl ?_
    refine g_if_ne (tgt := 72) (q := 67) hC dX0_bars_64 (by decide) rfl (fun c_64 => ?_) (fun c_64 => ?_)
    · refine g_iconst (q := 73) (v := (1)) hC dX0_bars_72 rfl rfl ?_
      refine g_goto (tgt := 77) hC dX0_bars_73 (by decide) ?_
      exact g_zret hC hR (rfl) dX0_bars_77 (by omega) (by omega) (⟨_, rfl, by rw [e, bI_n.mp c_64]; rfl, rfl⟩)
    · refine g_iload (q := 69) (i := 6) hC dX0_bars_67 rfl rfl ?_
      refine g_if_eq (tgt := 76) (q := 72) hC dX0_bars_69 (by decide) rfl (fun c_69 => ?_) (fun c_69 => ?_)
      · refine g_iconst (q := 77) (v := (0)) hC dX0_bars_76 rfl rfl ?_
        exact g_zret hC hR (rfl) dX0_bars_77 (by omega) (by omega) (⟨_, rfl, by rw [e, bI_0.mp c_64, bI_0.mp c_69]; rfl, rfl⟩)
      · refine g_iconst (q := 73) (v := (1)) hC dX0_bars_72 rfl rfl ?_
        refine g_goto (tgt := 77) hC dX0_bars_73 (by decide) ?_
        exact g_zret hC hR (rfl) dX0_bars_77 (by omega) (by omega) (⟨_, rfl, by rw [e, bI_0.mp c_64, bI_n.mp c_69]; rfl, rfl⟩)
  have tl1 : ∀ b5 : Bool, b5 = (decide (0 < mb) && !decide (fLeft h u o w clk = -1) && decide (fLeft h u o w clk < mb)) → G X M 7 (gQ X M 0 0 (rI fun r σ2 => r = bI (fBar h f u n o w mb mf clk) ∧ σ2 = σ) nX) (0 + 0) (0 + 0) σ 28 [(4, .int lf), (0, .ref a), (1, .int mb), (2, .int mf), (3, .int clk)] [.int (bI b5)] := by
    intro b5 h5
    refine g_istore (q := 30) (i := 5) hC dX0_bars_28 (by decide) rfl ?_
    refine g_iload_n (q := 31) (i := 2) hC dX0_bars_30 rfl rfl rfl ?_
    refine g_if_le (tgt := 59) (q := 34) hC dX0_bars_31 (by decide) rfl (fun c_31 => ?_) (fun c_31 => ?_)
    · refine g_iconst (q := 60) (v := (0)) hC dX0_bars_59 rfl rfl ?_
      exact tl2 b5 false h5 (by rw [decide_eq_false (Int32.not_lt.mpr c_31)]; rfl)
    · have g0 := decide_eq_true (Int32.not_le.mp c_31)
      refine g_aload_n (q := 35) (i := 0) hC dX0_bars_34 rfl rfl rfl ?_
      refine g_getf (q := 38) hC kg_X0_18 dX0_bars_35 hA rfl rfl ?_
      refine g_iconst (q := 39) (v := (-1)) hC dX0_bars_38 rfl rfl ?_
      refine g_icmp_eq (tgt := 59) (q := 42) hC dX0_bars_39 (by decide) rfl (fun c_39 => ?_) (fun c_39 => ?_)
      · refine g_iconst (q := 60) (v := (0)) hC dX0_bars_59 rfl rfl ?_
        exact tl2 b5 false h5 (by rw [decide_eq_true c_39]; simp)
      · refine g_aload_n (q := 43) (i := 0) hC dX0_bars_42 rfl rfl rfl ?_
        refine g_getf (q := 46) hC kg_X0_24 dX0_bars_43 hA rfl rfl ?_
        refine g_iload_n (q := 47) (i := 2) hC dX0_bars_46 rfl rfl rfl ?_
        refine g_iadd (q := 48) hC dX0_bars_47 rfl rfl ?_
        refine g_aload_n (q := 49) (i := 0) hC dX0_bars_48 rfl rfl rfl ?_
        refine g_getf (q := 52) hC kg_X0_18 dX0_bars_49 hA rfl rfl ?_
        refine g_icmp_le (tgt := 59) (q := 55) hC dX0_bars_52 (by decide) rfl (fun c_52 => ?_) (fun c_52 => ?_)
        · refine g_iconst (q := 60) (v := (0)) hC dX0_bars_59 rfl rfl ?_
          exact tl2 b5 false h5 (by rw [decide_eq_false (Int32.not_lt.mpr c_52)]; simp)
        · refine g_iconst (q := 56) (v := (1)) hC dX0_bars_55 rfl rfl ?_
          refine g_goto (tgt := 60) hC dX0_bars_56 (by decide) ?_
          exact tl2 b5 true h5 (by rw [g0, decide_eq_false c_39, decide_eq_true (Int32.not_le.mp c_52)]; rfl)
  refine g_iload_n (q := 8) (i := 1) hC dX0_bars_7 rfl rfl rfl ?_
  refine g_if_le (tgt := 27) (q := 11) hC dX0_bars_8 (by decide) rfl (fun c_8 => ?_) (fun c_8 => ?_)
  · refine g_iconst (q := 28) (v := (0)) hC dX0_bars_27 rfl rfl ?_
    exact tl1 false (by rw [decide_eq_false (Int32.not_lt.mpr c_8)]; rfl)
  · have g0 := decide_eq_true (Int32.not_le.mp c_8)
    refine g_iload (q := 13) (i := 4) hC dX0_bars_11 rfl rfl ?_
    refine g_iconst (q := 14) (v := (-1)) hC dX0_bars_13 rfl rfl ?_
    refine g_icmp_eq (tgt := 27) (q := 17) hC dX0_bars_14 (by decide) rfl (fun c_14 => ?_) (fun c_14 => ?_)
    · refine g_iconst (q := 28) (v := (0)) hC dX0_bars_27 rfl rfl ?_
      exact tl1 false (by rw [← e1, decide_eq_true c_14]; simp)
    · refine g_iload_n (q := 18) (i := 1) hC dX0_bars_17 rfl rfl rfl ?_
      refine g_iload (q := 20) (i := 4) hC dX0_bars_18 rfl rfl ?_
      refine g_icmp_le (tgt := 27) (q := 23) hC dX0_bars_20 (by decide) rfl (fun c_20 => ?_) (fun c_20 => ?_)
      · refine g_iconst (q := 28) (v := (0)) hC dX0_bars_27 rfl rfl ?_
        exact tl1 false (by rw [← e1, decide_eq_false (Int32.not_lt.mpr c_20)]; simp)
      · refine g_iconst (q := 24) (v := (1)) hC dX0_bars_23 rfl rfl ?_
        refine g_goto (tgt := 28) hC dX0_bars_24 (by decide) ?_
        exact tl1 true (by rw [← e1, g0, decide_eq_false c_14, decide_eq_true (Int32.not_le.mp c_20)]; rfl)
set_option maxRecDepth 100000 in
set_option maxHeartbeats 4000000 in
theorem c_X0_init (l : Launch) (hfl : l.stackTraces = false) (M : gMT) (σ : gS) (a : Nat) (hA : σ a = some (oB 0 (accV 0 0 0 0 0 0 0 0))) : Con l M yX0_init (.code yX0_init cX0_init 1 (Option.none : Option FieldType)) 2 0 0 [.ref a] σ (rV fun σ2 => σ2 = gUp σ a (oB 0 (accV (-1) (-1) (-1) 0 0 0 0 0))) (nX) := by
  refine g_con hfl (by decide) (lv := [(0, .ref a)]) rfl rfl (Nat.le_of_ble_eq_true rfl) (fun X hX hC hR htb => ?_)
  refine g_aload_n (q := 1) (i := 0) hC dX0_init_0 rfl rfl rfl ?_
  refine g_objInit (q := 4) hC ko_X0_3 dX0_init_1 (by decide) (by decide) rfl ?_
  refine g_aload_n (q := 5) (i := 0) hC dX0_init_4 rfl rfl rfl ?_
  refine g_iconst (q := 6) (v := (-1)) hC dX0_init_5 rfl rfl ?_
  refine g_putf (q := 9) hC kf_X0_9 dX0_init_6 hA (Nat.le_of_ble_eq_true rfl) rfl rfl rfl ?_
  refine g_aload_n (q := 10) (i := 0) hC dX0_init_9 rfl rfl rfl ?_
  refine g_iconst (q := 11) (v := (-1)) hC dX0_init_10 rfl rfl ?_
  refine g_putf2 (q := 14) hC kf_X0_15 dX0_init_11 (Nat.le_of_ble_eq_true rfl) rfl rfl rfl ?_
  refine g_aload_n (q := 15) (i := 0) hC dX0_init_14 rfl rfl rfl ?_
  refine g_iconst (q := 16) (v := (-1)) hC dX0_init_15 rfl rfl ?_
  refine g_putf2 (q := 19) hC kf_X0_18 dX0_init_16 (Nat.le_of_ble_eq_true rfl) rfl rfl rfl ?_
  refine g_aload_n (q := 20) (i := 0) hC dX0_init_19 rfl rfl rfl ?_
  refine g_iconst (q := 21) (v := (0)) hC dX0_init_20 rfl rfl ?_
  refine g_putf2 (q := 24) hC kf_X0_21 dX0_init_21 (Nat.le_of_ble_eq_true rfl) rfl rfl rfl ?_
  refine g_aload_n (q := 25) (i := 0) hC dX0_init_24 rfl rfl rfl ?_
  refine g_iconst (q := 26) (v := (0)) hC dX0_init_25 rfl rfl ?_
  refine g_putf2 (q := 29) hC kf_X0_24 dX0_init_26 (Nat.le_of_ble_eq_true rfl) rfl rfl rfl ?_
  refine g_aload_n (q := 30) (i := 0) hC dX0_init_29 rfl rfl rfl ?_
  refine g_iconst (q := 31) (v := (0)) hC dX0_init_30 rfl rfl ?_
  refine g_putf2 (q := 34) hC kf_X0_27 dX0_init_31 (Nat.le_of_ble_eq_true rfl) rfl rfl rfl ?_
  refine g_aload_n (q := 35) (i := 0) hC dX0_init_34 rfl rfl rfl ?_
  refine g_iconst (q := 36) (v := (0)) hC dX0_init_35 rfl rfl ?_
  refine g_putf2 (q := 39) hC kf_X0_30 dX0_init_36 (Nat.le_of_ble_eq_true rfl) rfl rfl rfl ?_
  refine g_aload_n (q := 40) (i := 0) hC dX0_init_39 rfl rfl rfl ?_
  refine g_iconst (q := 41) (v := (0)) hC dX0_init_40 rfl rfl ?_
  refine g_putf2 (q := 44) hC kf_X0_34 dX0_init_41 (Nat.le_of_ble_eq_true rfl) rfl rfl rfl ?_
  exact g_vret hC hR dX0_init_44 (by omega) (by omega) (⟨rfl, rfl⟩)
section GW
variable {X : gX} {M : gMT} {own : String} {cc : ByteArray} {nL d mc ms : Nat} {Q : State → Prop} {k n : Nat} {σ : gS} {pc q : Nat} {lv : List (Nat × Value)} {st st0 rest : List Value}
variable {P : Option Value → gS → Prop} {PX : String → gS → Prop}
theorem g_throwSW {ret : Option FieldType} {nm : String} (hC : gOk X M own cc nL d mc ms) (hR : gRet X ret nm) (htb : ∀ x ∈ (xc X).exceptionTable.toList, False) {ik is ic : Nat} {cls text : String} (hw : gThr own ik is ic cls text) (d0 : decode cc pc = .ok (.new ik, 3)) (d3 : decode cc (pc + 3) = .ok (.dup, 1)) (d4 : decode cc (pc + 4) = .ok (.ldc_w is, 3)) (d7 : decode cc (pc + 7) = .ok (.invokespecial ic, 3)) (d10 : decode cc (pc + 10) = .ok (.athrow, 1)) (hd : 6 ≤ d) (hcat : (st.map fun v => v.category).sum ≤ 8) (hk : k + 1 ≤ mc) (hn : n + 6 ≤ ms) (hp : PX cls σ) : G X M nL (gQ X M mc ms P PX) k n σ pc lv st := by
  intro H locs ls hP hS hl
  obtain ⟨rfl, w1, w2, w3, w4, w5, w6, w7⟩ := hw
  obtain ⟨sa, hsa⟩ := hC.amb.2.2.2.2.2.2.2.1 _ w1
  have hd1 := hC.2.2.2.2.2.2.1
  have hd2 := hC.2.2.2.2.2.2.2.1
  refine vx_throwSW (names := ["java/lang/RuntimeException", "java/lang/Exception"]) hC.x hC.b hC.fl hC.ow w3 (by decide +kernel) (hC.ts w4) (hC.ts w5) hsa ?_ (fun w hw => List.all_eq_true.mp w7 w hw) hC.amb.2.2.2.2.1 hC.amb.2.2.2.2.2.1 hS (hl.1.trans hC.nl.symm) d0 d3 d4 d7 d10 (fun x hx => (htb x hx).elim) (by show 2 + 3 < _; omega) (by show _ + (13 * (2 + 1) + 43) ≤ _; omega) (Nat.le_trans hk hC.2.2.2.2.2.2.2.2.1) (Nat.le_trans hn hC.2.2.2.2.2.2.2.2.2.1) hR.2.1 ?_ hS.2.2 hk hn
  · intro w hw
    have h1 := List.all_eq_true.mp w6 w hw
    simp only [Bool.or_eq_true, Bool.and_eq_true, decide_eq_true_eq] at h1
    rcases h1 with (⟨h2, h3⟩ | h2) | h2
    · exact hC.ts (wG_in h3 h2)
    · subst h2
      exact va_Nw.use rfl (hC.amb.2.2.2.2.2.2.2.2.1 _ w2)
    · obtain ⟨y, hy, rfl⟩ := List.mem_map.mp h2
      exact va_Nw.use rfl (hC.amb.2.2.2.2.2.2.2.2.2.2.1 _ hy)
  · intro t hvm hz hkeep
    refine ⟨σ, hp, hP.kept hkeep, Nat.le_trans hS.1 hz, fun y h1 h2 => ?_⟩
    rw [hkeep y (Nat.lt_of_lt_of_le h1 hS.1)]
    exact hS.2.1 y h1 h2
end GW
/-- the words of the throws -/
theorem tA {is : Nat} {text : String} (h : (is, text) ∈ gStr) : gThr RX4 65 is 69 eA text := ⟨rfl, h, by decide +kernel, by decide +kernel, wG_in (by decide +kernel) (by decide +kernel), wG_in (by decide +kernel) (by decide +kernel), (thr6 eA 69 (Or.inl ⟨rfl, rfl⟩)).1, (thr6 eA 69 (Or.inl ⟨rfl, rfl⟩)).2⟩
theorem tS {is : Nat} {text : String} (h : (is, text) ∈ gStr) : gThr RX4 76 is 80 eS text := ⟨rfl, h, by decide +kernel, by decide +kernel, wG_in (by decide +kernel) (by decide +kernel), wG_in (by decide +kernel) (by decide +kernel), (thr6 eS 80 (Or.inr (Or.inl ⟨rfl, rfl⟩))).1, (thr6 eS 80 (Or.inr (Or.inl ⟨rfl, rfl⟩))).2⟩
theorem tI {is : Nat} {text : String} (h : (is, text) ∈ gStr) : gThr RX4 134 is 138 eI text := ⟨rfl, h, by decide +kernel, by decide +kernel, wG_in (by decide +kernel) (by decide +kernel), wG_in (by decide +kernel) (by decide +kernel), (thr6 eI 138 (Or.inr (Or.inr ⟨rfl, rfl⟩))).1, (thr6 eI 138 (Or.inr (Or.inr ⟨rfl, rfl⟩))).2⟩
