/-! ===== the law's loop ===== -/
theorem Jn.mono {M : gMT} {a0 m o n : Nat} {σ : gS} (h : Jn M a0 m o n σ) : Jn M a0 m o (n + 1) σ := by
  obtain ⟨A, ρ, W, ad, rf, S, f, h1, h2, h3, h4, h5, h6⟩ := h
  exact ⟨A, ρ, W, ad, rf, S, f, h1, h2, h3, h4, h5.mono, h6⟩
set_option maxRecDepth 100000 in
set_option maxHeartbeats 4000000 in
theorem law_sw {X : gX} {M : gMT} {Q : State → Prop} {b L : Nat} {sc : Nat → Int32} {a0 m o n : Nat} {σ : gS} (hx : LC X M b L sc) (hn : 6 * n + 6 ≤ L) (nx : nxt X M Q b a0 m o n) (hJ : Jn M a0 m o n σ) {x : Int32} (hx0 : 0 ≤ x.toInt ∧ x.toInt < 32) : G X M 7 Q (500 + 900 * n) (5000 + 13400 * n) σ 40 [(4, .int (nI (6 * n))), (3, .ref o), (2, .ref m), (1, .ref a0), (0, .ref b)] [.int x] := by
  obtain ⟨v, e, hv⟩ : ∃ v : Nat, x.toInt = (v : Int) ∧ v < 32 := ⟨x.toInt.toNat, by omega, by omega⟩
  have hC := hx.1
  by_cases h24 : v < 24
  · match v, e, h24 with
    | 0, e, _ => exact g_tsIn hC dL_law_40 (off := 112) (tgt := 152) (by rw [e]; decide) (by rw [e]; decide) (by rw [e]; rfl) (by decide) (law_c0 hx hn nx hJ)
    | 1, e, _ => exact g_tsIn hC dL_law_40 (off := 170) (tgt := 210) (by rw [e]; decide) (by rw [e]; decide) (by rw [e]; rfl) (by decide) (law_c1 hx hn nx hJ)
    | 2, e, _ => exact g_tsIn hC dL_law_40 (off := 214) (tgt := 254) (by rw [e]; decide) (by rw [e]; decide) (by rw [e]; rfl) (by decide) (law_c2 hx hn nx hJ)
    | 3, e, _ => exact g_tsIn hC dL_law_40 (off := 227) (tgt := 267) (by rw [e]; decide) (by rw [e]; decide) (by rw [e]; rfl) (by decide) (law_c3 hx hn nx hJ)
    | 4, e, _ => exact g_tsIn hC dL_law_40 (off := 271) (tgt := 311) (by rw [e]; decide) (by rw [e]; decide) (by rw [e]; rfl) (by decide) (law_c4 hx hn nx hJ)
    | 5, e, _ => exact g_tsIn hC dL_law_40 (off := 284) (tgt := 324) (by rw [e]; decide) (by rw [e]; decide) (by rw [e]; rfl) (by decide) (law_c5 hx hn nx hJ)
    | 6, e, _ => exact g_tsIn hC dL_law_40 (off := 340) (tgt := 380) (by rw [e]; decide) (by rw [e]; decide) (by rw [e]; rfl) (by decide) (law_c6 hx hn nx hJ)
    | 7, e, _ => exact g_tsIn hC dL_law_40 (off := 408) (tgt := 448) (by rw [e]; decide) (by rw [e]; decide) (by rw [e]; rfl) (by decide) (law_c7 hx hn nx hJ)
    | 8, e, _ => exact g_tsIn hC dL_law_40 (off := 421) (tgt := 461) (by rw [e]; decide) (by rw [e]; decide) (by rw [e]; rfl) (by decide) (law_c8 hx hn nx hJ)
    | 9, e, _ => exact g_tsIn hC dL_law_40 (off := 489) (tgt := 529) (by rw [e]; decide) (by rw [e]; decide) (by rw [e]; rfl) (by decide) (law_c9 hx hn nx hJ)
    | 10, e, _ => exact g_tsIn hC dL_law_40 (off := 557) (tgt := 597) (by rw [e]; decide) (by rw [e]; decide) (by rw [e]; rfl) (by decide) (law_c10 hx hn nx hJ)
    | 11, e, _ => exact g_tsIn hC dL_law_40 (off := 613) (tgt := 653) (by rw [e]; decide) (by rw [e]; decide) (by rw [e]; rfl) (by decide) (law_c11 hx hn nx hJ)
    | 12, e, _ => exact g_tsIn hC dL_law_40 (off := 681) (tgt := 721) (by rw [e]; decide) (by rw [e]; decide) (by rw [e]; rfl) (by decide) (law_c12 hx hn nx hJ)
    | 13, e, _ => exact g_tsIn hC dL_law_40 (off := 749) (tgt := 789) (by rw [e]; decide) (by rw [e]; decide) (by rw [e]; rfl) (by decide) (law_c13 hx hn nx hJ)
    | 14, e, _ => exact g_tsIn hC dL_law_40 (off := 817) (tgt := 857) (by rw [e]; decide) (by rw [e]; decide) (by rw [e]; rfl) (by decide) (law_c14 hx hn nx hJ)
    | 15, e, _ => exact g_tsIn hC dL_law_40 (off := 901) (tgt := 941) (by rw [e]; decide) (by rw [e]; decide) (by rw [e]; rfl) (by decide) (law_c15 hx hn nx hJ)
    | 16, e, _ => exact g_tsIn hC dL_law_40 (off := 957) (tgt := 997) (by rw [e]; decide) (by rw [e]; decide) (by rw [e]; rfl) (by decide) (law_c16 hx hn nx hJ)
    | 17, e, _ => exact g_tsIn hC dL_law_40 (off := 1025) (tgt := 1065) (by rw [e]; decide) (by rw [e]; decide) (by rw [e]; rfl) (by decide) (law_c17 hx hn nx hJ)
    | 18, e, _ => exact g_tsIn hC dL_law_40 (off := 1093) (tgt := 1133) (by rw [e]; decide) (by rw [e]; decide) (by rw [e]; rfl) (by decide) (law_c18 hx hn nx hJ)
    | 19, e, _ => exact g_tsIn hC dL_law_40 (off := 1161) (tgt := 1201) (by rw [e]; decide) (by rw [e]; decide) (by rw [e]; rfl) (by decide) (law_c19 hx hn nx hJ)
    | 20, e, _ => exact g_tsIn hC dL_law_40 (off := 1229) (tgt := 1269) (by rw [e]; decide) (by rw [e]; decide) (by rw [e]; rfl) (by decide) (law_c20 hx hn nx hJ)
    | 21, e, _ => exact g_tsIn hC dL_law_40 (off := 1285) (tgt := 1325) (by rw [e]; decide) (by rw [e]; decide) (by rw [e]; rfl) (by decide) (law_c21 hx hn nx hJ)
    | 22, e, _ => exact g_tsIn hC dL_law_40 (off := 1298) (tgt := 1338) (by rw [e]; decide) (by rw [e]; decide) (by rw [e]; rfl) (by decide) (law_c22 hx hn nx hJ)
    | 23, e, _ => exact g_tsIn hC dL_law_40 (off := 1354) (tgt := 1394) (by rw [e]; decide) (by rw [e]; decide) (by rw [e]; rfl) (by decide) (law_c23 hx hn nx hJ)
    | k + 24, _, h => exact absurd h (by omega)
  · exact g_tsOut hC dL_law_40 (tgt := 1462) (Or.inr (by rw [e]; omega)) (by decide) (nx _ _ _ (by omega) (by omega) hJ.mono)
set_option maxRecDepth 100000 in
set_option maxHeartbeats 4000000 in
theorem law_head {X : gX} {M : gMT} {Q : State → Prop} {b L : Nat} {sc : Nat → Int32} {a0 m o n : Nat} {σ : gS} (hx : LC X M b L sc) (hn5 : n ≤ 512) (hend : G X M 7 Q (500 + 900 * n) (5000 + 13400 * n) σ 1468 [(4, .int (nI (6 * n))), (3, .ref o), (2, .ref m), (1, .ref a0), (0, .ref b)] []) (nx : 6 * n + 6 ≤ L → nxt X M Q b a0 m o n) (hJ : Jn M a0 m o n σ) : G X M 7 Q (500 + 900 * n) (5000 + 13400 * n) σ 23 [(4, .int (nI (6 * n))), (3, .ref o), (2, .ref m), (1, .ref a0), (0, .ref b)] [] := by
  have hx' := hx
  obtain ⟨hC, hX, hbl, hbA, hL⟩ := hx'
  refine g_iload (q := 25) (i := 4) hC dL_law_23 rfl rfl ?_
  refine g_aload_n (q := 26) (i := 0) hC dL_law_25 rfl rfl rfl ?_
  refine g_slen (q := 27) hC hX hbl hbA dL_law_26 rfl ?_
  refine g_bipush (q := 29) (v := nI 6) hC dL_law_27 rfl rfl ?_
  refine g_isub (q := 30) (v := nI L - nI 6) hC dL_law_29 rfl rfl ?_
  have e : (nI L - nI 6).toInt = (L : Int) - 6 := by
    have e1 := nI_toInt (n := L) (by omega)
    have e2 := nI_toInt (n := 6) (by omega)
    rw [Jvm.Kit.i32_sub (by rw [e1, e2]; omega) (by rw [e1, e2]; omega), e1, e2]
    rfl
  have e3 := nI_toInt (n := 6 * n) (by omega)
  refine g_icmp_gt (tgt := 1468) (q := 33) hC dL_law_30 (by decide) rfl (fun c => hend) (fun c => ?_)
  have hn : 6 * n + 6 ≤ L := by
    rw [Int32.lt_iff_toInt_lt, e, e3] at c
    omega
  refine g_aload_n (q := 34) (i := 0) hC dL_law_33 rfl rfl rfl ?_
  refine g_iload (q := 36) (i := 4) hC dL_law_34 rfl rfl ?_
  refine g_sld (q := 37) (v := sc (6 * n)) hC hX hbl hbA dL_law_36 (vp_in_nI (by omega) (by omega)) (congrArg sc (nI_clamp (by omega))) rfl ?_
  refine g_bipush (q := 39) (v := nI 31) hC dL_law_37 rfl rfl ?_
  refine g_iand (q := 40) (v := sc (6 * n) &&& nI 31) hC dL_law_39 rfl rfl ?_
  have em : (sc (6 * n) &&& nI 31).toInt = (sc (6 * n)).toInt % 2 ^ 5 := Jvm.Kit.i32_mask _ _ (by decide) (by decide)
  exact law_sw hx hn (nx hn) hJ ⟨by rw [em]; omega, by rw [em]; omega⟩
set_option maxRecDepth 100000 in
set_option maxHeartbeats 4000000 in
theorem law_loop {X : gX} {M : gMT} {Q : State → Prop} {b L : Nat} {sc : Nat → Int32} {a0 m o : Nat} (hx : LC X M b L sc) (hend : ∀ (k n9 : Nat) (σ : gS) (lv : List (Nat × Value)), k ≤ 601024 → n9 ≤ 7293034 → G X M 7 Q k n9 σ 1468 lv []) : ∀ (d9 n : Nat) (σ : gS), n + d9 = 512 → Jn M a0 m o n σ → G X M 7 Q (500 + 900 * n) (5000 + 13400 * n) σ 23 [(4, .int (nI (6 * n))), (3, .ref o), (2, .ref m), (1, .ref a0), (0, .ref b)] [] := by
  intro d9
  induction d9 with
  | zero =>
    intro n σ h hJ
    exact law_head hx (by omega) (hend _ _ _ _ (by omega) (by omega)) (fun hn => absurd hn (by have := hx.2.2.2.2; omega)) hJ
  | succ d9 ih =>
    intro n σ h hJ
    refine law_head hx (by omega) (hend _ _ _ _ (by omega) (by omega)) (fun hn k n9 σ2 h1 h2 hJ2 => ?_) hJ
    refine g_iinc (q := 1465) (i := 4) (v := nI (6 * (n + 1))) hx.1 dL_law_1462 rfl (nI_add (6 * n) 6) rfl ?_
    refine g_goto (tgt := 23) hx.1 dL_law_1465 (by decide) ?_
    refine g_sub (lv0 := [(4, .int (nI (6 * (n + 1)))), (3, .ref o), (2, .ref m), (1, .ref a0), (0, .ref b)]) ⟨rfl, rfl, rfl, rfl, rfl, trivial⟩ ?_
    exact g_widen h1 h2 (ih (n + 1) σ2 (by omega) hJ2)
