/-! ===== the law: isIn, holds (by wip/p27/gen_holds.py) ===== -/
section HV
variable {l : Launch} {M : gMT} {φ σ : gS} {a0 n : Nat} {ρ S : gSt}
theorem nnI {x : Int32} (h : 0 ≤ x.toInt) : ¬ x < 0 := by
  rw [Int32.lt_iff_toInt_lt, show (0 : Int32).toInt = 0 by decide]
  omega
theorem q_let (hfl : l.stackTraces = false) (hst : St M φ a0 ρ σ) (hw : RW ρ ∧ RE ρ) {p t : Nat} (hp : p < ρ.1 10 3) (ht : t < 2 ^ 30) : Con l M yL_letter (.codeWith yL_letter cL_letter 4 (some .int) hL_letter) 13 0 0 [.ref a0, .int (nI p), .int (nI t)] σ (rI (sQ M φ a0 (ltv ρ p t) ρ)) nX := by
  have w2 := hw.1.2.1
  exact con_v (s_letterZ hfl (nI p) (nI t) hst hw (inR_ok hp (by omega)) (nI_pos (by omega))) (lt_v hw hp ht)
theorem u_0 {k : Nat} (h : k < 6) : lo_used ρ (nI 0) (nI k) = ("", ρ.2.1 4 k, ρ) := lo_acc_s (acl_0s h)
theorem u_1 {k : Nat} (h : k < 3) : lo_used ρ (nI 1) (nI k) = ("", ρ.2.1 4 (6 + k), ρ) := lo_acc_s (acl_1s h)
theorem u_2 (hw : RW ρ ∧ RE ρ) {k : Nat} (h : k < ρ.1 10 3) : lo_used ρ (nI 2) (nI k) = ("", ρ.2.1 4 (9 + k), ρ) := lo_acc_s (acl_2s hw.1 h)
theorem f_0 {k : Nat} (h : k < 6) : lo_filesOf ρ (nI 0) (nI k) = ("", ρ.2.1 5 k, ρ) := lo_acc_s (acl_0s h)
theorem f_1 {k : Nat} (h : k < 3) : lo_filesOf ρ (nI 1) (nI k) = ("", ρ.2.1 5 (6 + k), ρ) := lo_acc_s (acl_1s h)
theorem f_2 (hw : RW ρ ∧ RE ρ) {k : Nat} (h : k < ρ.1 10 3) : lo_filesOf ρ (nI 2) (nI k) = ("", ρ.2.1 5 (9 + k), ρ) := lo_acc_s (acl_2s hw.1 h)
theorem g_0 {k : Nat} (h : k < 6) : lo_grace ρ (nI 0) (nI k) = ("", fGrace (ρ.2.1 7 k) (ρ.2.1 8 k) (ρ.2.1 0 0), ρ) := lo_acc_s (acl_0s h)
theorem ub_v (hR : Rel n ρ S) {a : Nat} (ha : a < 9 + ρ.1 10 3) : ubN ρ a (ρ.1 10 4) = ρ.2.1 4 a := by
  rw [ubN_u, (hR.2.2.2.2.1 a ha).1]
theorem an_0 (hR : Rel n ρ S) {k : Nat} (h : k < 6) : lo_usedByFiles ρ (nI 0) (nI k) = ("", ρ.2.1 4 k, ρ) := by
  rw [← ub_v hR (a := k) (by omega)]
  exact lo_acc_s (acl_0s h)
theorem an_2 (hR : Rel n ρ S) {k : Nat} (h : k < ρ.1 10 3) : lo_usedByFiles ρ (nI 2) (nI k) = ("", ρ.2.1 4 (9 + k), ρ) := by
  rw [← ub_v hR (a := 9 + k) (by omega)]
  exact lo_acc_s (acl_2s hR.1.1 h)
end HV
set_option maxRecDepth 100000 in
set_option maxHeartbeats 4000000 in
theorem c_isIn (l : Launch) (hfl : l.stackTraces = false) (M : gMT) (σ : gS) (φ : gS) (a0 n : Nat) (ρ : gSt) (k j : Nat) (hk : k < ρ.1 10 3) (hj : j < ρ.1 10 3) (hst : St M φ a0 ρ σ) (hI : Iv n ρ) : Con l M yL_isIn (.code yL_isIn cL_isIn 4 (Option.some FieldType.boolean)) 14 0 0 [.ref a0, .int (nI k), .int (nI j)] σ (rI (sQ M φ a0 (bI (wi ρ k j)) ρ)) (nX) := by
  refine g_con hfl (by decide) (lv := [(0, .ref a0), (1, .int (nI k)), (2, .int (nI j))]) rfl rfl (Nat.le_of_ble_eq_true rfl) (fun X hX hC hR htb => ?_)
  have hw := hI.w
  have w2 := hw.1.2.1
  have hd8 := dep_8 (np_9 hw.1 hw.2 hj)
  have loop : ∀ (d9 t : Nat) (σ : gS), t + d9 = dep ρ j → (∀ s, s < t → ltv ρ k s = ltv ρ j s) → St M φ a0 ρ σ → G X M 4 (gQ X M 0 0 (rI (sQ M φ a0 (bI (wi ρ k j)) ρ)) nX) 0 0 σ 2 [(3, .int (nI t)), (0, .ref a0), (1, .int (nI k)), (2, .int (nI j))] [] := by
    intro d9
    induction d9 with
    | zero =>
      intro t σ h1 h2 hst
      refine g_aload_n (q := 3) (i := 0) hC dL_isIn_2 rfl rfl rfl ?_
      refine g_iload_n (q := 4) (i := 2) hC dL_isIn_3 rfl rfl rfl ?_
      refine g_iload_n (q := 5) (i := 3) hC dL_isIn_4 rfl rfl rfl ?_
      refine g_ci (q := 8) (g_runSH hC ks_L_99 md_L_letter (q_let hC.fl hst hw hj (t := t) (by omega)) dL_isIn_5 (by decide) (by decide) (by omega) (by omega) rfl rfl (Nat.le_of_ble_eq_true rfl)) rfl (fun r σ ⟨e9, hst⟩ => ?_) (fun _ _ h9 => False.elim h9)
      subst e9
      refine g_bipush (q := 10) (v := nI 32) hC dL_isIn_8 rfl rfl ?_
      have ht : ¬ t < dep ρ j := by omega
      refine g_icmp_eq (tgt := 34) (q := 13) hC dL_isIn_10 (by decide) rfl (fun _ => ?_) (fun c9 => absurd (ltv_e ht) c9)
      refine g_aload_n (q := 35) (i := 0) hC dL_isIn_34 rfl rfl rfl ?_
      refine g_iload_n (q := 36) (i := 2) hC dL_isIn_35 rfl rfl rfl ?_
      refine g_iload_n (q := 37) (i := 3) hC dL_isIn_36 rfl rfl rfl ?_
      refine g_ci (q := 40) (g_runSH hC ks_L_99 md_L_letter (q_let hC.fl hst hw hj (t := t) (by omega)) dL_isIn_37 (by decide) (by decide) (by omega) (by omega) rfl rfl (Nat.le_of_ble_eq_true rfl)) rfl (fun r σ ⟨e9, hst⟩ => ?_) (fun _ _ h9 => False.elim h9)
      subst e9
      refine g_bipush (q := 42) (v := nI 32) hC dL_isIn_40 rfl rfl ?_
      refine g_icmp_ne (tgt := 49) (q := 45) hC dL_isIn_42 (by decide) rfl (fun c9 => absurd (ltv_e ht) c9) (fun _ => ?_)
      refine g_iconst (q := 46) (v := (1)) hC dL_isIn_45 rfl rfl ?_
      refine g_goto (tgt := 50) hC dL_isIn_46 (by decide) ?_
      exact g_zret hC hR (rfl) dL_isIn_50 (by omega) (by omega) (⟨_, rfl, by rw [(wi_ltv hI hk hj).mpr (fun s hs => h2 s (by omega))]; rfl, hst⟩)
    | succ d9 ih =>
      intro t σ h1 h2 hst
      refine g_aload_n (q := 3) (i := 0) hC dL_isIn_2 rfl rfl rfl ?_
      refine g_iload_n (q := 4) (i := 2) hC dL_isIn_3 rfl rfl rfl ?_
      refine g_iload_n (q := 5) (i := 3) hC dL_isIn_4 rfl rfl rfl ?_
      refine g_ci (q := 8) (g_runSH hC ks_L_99 md_L_letter (q_let hC.fl hst hw hj (t := t) (by omega)) dL_isIn_5 (by decide) (by decide) (by omega) (by omega) rfl rfl (Nat.le_of_ble_eq_true rfl)) rfl (fun r σ ⟨e9, hst⟩ => ?_) (fun _ _ h9 => False.elim h9)
      subst e9
      refine g_bipush (q := 10) (v := nI 32) hC dL_isIn_8 rfl rfl ?_
      have ht : t < dep ρ j := by omega
      refine g_icmp_eq (tgt := 34) (q := 13) hC dL_isIn_10 (by decide) rfl (fun c9 => absurd c9 (ltv_s hI hj ht)) (fun _ => ?_)
      refine g_aload_n (q := 14) (i := 0) hC dL_isIn_13 rfl rfl rfl ?_
      refine g_iload_n (q := 15) (i := 2) hC dL_isIn_14 rfl rfl rfl ?_
      refine g_iload_n (q := 16) (i := 3) hC dL_isIn_15 rfl rfl rfl ?_
      refine g_ci (q := 19) (g_runSH hC ks_L_99 md_L_letter (q_let hC.fl hst hw hj (t := t) (by omega)) dL_isIn_16 (by decide) (by decide) (by omega) (by omega) rfl rfl (Nat.le_of_ble_eq_true rfl)) rfl (fun r σ ⟨e9, hst⟩ => ?_) (fun _ _ h9 => False.elim h9)
      subst e9
      refine g_aload_n (q := 20) (i := 0) hC dL_isIn_19 rfl rfl rfl ?_
      refine g_iload_n (q := 21) (i := 1) hC dL_isIn_20 rfl rfl rfl ?_
      refine g_iload_n (q := 22) (i := 3) hC dL_isIn_21 rfl rfl rfl ?_
      refine g_ci (q := 25) (g_runSH hC ks_L_99 md_L_letter (q_let hC.fl hst hw hk (t := t) (by omega)) dL_isIn_22 (by decide) (by decide) (by omega) (by omega) rfl rfl (Nat.le_of_ble_eq_true rfl)) rfl (fun r σ ⟨e9, hst⟩ => ?_) (fun _ _ h9 => False.elim h9)
      subst e9
      refine g_icmp_ne (tgt := 34) (q := 28) hC dL_isIn_25 (by decide) rfl (fun c9 => ?_) (fun c9 => ?_)
      · skip
        refine g_aload_n (q := 35) (i := 0) hC dL_isIn_34 rfl rfl rfl ?_
        refine g_iload_n (q := 36) (i := 2) hC dL_isIn_35 rfl rfl rfl ?_
        refine g_iload_n (q := 37) (i := 3) hC dL_isIn_36 rfl rfl rfl ?_
        refine g_ci (q := 40) (g_runSH hC ks_L_99 md_L_letter (q_let hC.fl hst hw hj (t := t) (by omega)) dL_isIn_37 (by decide) (by decide) (by omega) (by omega) rfl rfl (Nat.le_of_ble_eq_true rfl)) rfl (fun r σ ⟨e9, hst⟩ => ?_) (fun _ _ h9 => False.elim h9)
        subst e9
        refine g_bipush (q := 42) (v := nI 32) hC dL_isIn_40 rfl rfl ?_
        refine g_icmp_ne (tgt := 49) (q := 45) hC dL_isIn_42 (by decide) rfl (fun _ => ?_) (fun c8 => absurd c8 (ltv_s hI hj ht))
        refine g_iconst (q := 50) (v := (0)) hC dL_isIn_49 rfl rfl ?_
        exact g_zret hC hR (rfl) dL_isIn_50 (by omega) (by omega) (⟨_, rfl, by rw [Bool.eq_false_iff.mpr (fun z => c9 ((wi_ltv hI hk hj).mp z t ht).symm)]; rfl, hst⟩)
      · skip
        refine g_iinc (q := 31) (i := 3) (v := (nI (t + 1))) hC dL_isIn_28 rfl (nI_1 _) rfl ?_
        refine g_goto (tgt := 2) hC dL_isIn_31 (by decide) ?_
        refine g_sub (lv0 := [(3, .int (nI (t + 1))), (0, .ref a0), (1, .int (nI k)), (2, .int (nI j))]) ⟨rfl, rfl, rfl, rfl, trivial⟩ ?_
        refine ih (t + 1) σ (by omega) (fun s hs => ?_) hst
        by_cases z : s = t
        · rw [z]
          exact c9.symm
        · exact h2 s (by omega)
  refine g_iconst (q := 1) (v := nI 0) hC dL_isIn_0 rfl rfl ?_
  refine g_istore_n (q := 2) (i := 3) hC dL_isIn_1 rfl (by decide) rfl ?_
  refine g_sub (lv0 := [(3, .int (nI 0)), (0, .ref a0), (1, .int (nI k)), (2, .int (nI j))]) ⟨rfl, rfl, rfl, rfl, trivial⟩ ?_
  exact loop _ 0 σ (Nat.zero_add _) (fun s hs => absurd hs (Nat.not_lt_zero _)) hst
set_option maxRecDepth 100000 in
set_option maxHeartbeats 4000000 in
theorem c_holds (l : Launch) (hfl : l.stackTraces = false) (M : gMT) (σ : gS) (φ : gS) (a0 n : Nat) (ρ : gSt) (hn : n ≤ 600) (hst : St M φ a0 ρ σ) (hI : Iv n ρ) : Con l M yL_holds (.code yL_holds cL_holds 10 (Option.some FieldType.boolean)) 15 4100 38500 [.ref a0] σ (rI (sQ M φ a0 1 ρ)) (nX) := by
  refine g_con hfl (by decide) (lv := [(0, .ref a0)]) rfl rfl (Nat.le_of_ble_eq_true rfl) (fun X hX hC hR htb => ?_)
  have hw := hI.w
  have hI0 := hI
  obtain ⟨⟨S, hQ, hz⟩, hl⟩ := hI
  have w2 := hw.1.2.1
  have inner : ∀ k : Nat, k < ρ.1 10 3 → (∀ (kx nx : Nat) (σ : gS), kx ≤ 551 + 166 * (k + 1) → nx ≤ 6426 + 1516 * (k + 1) → St M φ a0 ρ σ → G X M 10 (gQ X M 4100 38500 (rI (sQ M φ a0 1 ρ)) nX) kx nx σ 455 [(5, .int (nI k)), (4, .int 1), (0, .ref a0)] []) → ∀ (d9 j : Nat) (σ : gS), j + d9 = ρ.1 10 3 → St M φ a0 ρ σ → G X M 10 (gQ X M 4100 38500 (rI (sQ M φ a0 1 ρ)) nX) (551 + 166 * k + 4 * j) (6426 + 1516 * k + 24 * j) σ 301 [(8, .int (nI j)), (7, .int (nI (dep ρ k))), (6, .int (nI (cnB (wi ρ k) j))), (5, .int (nI k)), (4, .int 1), (0, .ref a0)] [] := by
    intro k hk hnx d9
    have hd8 := dep_8 (np_9 hw.1 hw.2 hk)
    induction d9 with
    | zero =>
      intro j σ h1 hst
      have hcj := cnB_le (wi ρ k) j
      obtain ⟨A, hled⟩ := hst.led hw.1
      refine g_iload (q := 303) (i := 8) hC dL_holds_301 rfl rfl ?_
      refine g_aload_n (q := 304) (i := 0) hC dL_holds_303 rfl rfl rfl ?_
      refine g_ci (q := 307) (g_runV hC kv_L_86 md_X4_projects (t_projects hC.fl hst hw) (ci := 4) rfl hled dL_holds_304 (by decide) (by decide) (by omega) (by omega) rfl rfl (Nat.le_of_ble_eq_true rfl)) rfl (fun r σ ⟨e9, hst⟩ => ?_) (fun _ _ h9 => False.elim h9)
      subst e9
      obtain rfl : j = ρ.1 10 3 := by omega
      have ha := anc_n hQ _ k rfl hk
      refine g_icmp_ge (tgt := 410) (q := 310) hC dL_holds_307 (by decide) rfl (fun _ => ?_) (fun c9 => absurd (nI_le (by omega) (by omega)) c9)
      refine g_iload (q := 412) (i := 4) hC dL_holds_410 rfl rfl ?_
      refine g_if_eq (tgt := 452) (q := 415) hC dL_holds_412 (by decide) rfl (fun c9 => absurd c9 (by decide)) (fun _ => ?_)
      refine g_iload (q := 417) (i := 7) hC dL_holds_415 rfl rfl ?_
      refine g_bipush (q := 419) (v := nI 8) hC dL_holds_417 rfl rfl ?_
      refine g_icmp_gt (tgt := 452) (q := 422) hC dL_holds_419 (by decide) rfl (fun c9 => absurd c9 (nI_nlt (by omega) (by omega))) (fun _ => ?_)
      refine g_iload (q := 424) (i := 6) hC dL_holds_422 rfl rfl ?_
      refine g_iload (q := 426) (i := 7) hC dL_holds_424 rfl rfl ?_
      refine g_iconst (q := 427) (v := nI 1) hC dL_holds_426 rfl rfl ?_
      refine g_iadd (q := 428) (v := (nI ((dep ρ k) + 1))) hC dL_holds_427 (nI_add _ _) rfl ?_
      refine g_icmp_ne (tgt := 452) (q := 431) hC dL_holds_428 (by decide) rfl (fun c9 => absurd (by rw [ha]) c9) (fun _ => ?_)
      refine g_aload_n (q := 432) (i := 0) hC dL_holds_431 rfl rfl rfl ?_
      refine g_iconst (q := 433) (v := nI 2) hC dL_holds_432 rfl rfl ?_
      refine g_iload (q := 435) (i := 5) hC dL_holds_433 rfl rfl ?_
      refine g_ci (q := 438) (g_runSH hC ks_L_129 md_L_used (con_v (s_used hC.fl (nI 2) (nI k) hst hw) (u_2 hw hk)) dL_holds_435 (by decide) (by decide) (by omega) (by omega) rfl rfl (Nat.le_of_ble_eq_true rfl)) rfl (fun r σ ⟨e9, hst⟩ => ?_) (fun _ _ h9 => False.elim h9)
      subst e9
      refine g_aload_n (q := 439) (i := 0) hC dL_holds_438 rfl rfl rfl ?_
      refine g_iconst (q := 440) (v := nI 2) hC dL_holds_439 rfl rfl ?_
      refine g_iload (q := 442) (i := 5) hC dL_holds_440 rfl rfl ?_
      refine g_ci (q := 445) (g_runSH hC ks_L_134 md_L_usedAnew (con_v (s_usedAnew hC.fl (nI 2) (nI k) hst hw) (an_2 hQ hk)) dL_holds_442 (by decide) (by decide) (by omega) (by omega) rfl rfl (Nat.le_of_ble_eq_true rfl)) rfl (fun r σ ⟨e9, hst⟩ => ?_) (fun _ _ h9 => False.elim h9)
      subst e9
      refine g_icmp_ne (tgt := 452) (q := 448) hC dL_holds_445 (by decide) rfl (fun c9 => absurd rfl c9) (fun _ => ?_)
      refine g_iconst (q := 449) (v := 1) hC dL_holds_448 rfl rfl ?_
      refine g_goto (tgt := 453) hC dL_holds_449 (by decide) ?_
      refine g_istore (q := 455) (i := 4) hC dL_holds_453 (by decide) rfl ?_
      refine g_sub (lv0 := [(5, .int (nI k)), (4, .int 1), (0, .ref a0)]) ⟨rfl, rfl, rfl, trivial⟩ ?_
      exact hnx _ _ σ (by omega) (by omega) hst
    | succ d9 ih =>
      intro j σ h1 hst
      have hcj := cnB_le (wi ρ k) j
      obtain ⟨A, hled⟩ := hst.led hw.1
      refine g_iload (q := 303) (i := 8) hC dL_holds_301 rfl rfl ?_
      refine g_aload_n (q := 304) (i := 0) hC dL_holds_303 rfl rfl rfl ?_
      refine g_ci (q := 307) (g_runV hC kv_L_86 md_X4_projects (t_projects hC.fl hst hw) (ci := 4) rfl hled dL_holds_304 (by decide) (by decide) (by omega) (by omega) rfl rfl (Nat.le_of_ble_eq_true rfl)) rfl (fun r σ ⟨e9, hst⟩ => ?_) (fun _ _ h9 => False.elim h9)
      subst e9
      have hj : j < ρ.1 10 3 := by omega
      refine g_icmp_ge (tgt := 410) (q := 310) hC dL_holds_307 (by decide) rfl (fun c9 => absurd c9 (nI_ge (by omega) (by omega))) (fun _ => ?_)
      refine g_iload (q := 312) (i := 4) hC dL_holds_310 rfl rfl ?_
      refine g_if_eq (tgt := 410) (q := 315) hC dL_holds_312 (by decide) rfl (fun c9 => absurd c9 (by decide)) (fun _ => ?_)
      have done : ∀ (kx nx : Nat) (σ : gS) (lv : List (Nat × Value)), kx ≤ 551 + 166 * k + 4 * (j + 1) → nx ≤ 6426 + 1516 * k + 24 * (j + 1) → gL lv 8 = some (.int (nI j)) → gL lv 7 = some (.int (nI (dep ρ k))) → gL lv 6 = some (.int (nI (cnB (wi ρ k) (j + 1)))) → gL lv 5 = some (.int (nI k)) → gL lv 0 = some (.ref a0) → St M φ a0 ρ σ → G X M 10 (gQ X M 4100 38500 (rI (sQ M φ a0 1 ρ)) nX) kx nx σ 397 lv [] := by
        intro kx nx σ lv hk9 hs9 g8 g7 g6 g5 g0 hst
        refine g_iconst (q := 398) (v := 1) hC dL_holds_397 rfl rfl ?_
        refine g_goto (tgt := 402) hC dL_holds_398 (by decide) ?_
        refine g_istore (q := 404) (i := 4) hC dL_holds_402 (by decide) rfl ?_
        refine g_iinc (q := 407) (i := 8) (v := (nI (j + 1))) hC dL_holds_404 g8 (nI_1 _) rfl ?_
        refine g_goto (tgt := 301) hC dL_holds_407 (by decide) ?_
        refine g_sub (lv0 := [(8, .int (nI (j + 1))), (7, .int (nI (dep ρ k))), (6, .int (nI (cnB (wi ρ k) (j + 1)))), (5, .int (nI k)), (4, .int 1), (0, .ref a0)]) ⟨rfl, g7, g6, g5, rfl, g0, trivial⟩ ?_
        exact g_widen (by omega) (by omega) (ih (j + 1) σ (by omega) hst)
      refine g_aload_n (q := 316) (i := 0) hC dL_holds_315 rfl rfl rfl ?_
      refine g_iload (q := 318) (i := 5) hC dL_holds_316 rfl rfl ?_
      refine g_iload (q := 320) (i := 8) hC dL_holds_318 rfl rfl ?_
      refine g_ci (q := 323) (g_runS hC ks_L_162 md_L_isIn (c_isIn _ hC.fl M _ φ a0 n ρ k j hk hj hst hI0) dL_holds_320 (by decide) (by decide) (by omega) (by omega) rfl rfl (Nat.le_of_ble_eq_true rfl)) rfl (fun r σ ⟨e9, hst⟩ => ?_) (fun _ _ h9 => False.elim h9)
      subst e9
      refine g_istore (q := 325) (i := 9) hC dL_holds_323 (by decide) rfl ?_
      refine g_iload (q := 327) (i := 6) hC dL_holds_325 rfl rfl ?_
      refine g_iload (q := 329) (i := 9) hC dL_holds_327 rfl rfl ?_
      cases hwi : wi ρ k j with
      | false =>
        have ec : cnB (wi ρ k) (j + 1) = cnB (wi ρ k) j := by
          show cnB (wi ρ k) j + (if wi ρ k j = true then 1 else 0) = _
          rw [hwi, if_neg (by decide)]
          rfl
        refine g_if_eq (tgt := 336) (q := 332) hC dL_holds_329 (by decide) rfl (fun _ => ?_) (fun c9 => absurd rfl c9)
        refine g_iconst (q := 337) (v := nI 0) hC dL_holds_336 rfl rfl ?_
        refine g_iadd (q := 338) (v := nI (cnB (wi ρ k) j + 0)) hC dL_holds_337 (nI_add _ _) rfl ?_
        refine g_istore (q := 340) (i := 6) hC dL_holds_338 (by decide) rfl ?_
        refine g_iload (q := 342) (i := 9) hC dL_holds_340 rfl rfl ?_
        refine g_if_eq (tgt := 397) (q := 345) hC dL_holds_342 (by decide) rfl (fun _ => ?_) (fun c9 => absurd rfl c9)
        exact done _ _ σ _ (by omega) (by omega) rfl rfl (by rw [ec]; rfl) rfl rfl hst
      | true =>
        have ec : cnB (wi ρ k) (j + 1) = cnB (wi ρ k) j + 1 := by
          show cnB (wi ρ k) j + (if wi ρ k j = true then 1 else 0) = _
          rw [hwi, if_pos rfl]
        refine g_if_eq (tgt := 336) (q := 332) hC dL_holds_329 (by decide) rfl (fun c9 => absurd c9 (by decide)) (fun _ => ?_)
        refine g_iconst (q := 333) (v := nI 1) hC dL_holds_332 rfl rfl ?_
        refine g_goto (tgt := 337) hC dL_holds_333 (by decide) ?_
        refine g_iadd (q := 338) (v := nI (cnB (wi ρ k) j + 1)) hC dL_holds_337 (nI_add _ _) rfl ?_
        refine g_istore (q := 340) (i := 6) hC dL_holds_338 (by decide) rfl ?_
        rw [← ec]
        refine g_iload (q := 342) (i := 9) hC dL_holds_340 rfl rfl ?_
        refine g_if_eq (tgt := 397) (q := 345) hC dL_holds_342 (by decide) rfl (fun c9 => absurd c9 (by decide)) (fun _ => ?_)
        refine g_aload_n (q := 346) (i := 0) hC dL_holds_345 rfl rfl rfl ?_
        refine g_iconst (q := 347) (v := nI 2) hC dL_holds_346 rfl rfl ?_
        refine g_iload (q := 349) (i := 5) hC dL_holds_347 rfl rfl ?_
        refine g_ci (q := 352) (g_runSH hC ks_L_129 md_L_used (con_v (s_used hC.fl (nI 2) (nI k) hst hw) (u_2 hw hk)) dL_holds_349 (by decide) (by decide) (by omega) (by omega) rfl rfl (Nat.le_of_ble_eq_true rfl)) rfl (fun r σ ⟨e9, hst⟩ => ?_) (fun _ _ h9 => False.elim h9)
        subst e9
        refine g_aload_n (q := 353) (i := 0) hC dL_holds_352 rfl rfl rfl ?_
        refine g_iconst (q := 354) (v := nI 2) hC dL_holds_353 rfl rfl ?_
        refine g_iload (q := 356) (i := 8) hC dL_holds_354 rfl rfl ?_
        refine g_ci (q := 359) (g_runSH hC ks_L_129 md_L_used (con_v (s_used hC.fl (nI 2) (nI j) hst hw) (u_2 hw hj)) dL_holds_356 (by decide) (by decide) (by omega) (by omega) rfl rfl (Nat.le_of_ble_eq_true rfl)) rfl (fun r σ ⟨e9, hst⟩ => ?_) (fun _ _ h9 => False.elim h9)
        subst e9
        refine g_icmp_gt (tgt := 401) (q := 362) hC dL_holds_359 (by decide) rfl (fun c9 => absurd c9 (by rw [Int32.lt_iff_toInt_lt]; have := col_in hn hQ (Or.inl rfl) hk hj hwi; omega)) (fun _ => ?_)
        refine g_aload_n (q := 363) (i := 0) hC dL_holds_362 rfl rfl rfl ?_
        refine g_iconst (q := 364) (v := nI 2) hC dL_holds_363 rfl rfl ?_
        refine g_iload (q := 366) (i := 5) hC dL_holds_364 rfl rfl ?_
        refine g_ci (q := 369) (g_runSH hC ks_L_131 md_L_files (con_v (s_files hC.fl (nI 2) (nI k) hst hw) (f_2 hw hk)) dL_holds_366 (by decide) (by decide) (by omega) (by omega) rfl rfl (Nat.le_of_ble_eq_true rfl)) rfl (fun r σ ⟨e9, hst⟩ => ?_) (fun _ _ h9 => False.elim h9)
        subst e9
        refine g_aload_n (q := 370) (i := 0) hC dL_holds_369 rfl rfl rfl ?_
        refine g_iconst (q := 371) (v := nI 2) hC dL_holds_370 rfl rfl ?_
        refine g_iload (q := 373) (i := 8) hC dL_holds_371 rfl rfl ?_
        refine g_ci (q := 376) (g_runSH hC ks_L_131 md_L_files (con_v (s_files hC.fl (nI 2) (nI j) hst hw) (f_2 hw hj)) dL_holds_373 (by decide) (by decide) (by omega) (by omega) rfl rfl (Nat.le_of_ble_eq_true rfl)) rfl (fun r σ ⟨e9, hst⟩ => ?_) (fun _ _ h9 => False.elim h9)
        subst e9
        refine g_icmp_gt (tgt := 401) (q := 379) hC dL_holds_376 (by decide) rfl (fun c9 => absurd c9 (by rw [Int32.lt_iff_toInt_lt]; have := col_in hn hQ (Or.inr rfl) hk hj hwi; omega)) (fun _ => ?_)
        refine g_iload (q := 381) (i := 8) hC dL_holds_379 rfl rfl ?_
        refine g_iload (q := 383) (i := 5) hC dL_holds_381 rfl rfl ?_
        refine g_icmp_eq (tgt := 397) (q := 386) hC dL_holds_383 (by decide) rfl (fun _ => done _ _ σ _ (by omega) (by omega) rfl rfl rfl rfl rfl hst) (fun c9 => ?_)
        have hne : k ≠ j := fun z => c9 (by rw [z])
        refine g_aload_n (q := 387) (i := 0) hC dL_holds_386 rfl rfl rfl ?_
        refine g_iload (q := 389) (i := 8) hC dL_holds_387 rfl rfl ?_
        refine g_iload (q := 391) (i := 5) hC dL_holds_389 rfl rfl ?_
        refine g_ci (q := 394) (g_runS hC ks_L_162 md_L_isIn (c_isIn _ hC.fl M _ φ a0 n ρ j k hj hk hst hI0) dL_holds_391 (by decide) (by decide) (by omega) (by omega) rfl rfl (Nat.le_of_ble_eq_true rfl)) rfl (fun r σ ⟨e9, hst⟩ => ?_) (fun _ _ h9 => False.elim h9)
        subst e9
        rw [wi_anti hw hk hj hwi hne]
        refine g_if_ne (tgt := 401) (q := 397) hC dL_holds_394 (by decide) rfl (fun c9 => absurd rfl c9) (fun _ => ?_)
        exact done _ _ σ _ (by omega) (by omega) rfl rfl rfl rfl rfl hst
  have lens : ∀ k : Nat, k < ρ.1 10 3 → (∀ (σ : gS), St M φ a0 ρ σ → G X M 10 (gQ X M 4100 38500 (rI (sQ M φ a0 1 ρ)) nX) (551 + 166 * k) (6426 + 1516 * k) σ 301 [(8, .int (nI 0)), (7, .int (nI (dep ρ k))), (6, .int (nI 0)), (5, .int (nI k)), (4, .int 1), (0, .ref a0)] []) → ∀ (d9 t : Nat) (σ : gS), t + d9 = dep ρ k → St M φ a0 ρ σ → G X M 10 (gQ X M 4100 38500 (rI (sQ M φ a0 1 ρ)) nX) (551 + 166 * k) (6426 + 1516 * k) σ 279 [(7, .int (nI t)), (6, .int (nI 0)), (5, .int (nI k)), (4, .int 1), (0, .ref a0)] [] := by
    intro k hk hnx d9
    have hd8 := dep_8 (np_9 hw.1 hw.2 hk)
    induction d9 with
    | zero =>
      intro t σ h1 hst
      refine g_aload_n (q := 280) (i := 0) hC dL_holds_279 rfl rfl rfl ?_
      refine g_iload (q := 282) (i := 5) hC dL_holds_280 rfl rfl ?_
      refine g_iload (q := 284) (i := 7) hC dL_holds_282 rfl rfl ?_
      refine g_ci (q := 287) (g_runSH hC ks_L_99 md_L_letter (q_let hC.fl hst hw hk (t := t) (by omega)) dL_holds_284 (by decide) (by decide) (by omega) (by omega) rfl rfl (Nat.le_of_ble_eq_true rfl)) rfl (fun r σ ⟨e9, hst⟩ => ?_) (fun _ _ h9 => False.elim h9)
      subst e9
      refine g_bipush (q := 289) (v := nI 32) hC dL_holds_287 rfl rfl ?_
      obtain rfl : t = dep ρ k := by omega
      refine g_icmp_eq (tgt := 298) (q := 292) hC dL_holds_289 (by decide) rfl (fun _ => ?_) (fun c9 => absurd (ltv_e (Nat.lt_irrefl _)) c9)
      refine g_iconst (q := 299) (v := nI 0) hC dL_holds_298 rfl rfl ?_
      refine g_istore (q := 301) (i := 8) hC dL_holds_299 (by decide) rfl ?_
      refine g_sub (lv0 := [(8, .int (nI 0)), (7, .int (nI (dep ρ k))), (6, .int (nI 0)), (5, .int (nI k)), (4, .int 1), (0, .ref a0)]) ⟨rfl, rfl, rfl, rfl, rfl, rfl, trivial⟩ ?_
      exact hnx σ hst
    | succ d9 ih =>
      intro t σ h1 hst
      refine g_aload_n (q := 280) (i := 0) hC dL_holds_279 rfl rfl rfl ?_
      refine g_iload (q := 282) (i := 5) hC dL_holds_280 rfl rfl ?_
      refine g_iload (q := 284) (i := 7) hC dL_holds_282 rfl rfl ?_
      refine g_ci (q := 287) (g_runSH hC ks_L_99 md_L_letter (q_let hC.fl hst hw hk (t := t) (by omega)) dL_holds_284 (by decide) (by decide) (by omega) (by omega) rfl rfl (Nat.le_of_ble_eq_true rfl)) rfl (fun r σ ⟨e9, hst⟩ => ?_) (fun _ _ h9 => False.elim h9)
      subst e9
      refine g_bipush (q := 289) (v := nI 32) hC dL_holds_287 rfl rfl ?_
      refine g_icmp_eq (tgt := 298) (q := 292) hC dL_holds_289 (by decide) rfl (fun c9 => absurd c9 (ltv_s hI0 hk (by omega))) (fun _ => ?_)
      refine g_iinc (q := 295) (i := 7) (v := (nI (t + 1))) hC dL_holds_292 rfl (nI_1 _) rfl ?_
      refine g_goto (tgt := 279) hC dL_holds_295 (by decide) ?_
      refine g_sub (lv0 := [(7, .int (nI (t + 1))), (6, .int (nI 0)), (5, .int (nI k)), (4, .int 1), (0, .ref a0)]) ⟨rfl, rfl, rfl, rfl, rfl, trivial⟩ ?_
      exact ih (t + 1) σ (by omega) hst
  have loop3 : ∀ (d9 k : Nat) (σ : gS), k + d9 = ρ.1 10 3 → St M φ a0 ρ σ → G X M 10 (gQ X M 4100 38500 (rI (sQ M φ a0 1 ρ)) nX) (551 + 166 * k) (6426 + 1516 * k) σ 259 [(5, .int (nI k)), (4, .int 1), (0, .ref a0)] [] := by
    intro d9
    induction d9 with
    | zero =>
      intro k σ h1 hst
      obtain ⟨A, hled⟩ := hst.led hw.1
      refine g_iload (q := 261) (i := 5) hC dL_holds_259 rfl rfl ?_
      refine g_aload_n (q := 262) (i := 0) hC dL_holds_261 rfl rfl rfl ?_
      refine g_ci (q := 265) (g_runV hC kv_L_86 md_X4_projects (t_projects hC.fl hst hw) (ci := 4) rfl hled dL_holds_262 (by decide) (by decide) (by omega) (by omega) rfl rfl (Nat.le_of_ble_eq_true rfl)) rfl (fun r σ ⟨e9, hst⟩ => ?_) (fun _ _ h9 => False.elim h9)
      subst e9
      refine g_icmp_ge (tgt := 461) (q := 268) hC dL_holds_265 (by decide) rfl (fun _ => ?_) (fun c9 => absurd (nI_le (by omega) (by omega)) c9)
      refine g_iload (q := 463) (i := 4) hC dL_holds_461 rfl rfl ?_
      exact g_zret hC hR (rfl) dL_holds_463 (by omega) (by omega) (⟨_, rfl, rfl, hst⟩)
    | succ d9 ih =>
      intro k σ h1 hst
      obtain ⟨A, hled⟩ := hst.led hw.1
      refine g_iload (q := 261) (i := 5) hC dL_holds_259 rfl rfl ?_
      refine g_aload_n (q := 262) (i := 0) hC dL_holds_261 rfl rfl rfl ?_
      refine g_ci (q := 265) (g_runV hC kv_L_86 md_X4_projects (t_projects hC.fl hst hw) (ci := 4) rfl hled dL_holds_262 (by decide) (by decide) (by omega) (by omega) rfl rfl (Nat.le_of_ble_eq_true rfl)) rfl (fun r σ ⟨e9, hst⟩ => ?_) (fun _ _ h9 => False.elim h9)
      subst e9
      refine g_icmp_ge (tgt := 461) (q := 268) hC dL_holds_265 (by decide) rfl (fun c9 => absurd c9 (nI_ge (by omega) (by omega))) (fun _ => ?_)
      refine g_iload (q := 270) (i := 4) hC dL_holds_268 rfl rfl ?_
      refine g_if_eq (tgt := 461) (q := 273) hC dL_holds_270 (by decide) rfl (fun c9 => absurd c9 (by decide)) (fun _ => ?_)
      refine g_iconst (q := 274) (v := nI 0) hC dL_holds_273 rfl rfl ?_
      refine g_istore (q := 276) (i := 6) hC dL_holds_274 (by decide) rfl ?_
      refine g_iconst (q := 277) (v := nI 0) hC dL_holds_276 rfl rfl ?_
      refine g_istore (q := 279) (i := 7) hC dL_holds_277 (by decide) rfl ?_
      refine g_sub (lv0 := [(7, .int (nI 0)), (6, .int (nI 0)), (5, .int (nI k)), (4, .int 1), (0, .ref a0)]) ⟨rfl, rfl, rfl, rfl, rfl, trivial⟩ ?_
      refine g_widen (by omega) (by omega) (lens k (by omega) (fun σ hst => ?_) (dep ρ k) 0 σ (Nat.zero_add _) hst)
      refine g_widen (by omega) (by omega) (inner k (by omega) (fun kx nx σ hk9 hs9 hst => ?_) _ 0 σ (Nat.zero_add _) hst)
      refine g_iinc (q := 458) (i := 5) (v := (nI (k + 1))) hC dL_holds_455 rfl (nI_1 _) rfl ?_
      refine g_goto (tgt := 259) hC dL_holds_458 (by decide) ?_
      refine g_sub (lv0 := [(5, .int (nI (k + 1))), (4, .int 1), (0, .ref a0)]) ⟨rfl, rfl, rfl, trivial⟩ ?_
      exact g_widen (by omega) (by omega) (ih (k + 1) σ (by omega) hst)
  have mid : ∀ (σ : gS), St M φ a0 ρ σ → G X M 10 (gQ X M 4100 38500 (rI (sQ M φ a0 1 ρ)) nX) 549 6414 σ 208 [(5, .int (nI 3)), (4, .int 1), (3, .int (isum (ρ.2.1 5) 6)), (2, .int (isum (fun k => ρ.2.1 4 (6 + k)) 3)), (1, .int (isum (ρ.2.1 4) 6)), (0, .ref a0)] [] := by
    intro σ hst
    refine g_iload (q := 210) (i := 4) hC dL_holds_208 rfl rfl ?_
    refine g_if_eq (tgt := 253) (q := 213) hC dL_holds_210 (by decide) rfl (fun c9 => absurd c9 (by decide)) (fun _ => ?_)
    refine g_iload_n (q := 214) (i := 1) hC dL_holds_213 rfl rfl rfl ?_
    refine g_aload_n (q := 215) (i := 0) hC dL_holds_214 rfl rfl rfl ?_
    refine g_iconst (q := 216) (v := nI 2) hC dL_holds_215 rfl rfl ?_
    refine g_iconst (q := 217) (v := nI 0) hC dL_holds_216 rfl rfl ?_
    refine g_ci (q := 220) (g_runSH hC ks_L_129 md_L_used (con_v (s_used hC.fl (nI 2) (nI 0) hst hw) (u_2 hw (by omega))) dL_holds_217 (by decide) (by decide) (by omega) (by omega) rfl rfl (Nat.le_of_ble_eq_true rfl)) rfl (fun r σ ⟨e9, hst⟩ => ?_) (fun _ _ h9 => False.elim h9)
    subst e9
    refine g_icmp_ne (tgt := 253) (q := 223) hC dL_holds_220 (by decide) rfl (fun c9 => absurd (col_r hQ (Or.inl rfl)) c9) (fun _ => ?_)
    refine g_iload_n (q := 224) (i := 2) hC dL_holds_223 rfl rfl rfl ?_
    refine g_iload_n (q := 225) (i := 1) hC dL_holds_224 rfl rfl rfl ?_
    refine g_icmp_ne (tgt := 253) (q := 228) hC dL_holds_225 (by decide) rfl (fun c9 => absurd (col_gs hQ) c9) (fun _ => ?_)
    refine g_iload_n (q := 229) (i := 3) hC dL_holds_228 rfl rfl rfl ?_
    refine g_aload_n (q := 230) (i := 0) hC dL_holds_229 rfl rfl rfl ?_
    refine g_iconst (q := 231) (v := nI 2) hC dL_holds_230 rfl rfl ?_
    refine g_iconst (q := 232) (v := nI 0) hC dL_holds_231 rfl rfl ?_
    refine g_ci (q := 235) (g_runSH hC ks_L_131 md_L_files (con_v (s_files hC.fl (nI 2) (nI 0) hst hw) (f_2 hw (by omega))) dL_holds_232 (by decide) (by decide) (by omega) (by omega) rfl rfl (Nat.le_of_ble_eq_true rfl)) rfl (fun r σ ⟨e9, hst⟩ => ?_) (fun _ _ h9 => False.elim h9)
    subst e9
    refine g_icmp_ne (tgt := 253) (q := 238) hC dL_holds_235 (by decide) rfl (fun c9 => absurd (col_r hQ (Or.inr rfl)) c9) (fun _ => ?_)
    refine g_aload_n (q := 239) (i := 0) hC dL_holds_238 rfl rfl rfl ?_
    refine g_iconst (q := 240) (v := nI 0) hC dL_holds_239 rfl rfl ?_
    refine g_iconst (q := 241) (v := nI 0) hC dL_holds_240 rfl rfl ?_
    refine g_ci (q := 244) (g_runSH hC ks_L_99 md_L_letter (q_let hC.fl hst hw (p := 0) (t := 0) (by omega) (by decide)) dL_holds_241 (by decide) (by decide) (by omega) (by omega) rfl rfl (Nat.le_of_ble_eq_true rfl)) rfl (fun r σ ⟨e9, hst⟩ => ?_) (fun _ _ h9 => False.elim h9)
    subst e9
    refine g_bipush (q := 246) (v := nI 32) hC dL_holds_244 rfl rfl ?_
    refine g_icmp_ne (tgt := 253) (q := 249) hC dL_holds_246 (by decide) rfl (fun c9 => absurd (ltv_e (by rw [(dep_0 hw.1 hw.2 hQ.1.2.2.1 (by omega)).mpr rfl]; decide)) c9) (fun _ => ?_)
    refine g_iconst (q := 250) (v := 1) hC dL_holds_249 rfl rfl ?_
    refine g_goto (tgt := 254) hC dL_holds_250 (by decide) ?_
    refine g_istore (q := 256) (i := 4) hC dL_holds_254 (by decide) rfl ?_
    refine g_iconst (q := 257) (v := nI 0) hC dL_holds_256 rfl rfl ?_
    refine g_istore (q := 259) (i := 5) hC dL_holds_257 (by decide) rfl ?_
    refine g_sub (lv0 := [(5, .int (nI 0)), (4, .int 1), (0, .ref a0)]) ⟨rfl, rfl, rfl, trivial⟩ ?_
    exact g_widen (by omega) (by omega) (loop3 _ 0 σ (Nat.zero_add _) hst)
  have loop2 : ∀ (d9 k : Nat) (σ : gS), k + d9 = 3 → St M φ a0 ρ σ → G X M 10 (gQ X M 4100 38500 (rI (sQ M φ a0 1 ρ)) nX) (528 + 7 * k) (6288 + 42 * k) σ 120 [(5, .int (nI k)), (4, .int 1), (3, .int (isum (ρ.2.1 5) 6)), (2, .int (isum (fun k => ρ.2.1 4 (6 + k)) k)), (1, .int (isum (ρ.2.1 4) 6)), (0, .ref a0)] [] := by
    intro d9
    induction d9 with
    | zero =>
      intro k σ h1 hst
      refine g_iload (q := 122) (i := 5) hC dL_holds_120 rfl rfl ?_
      refine g_iconst (q := 123) (v := nI 3) hC dL_holds_122 rfl rfl ?_
      obtain rfl : k = 3 := by omega
      refine g_icmp_ge (tgt := 208) (q := 126) hC dL_holds_123 (by decide) rfl (fun _ => ?_) (fun c9 => absurd (nI_le (by omega) (by omega)) c9)
      exact mid σ hst
    | succ d9 ih =>
      intro k σ h1 hst
      refine g_iload (q := 122) (i := 5) hC dL_holds_120 rfl rfl ?_
      refine g_iconst (q := 123) (v := nI 3) hC dL_holds_122 rfl rfl ?_
      refine g_icmp_ge (tgt := 208) (q := 126) hC dL_holds_123 (by decide) rfl (fun c9 => absurd c9 (nI_ge (by omega) (by omega))) (fun _ => ?_)
      refine g_iload (q := 128) (i := 4) hC dL_holds_126 rfl rfl ?_
      refine g_if_eq (tgt := 208) (q := 131) hC dL_holds_128 (by decide) rfl (fun c9 => absurd c9 (by decide)) (fun _ => ?_)
      refine g_iload_n (q := 132) (i := 2) hC dL_holds_131 rfl rfl rfl ?_
      refine g_aload_n (q := 133) (i := 0) hC dL_holds_132 rfl rfl rfl ?_
      refine g_iconst (q := 134) (v := nI 1) hC dL_holds_133 rfl rfl ?_
      refine g_iload (q := 136) (i := 5) hC dL_holds_134 rfl rfl ?_
      refine g_ci (q := 139) (g_runSH hC ks_L_129 md_L_used (con_v (s_used hC.fl (nI 1) (nI k) hst hw) (u_1 (k := k) (by omega))) dL_holds_136 (by decide) (by decide) (by omega) (by omega) rfl rfl (Nat.le_of_ble_eq_true rfl)) rfl (fun r σ ⟨e9, hst⟩ => ?_) (fun _ _ h9 => False.elim h9)
      subst e9
      refine g_iadd (q := 140) (v := isum (fun k => ρ.2.1 4 (6 + k)) (k + 1)) hC dL_holds_139 rfl rfl ?_
      refine g_istore_n (q := 141) (i := 2) hC dL_holds_140 rfl (by decide) rfl ?_
      refine g_aload_n (q := 142) (i := 0) hC dL_holds_141 rfl rfl rfl ?_
      refine g_iconst (q := 143) (v := nI 1) hC dL_holds_142 rfl rfl ?_
      refine g_iload (q := 145) (i := 5) hC dL_holds_143 rfl rfl ?_
      refine g_ci (q := 148) (g_runSH hC ks_L_129 md_L_used (con_v (s_used hC.fl (nI 1) (nI k) hst hw) (u_1 (k := k) (by omega))) dL_holds_145 (by decide) (by decide) (by omega) (by omega) rfl rfl (Nat.le_of_ble_eq_true rfl)) rfl (fun r σ ⟨e9, hst⟩ => ?_) (fun _ _ h9 => False.elim h9)
      subst e9
      refine g_aload_n (q := 149) (i := 0) hC dL_holds_148 rfl rfl rfl ?_
      refine g_iconst (q := 150) (v := nI 0) hC dL_holds_149 rfl rfl ?_
      refine g_iload (q := 152) (i := 5) hC dL_holds_150 rfl rfl ?_
      refine g_ci (q := 155) (g_runSH hC ks_L_129 md_L_used (con_v (s_used hC.fl (nI 0) (nI k) hst hw) (u_0 (k := k) (by omega))) dL_holds_152 (by decide) (by decide) (by omega) (by omega) rfl rfl (Nat.le_of_ble_eq_true rfl)) rfl (fun r σ ⟨e9, hst⟩ => ?_) (fun _ _ h9 => False.elim h9)
      subst e9
      refine g_aload_n (q := 156) (i := 0) hC dL_holds_155 rfl rfl rfl ?_
      refine g_iconst (q := 157) (v := nI 0) hC dL_holds_156 rfl rfl ?_
      refine g_iload (q := 159) (i := 5) hC dL_holds_157 rfl rfl ?_
      refine g_iconst (q := 160) (v := nI 3) hC dL_holds_159 rfl rfl ?_
      refine g_iadd (q := 161) (v := (nI (k + 3))) hC dL_holds_160 (nI_add _ _) rfl ?_
      refine g_ci (q := 164) (g_runSH hC ks_L_129 md_L_used (con_v (s_used hC.fl (nI 0) (nI (k + 3)) hst hw) (u_0 (k := k + 3) (by omega))) dL_holds_161 (by decide) (by decide) (by omega) (by omega) rfl rfl (Nat.le_of_ble_eq_true rfl)) rfl (fun r σ ⟨e9, hst⟩ => ?_) (fun _ _ h9 => False.elim h9)
      subst e9
      refine g_iadd (q := 165) (v := ρ.2.1 4 k + ρ.2.1 4 (k + 3)) hC dL_holds_164 rfl rfl ?_
      refine g_icmp_ne (tgt := 199) (q := 168) hC dL_holds_165 (by decide) rfl (fun c9 => absurd (col_g hQ (Or.inl rfl) (by omega)) c9) (fun _ => ?_)
      refine g_aload_n (q := 169) (i := 0) hC dL_holds_168 rfl rfl rfl ?_
      refine g_iconst (q := 170) (v := nI 1) hC dL_holds_169 rfl rfl ?_
      refine g_iload (q := 172) (i := 5) hC dL_holds_170 rfl rfl ?_
      refine g_ci (q := 175) (g_runSH hC ks_L_131 md_L_files (con_v (s_files hC.fl (nI 1) (nI k) hst hw) (f_1 (k := k) (by omega))) dL_holds_172 (by decide) (by decide) (by omega) (by omega) rfl rfl (Nat.le_of_ble_eq_true rfl)) rfl (fun r σ ⟨e9, hst⟩ => ?_) (fun _ _ h9 => False.elim h9)
      subst e9
      refine g_aload_n (q := 176) (i := 0) hC dL_holds_175 rfl rfl rfl ?_
      refine g_iconst (q := 177) (v := nI 0) hC dL_holds_176 rfl rfl ?_
      refine g_iload (q := 179) (i := 5) hC dL_holds_177 rfl rfl ?_
      refine g_ci (q := 182) (g_runSH hC ks_L_131 md_L_files (con_v (s_files hC.fl (nI 0) (nI k) hst hw) (f_0 (k := k) (by omega))) dL_holds_179 (by decide) (by decide) (by omega) (by omega) rfl rfl (Nat.le_of_ble_eq_true rfl)) rfl (fun r σ ⟨e9, hst⟩ => ?_) (fun _ _ h9 => False.elim h9)
      subst e9
      refine g_aload_n (q := 183) (i := 0) hC dL_holds_182 rfl rfl rfl ?_
      refine g_iconst (q := 184) (v := nI 0) hC dL_holds_183 rfl rfl ?_
      refine g_iload (q := 186) (i := 5) hC dL_holds_184 rfl rfl ?_
      refine g_iconst (q := 187) (v := nI 3) hC dL_holds_186 rfl rfl ?_
      refine g_iadd (q := 188) (v := (nI (k + 3))) hC dL_holds_187 (nI_add _ _) rfl ?_
      refine g_ci (q := 191) (g_runSH hC ks_L_131 md_L_files (con_v (s_files hC.fl (nI 0) (nI (k + 3)) hst hw) (f_0 (k := k + 3) (by omega))) dL_holds_188 (by decide) (by decide) (by omega) (by omega) rfl rfl (Nat.le_of_ble_eq_true rfl)) rfl (fun r σ ⟨e9, hst⟩ => ?_) (fun _ _ h9 => False.elim h9)
      subst e9
      refine g_iadd (q := 192) (v := ρ.2.1 5 k + ρ.2.1 5 (k + 3)) hC dL_holds_191 rfl rfl ?_
      refine g_icmp_ne (tgt := 199) (q := 195) hC dL_holds_192 (by decide) rfl (fun c9 => absurd (col_g hQ (Or.inr rfl) (by omega)) c9) (fun _ => ?_)
      refine g_iconst (q := 196) (v := 1) hC dL_holds_195 rfl rfl ?_
      refine g_goto (tgt := 200) hC dL_holds_196 (by decide) ?_
      refine g_istore (q := 202) (i := 4) hC dL_holds_200 (by decide) rfl ?_
      refine g_iinc (q := 205) (i := 5) (v := (nI (k + 1))) hC dL_holds_202 rfl (nI_1 _) rfl ?_
      refine g_goto (tgt := 120) hC dL_holds_205 (by decide) ?_
      refine g_sub (lv0 := [(5, .int (nI (k + 1))), (4, .int 1), (3, .int (isum (ρ.2.1 5) 6)), (2, .int (isum (fun k => ρ.2.1 4 (6 + k)) (k + 1))), (1, .int (isum (ρ.2.1 4) 6)), (0, .ref a0)]) ⟨rfl, rfl, rfl, rfl, rfl, rfl, trivial⟩ ?_
      exact g_widen (by omega) (by omega) (ih (k + 1) σ (by omega) hst)
  have loop1 : ∀ (d9 k : Nat) (σ : gS), k + d9 = 6 → St M φ a0 ρ σ → G X M 10 (gQ X M 4100 38500 (rI (sQ M φ a0 1 ρ)) nX) (88 * k) (1048 * k) σ 12 [(5, .int (nI k)), (4, .int 1), (3, .int (isum (ρ.2.1 5) k)), (2, .int (nI 0)), (1, .int (isum (ρ.2.1 4) k)), (0, .ref a0)] [] := by
    intro d9
    induction d9 with
    | zero =>
      intro k σ h1 hst
      refine g_iload (q := 14) (i := 5) hC dL_holds_12 rfl rfl ?_
      refine g_bipush (q := 16) (v := nI 6) hC dL_holds_14 rfl rfl ?_
      obtain rfl : k = 6 := by omega
      refine g_icmp_ge (tgt := 117) (q := 19) hC dL_holds_16 (by decide) rfl (fun _ => ?_) (fun c9 => absurd (nI_le (by omega) (by omega)) c9)
      refine g_iconst (q := 118) (v := nI 0) hC dL_holds_117 rfl rfl ?_
      refine g_istore (q := 120) (i := 5) hC dL_holds_118 (by decide) rfl ?_
      refine g_sub (lv0 := [(5, .int (nI 0)), (4, .int 1), (3, .int (isum (ρ.2.1 5) 6)), (2, .int (isum (fun k => ρ.2.1 4 (6 + k)) 0)), (1, .int (isum (ρ.2.1 4) 6)), (0, .ref a0)]) ⟨rfl, rfl, rfl, rfl, rfl, rfl, trivial⟩ ?_
      exact g_widen (by omega) (by omega) (loop2 _ 0 σ (Nat.zero_add _) hst)
    | succ d9 ih =>
      intro k σ h1 hst
      refine g_iload (q := 14) (i := 5) hC dL_holds_12 rfl rfl ?_
      refine g_bipush (q := 16) (v := nI 6) hC dL_holds_14 rfl rfl ?_
      have hk : k < 6 := by omega
      have ha : k < 9 + ρ.1 10 3 := by omega
      refine g_icmp_ge (tgt := 117) (q := 19) hC dL_holds_16 (by decide) rfl (fun c9 => absurd c9 (nI_ge (by omega) (by omega))) (fun _ => ?_)
      refine g_iload (q := 21) (i := 4) hC dL_holds_19 rfl rfl ?_
      refine g_if_eq (tgt := 117) (q := 24) hC dL_holds_21 (by decide) rfl (fun c9 => absurd c9 (by decide)) (fun _ => ?_)
      refine g_iload_n (q := 25) (i := 1) hC dL_holds_24 rfl rfl rfl ?_
      refine g_aload_n (q := 26) (i := 0) hC dL_holds_25 rfl rfl rfl ?_
      refine g_iconst (q := 27) (v := nI 0) hC dL_holds_26 rfl rfl ?_
      refine g_iload (q := 29) (i := 5) hC dL_holds_27 rfl rfl ?_
      refine g_ci (q := 32) (g_runSH hC ks_L_129 md_L_used (con_v (s_used hC.fl (nI 0) (nI k) hst hw) (u_0 hk)) dL_holds_29 (by decide) (by decide) (by omega) (by omega) rfl rfl (Nat.le_of_ble_eq_true rfl)) rfl (fun r σ ⟨e9, hst⟩ => ?_) (fun _ _ h9 => False.elim h9)
      subst e9
      refine g_iadd (q := 33) (v := isum (ρ.2.1 4) (k + 1)) hC dL_holds_32 rfl rfl ?_
      refine g_istore_n (q := 34) (i := 1) hC dL_holds_33 rfl (by decide) rfl ?_
      refine g_iload_n (q := 35) (i := 3) hC dL_holds_34 rfl rfl rfl ?_
      refine g_aload_n (q := 36) (i := 0) hC dL_holds_35 rfl rfl rfl ?_
      refine g_iconst (q := 37) (v := nI 0) hC dL_holds_36 rfl rfl ?_
      refine g_iload (q := 39) (i := 5) hC dL_holds_37 rfl rfl ?_
      refine g_ci (q := 42) (g_runSH hC ks_L_131 md_L_files (con_v (s_files hC.fl (nI 0) (nI k) hst hw) (f_0 hk)) dL_holds_39 (by decide) (by decide) (by omega) (by omega) rfl rfl (Nat.le_of_ble_eq_true rfl)) rfl (fun r σ ⟨e9, hst⟩ => ?_) (fun _ _ h9 => False.elim h9)
      subst e9
      refine g_iadd (q := 43) (v := isum (ρ.2.1 5) (k + 1)) hC dL_holds_42 rfl rfl ?_
      refine g_istore_n (q := 44) (i := 3) hC dL_holds_43 rfl (by decide) rfl ?_
      refine g_aload_n (q := 45) (i := 0) hC dL_holds_44 rfl rfl rfl ?_
      refine g_iconst (q := 46) (v := nI 0) hC dL_holds_45 rfl rfl ?_
      refine g_iload (q := 48) (i := 5) hC dL_holds_46 rfl rfl ?_
      refine g_ci (q := 51) (g_runSH hC ks_L_129 md_L_used (con_v (s_used hC.fl (nI 0) (nI k) hst hw) (u_0 hk)) dL_holds_48 (by decide) (by decide) (by omega) (by omega) rfl rfl (Nat.le_of_ble_eq_true rfl)) rfl (fun r σ ⟨e9, hst⟩ => ?_) (fun _ _ h9 => False.elim h9)
      subst e9
      refine g_if_lt (tgt := 108) (q := 54) hC dL_holds_51 (by decide) rfl (fun c9 => absurd c9 (nnI (col_nn hn hQ (Or.inl rfl) ha))) (fun _ => ?_)
      refine g_aload_n (q := 55) (i := 0) hC dL_holds_54 rfl rfl rfl ?_
      refine g_iconst (q := 56) (v := nI 0) hC dL_holds_55 rfl rfl ?_
      refine g_iload (q := 58) (i := 5) hC dL_holds_56 rfl rfl ?_
      refine g_ci (q := 61) (g_runSH hC ks_L_131 md_L_files (con_v (s_files hC.fl (nI 0) (nI k) hst hw) (f_0 hk)) dL_holds_58 (by decide) (by decide) (by omega) (by omega) rfl rfl (Nat.le_of_ble_eq_true rfl)) rfl (fun r σ ⟨e9, hst⟩ => ?_) (fun _ _ h9 => False.elim h9)
      subst e9
      refine g_if_lt (tgt := 108) (q := 64) hC dL_holds_61 (by decide) rfl (fun c9 => absurd c9 (nnI (col_nn hn hQ (Or.inr rfl) ha))) (fun _ => ?_)
      refine g_aload_n (q := 65) (i := 0) hC dL_holds_64 rfl rfl rfl ?_
      refine g_iconst (q := 66) (v := nI 0) hC dL_holds_65 rfl rfl ?_
      refine g_iload (q := 68) (i := 5) hC dL_holds_66 rfl rfl ?_
      refine g_ci (q := 71) (g_runSH hC ks_L_129 md_L_used (con_v (s_used hC.fl (nI 0) (nI k) hst hw) (u_0 hk)) dL_holds_68 (by decide) (by decide) (by omega) (by omega) rfl rfl (Nat.le_of_ble_eq_true rfl)) rfl (fun r σ ⟨e9, hst⟩ => ?_) (fun _ _ h9 => False.elim h9)
      subst e9
      refine g_aload_n (q := 72) (i := 0) hC dL_holds_71 rfl rfl rfl ?_
      refine g_iconst (q := 73) (v := nI 0) hC dL_holds_72 rfl rfl ?_
      refine g_iload (q := 75) (i := 5) hC dL_holds_73 rfl rfl ?_
      refine g_ci (q := 78) (g_runSH hC ks_L_134 md_L_usedAnew (con_v (s_usedAnew hC.fl (nI 0) (nI k) hst hw) (an_0 hQ hk)) dL_holds_75 (by decide) (by decide) (by omega) (by omega) rfl rfl (Nat.le_of_ble_eq_true rfl)) rfl (fun r σ ⟨e9, hst⟩ => ?_) (fun _ _ h9 => False.elim h9)
      subst e9
      refine g_icmp_ne (tgt := 108) (q := 81) hC dL_holds_78 (by decide) rfl (fun c9 => absurd rfl c9) (fun _ => ?_)
      have hg := gr_b hQ ha
      refine g_aload_n (q := 82) (i := 0) hC dL_holds_81 rfl rfl rfl ?_
      refine g_iconst (q := 83) (v := nI 0) hC dL_holds_82 rfl rfl ?_
      refine g_iload (q := 85) (i := 5) hC dL_holds_83 rfl rfl ?_
      refine g_ci (q := 88) (g_runSH hC ks_L_137 md_L_grace (con_v (s_grace hC.fl (nI 0) (nI k) hst hw) (g_0 hk)) dL_holds_85 (by decide) (by decide) (by omega) (by omega) rfl rfl (Nat.le_of_ble_eq_true rfl)) rfl (fun r σ ⟨e9, hst⟩ => ?_) (fun _ _ h9 => False.elim h9)
      subst e9
      refine g_iconst (q := 89) (v := (-1)) hC dL_holds_88 rfl rfl ?_
      refine g_icmp_lt (tgt := 108) (q := 92) hC dL_holds_89 (by decide) rfl (fun c9 => absurd c9 (by rw [Int32.lt_iff_toInt_lt, show (-1 : Int32).toInt = -1 by decide]; omega)) (fun _ => ?_)
      refine g_aload_n (q := 93) (i := 0) hC dL_holds_92 rfl rfl rfl ?_
      refine g_iconst (q := 94) (v := nI 0) hC dL_holds_93 rfl rfl ?_
      refine g_iload (q := 96) (i := 5) hC dL_holds_94 rfl rfl ?_
      refine g_ci (q := 99) (g_runSH hC ks_L_137 md_L_grace (con_v (s_grace hC.fl (nI 0) (nI k) hst hw) (g_0 hk)) dL_holds_96 (by decide) (by decide) (by omega) (by omega) rfl rfl (Nat.le_of_ble_eq_true rfl)) rfl (fun r σ ⟨e9, hst⟩ => ?_) (fun _ _ h9 => False.elim h9)
      subst e9
      refine g_bipush (q := 101) (v := nI 48) hC dL_holds_99 rfl rfl ?_
      refine g_icmp_gt (tgt := 108) (q := 104) hC dL_holds_101 (by decide) rfl (fun c9 => absurd c9 (by rw [Int32.lt_iff_toInt_lt, nI_toInt (n := 48) (by decide)]; omega)) (fun _ => ?_)
      refine g_iconst (q := 105) (v := 1) hC dL_holds_104 rfl rfl ?_
      refine g_goto (tgt := 109) hC dL_holds_105 (by decide) ?_
      refine g_istore (q := 111) (i := 4) hC dL_holds_109 (by decide) rfl ?_
      refine g_iinc (q := 114) (i := 5) (v := (nI (k + 1))) hC dL_holds_111 rfl (nI_1 _) rfl ?_
      refine g_goto (tgt := 12) hC dL_holds_114 (by decide) ?_
      refine g_sub (lv0 := [(5, .int (nI (k + 1))), (4, .int 1), (3, .int (isum (ρ.2.1 5) (k + 1))), (2, .int (nI 0)), (1, .int (isum (ρ.2.1 4) (k + 1))), (0, .ref a0)]) ⟨rfl, rfl, rfl, rfl, rfl, rfl, trivial⟩ ?_
      exact g_widen (by omega) (by omega) (ih (k + 1) σ (by omega) hst)
  refine g_iconst (q := 1) (v := nI 0) hC dL_holds_0 rfl rfl ?_
  refine g_istore_n (q := 2) (i := 1) hC dL_holds_1 rfl (by decide) rfl ?_
  refine g_iconst (q := 3) (v := nI 0) hC dL_holds_2 rfl rfl ?_
  refine g_istore_n (q := 4) (i := 2) hC dL_holds_3 rfl (by decide) rfl ?_
  refine g_iconst (q := 5) (v := nI 0) hC dL_holds_4 rfl rfl ?_
  refine g_istore_n (q := 6) (i := 3) hC dL_holds_5 rfl (by decide) rfl ?_
  refine g_iconst (q := 7) (v := 1) hC dL_holds_6 rfl rfl ?_
  refine g_istore (q := 9) (i := 4) hC dL_holds_7 (by decide) rfl ?_
  refine g_iconst (q := 10) (v := nI 0) hC dL_holds_9 rfl rfl ?_
  refine g_istore (q := 12) (i := 5) hC dL_holds_10 (by decide) rfl ?_
  refine g_sub (lv0 := [(5, .int (nI 0)), (4, .int 1), (3, .int (isum (ρ.2.1 5) 0)), (2, .int (nI 0)), (1, .int (isum (ρ.2.1 4) 0)), (0, .ref a0)]) ⟨rfl, rfl, rfl, rfl, rfl, rfl, trivial⟩ ?_
  exact g_widen (by omega) (by omega) (loop1 _ 0 σ (Nat.zero_add _) hst)
