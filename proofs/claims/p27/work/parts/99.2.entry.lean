/-! ===== the law's entry: two ledgers, the row of files ===== -/
def led0 : List Value := [.null, .null, .null, .null, .null, .null, .null, .null, .int 0, .int 0, .int 0]
theorem led0_d (j : Nat) (hj : j < 11) : defaultValue (tyX4 j) = vp_V led0 j := by
  have h : j = 0 ∨ j = 1 ∨ j = 2 ∨ j = 3 ∨ j = 4 ∨ j = 5 ∨ j = 6 ∨ j = 7 ∨ j = 8 ∨ j = 9 ∨ j = 10 := by omega
  rcases h with rfl | rfl | rfl | rfl | rfl | rfl | rfl | rfl | rfl | rfl | rfl <;> rfl
theorem Lm_0 : Lm ldI (fun _ => 0) 0 := ⟨fun f hf => Or.inr ⟨rfl, by
  unfold lvf
  rw [inR_big (show ldI.1 10 4 ≤ f from Nat.zero_le _) (by omega)]
  rfl⟩, rfl⟩
set_option maxRecDepth 100000 in
set_option maxHeartbeats 4000000 in
theorem law_entry {X : gX} {M : gMT} {Q : State → Prop} (hC : gOk X M RL code 12 1000 686501 7042194) (hL : gScL M ≤ 260) (hend : ∀ (k n9 : Nat) (σ : gS) (lv : List (Nat × Value)), k ≤ 686501 → n9 ≤ 7042194 → G X M 12 Q k n9 σ 325 lv []) : G X M 12 Q 0 0 (fun _ => none) 0 [(0, .ref (gScB M))] [] := by
  refine g_new (q := 3) (ty := tyX4) (fs := led0) hC kn_L_8 tyX4_ok dL_law_0 led0_d (by omega) (by omega) rfl (fun a ha => ?_)
  refine g_dup (q := 4) hC dL_law_3 rfl rfl ?_
  refine g_cv (q := 7) (g_runI hC ki_L_166 md_X4_init (c_L_init _ hC.fl M _ a (gUp_self _ _ _)) dL_law_4 (by decide) (by decide) (by omega) (by omega) rfl rfl (Nat.le_of_ble_eq_true rfl)) rfl (fun σ1 hp1 => ?_) (fun _ _ h9 => False.elim h9)
  obtain ⟨⟨A1, hA1, W1, hr1⟩, -⟩ := hp1
  refine g_astore_n (q := 8) (i := 1) hC dL_law_7 rfl (by decide) rfl ?_
  refine g_new (q := 11) (ty := tyX4) (fs := led0) hC kn_L_8 tyX4_ok dL_law_8 led0_d (by omega) (by omega) rfl (fun b hb => ?_)
  refine g_dup (q := 12) hC dL_law_11 rfl rfl ?_
  have hs : Sep (gUp σ1 b (oB 4 led0)) (gUp (fun _ => none) b (oB 4 led0)) σ1 := fun x => by
    by_cases z : x = b
    · rw [z]
      exact ⟨fun _ => by rw [gUp_self, gUp_self], fun e he => by rw [hb] at he; cases he⟩
    · rw [gUp_ne _ _ z, gUp_ne _ _ z]
      exact ⟨fun y => y, fun e he => ⟨he, rfl⟩⟩
  have hc2 := ((c_L_init (xl X) hC.fl (gOut M σ1) (gUp (fun _ => none) b (oB 4 led0)) b (gUp_self _ _ _)).frame hs).mono (P' := rV fun τ => ∃ τ1, liP (gOut M σ1) (gUp (fun _ => none) b (oB 4 led0)) b τ1 ∧ Sep τ τ1 σ1) (PX' := nX) (fun v τ ⟨τ1, ⟨hv, hp⟩, hs⟩ => ⟨hv, τ1, hp, hs⟩) (fun E τ ⟨τ1, hx, _⟩ => hx)
  refine g_cv (q := 15) (g_runI hC ki_L_166 md_X4_init hc2 dL_law_12 (by decide) (by decide) (by omega) (by omega) rfl rfl (Nat.le_of_ble_eq_true rfl)) rfl (fun τ hp2 => ?_) (fun _ _ h9 => False.elim h9)
  obtain ⟨τ1, ⟨⟨A2, hA2, W2, hr2⟩, -⟩, hs2⟩ := hp2
  refine g_astore_n (q := 16) (i := 2) hC dL_law_15 rfl (by decide) rfl ?_
  refine g_bipush (q := 18) (v := nI 40) hC dL_law_16 rfl rfl ?_
  refine g_newa (q := 20) (atype := .int) (t := 2) (ty := .int) (len := 40) (x9 := (40, .inl (fun _ => 0))) hC ka_int rfl rfl (fun _ => rfl) (by decide) (by decide) (by decide) dL_law_18 (by omega) (by omega) rfl (fun mb hm => ?_)
  refine g_astore_n (q := 21) (i := 3) hC dL_law_20 rfl (by decide) rfl ?_
  have n1 : σ1 mb = none := by
    cases h : σ1 mb with
    | none => rfl
    | some e => rw [hs2.oth h] at hm; cases hm
  have n2 : τ1 mb = none := by
    rw [← (hs2 mb).1 n1]
    exact hm
  have hJ : J2 M (on1 mb (aI M 2 40 (fun _ => 0))) a b ldI ldI (gUp τ mb (aI M 2 40 (fun _ => 0))) := by
    refine ⟨σ1, τ1, A1, W1, A2, W2, ⟨hA1, hr1⟩, ⟨hA2, hr2⟩, fun x => ⟨?_, ?_, ?_⟩, fun x => ?_⟩
    · cases h : σ1 x with
      | none => exact Or.inl rfl
      | some e => exact Or.inr ((hs2 x).2 e h).2
    · by_cases z : x = mb
      · rw [z]
        exact Or.inl n1
      · exact Or.inr (if_neg z)
    · by_cases z : x = mb
      · rw [z]
        exact Or.inl n2
      · exact Or.inr (if_neg z)
    · by_cases z : x = mb
      · rw [z, gUp_self, uni_s (show on1 mb (aI M 2 40 (fun _ => 0)) mb = some _ from if_pos rfl)]
      · rw [gUp_ne _ _ z, uni_n (show on1 mb (aI M 2 40 (fun _ => 0)) x = none from if_neg z)]
        cases h : σ1 x with
        | none =>
          rw [(hs2 x).1 h]
          cases h2 : τ1 x with
          | none => rw [uni_n h2, h]
          | some e => rw [uni_s h2]
        | some e =>
          rw [hs2.oth h, uni_n ((hs2 x).2 e h).2, h]
  refine g_iconst (q := 22) (v := nI 0) hC dL_law_21 rfl rfl ?_
  refine g_istore (q := 24) (i := 4) hC dL_law_22 (by decide) rfl ?_
  refine g_bipush (q := 26) (v := nI 20) hC dL_law_24 rfl rfl ?_
  refine g_aload_n (q := 27) (i := 0) hC dL_law_26 rfl rfl rfl ?_
  refine g_iconst (q := 28) (v := nI 0) hC dL_law_27 rfl rfl ?_
  refine g_ci (q := 31) (g_runS hC ks_L_167 md_L_drawn (c_drawn _ hC.fl M _ 0 (by decide) hL) dL_law_28 (by decide) (by decide) (by omega) (by omega) rfl rfl (Nat.le_of_ble_eq_true rfl)) rfl (fun r σ ⟨⟨x, hx, e9⟩, e8⟩ => ?_) (fun _ _ h9 => False.elim h9)
  subst e9
  subst e8
  refine g_bipush (q := 33) (v := nI 41) hC dL_law_31 rfl rfl ?_
  refine g_irem (q := 34) (v := (nI (x % 41))) hC dL_law_33 (by decide) (pk_rem (by omega) (by omega) (by omega)) rfl ?_
  refine g_iadd (q := 35) (v := (nI (20 + (x % 41)))) hC dL_law_34 (nI_add _ _) rfl ?_
  refine g_istore (q := 37) (i := 5) hC dL_law_35 (by decide) rfl ?_
  refine g_iconst (q := 38) (v := 1) hC dL_law_37 rfl rfl ?_
  refine g_istore (q := 40) (i := 6) hC dL_law_38 (by decide) rfl ?_
  refine g_iconst (q := 41) (v := nI 0) hC dL_law_40 rfl rfl ?_
  refine g_istore (q := 43) (i := 7) hC dL_law_41 (by decide) rfl ?_
  refine g_sub (lv0 := [(7, .int (nI 0)), (6, .int 1), (5, .int (nI (20 + x % 41))), (4, .int (nI 0)), (3, .ref mb), (2, .ref b), (1, .ref a), (0, .ref (gScB M))]) ⟨rfl, rfl, rfl, rfl, rfl, rfl, rfl, rfl, trivial⟩ ?_
  exact g_widen (by omega) (by omega) (law_loop hC hL (by omega) hend (20 + x % 41) 0 _ ldI (fun _ => 0) 0 (Nat.zero_add _) ⟨hJ, iv_0, Lm_0⟩)
