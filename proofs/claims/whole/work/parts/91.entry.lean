/-! ===== the law's entry: the ledger, the model, the array of answers ===== -/
set_option maxRecDepth 100000 in
set_option maxHeartbeats 4000000 in
theorem law_entry {X : gX} {M : gMT} {Q : State → Prop} {b L : Nat} {sc : Nat → Int32} (hx : LC X M b L sc) (hend : ∀ (k n9 : Nat) (σ : gS) (lv : List (Nat × Value)), k ≤ 601024 → n9 ≤ 7293034 → G X M 7 Q k n9 σ 1468 lv []) : G X M 7 Q 0 0 (fun _ => none) 0 [(0, .ref b)] [] := by
  have hC := hx.1
  refine g_new (q := 3) (ty := tyX4) (fs := [.null, .null, .null, .null, .null, .null, .null, .null, .int 0, .int 0, .int 0]) hC kn_L_8 tyX4_ok dL_law_0 (fun j hj => by
    have h : j = 0 ∨ j = 1 ∨ j = 2 ∨ j = 3 ∨ j = 4 ∨ j = 5 ∨ j = 6 ∨ j = 7 ∨ j = 8 ∨ j = 9 ∨ j = 10 := by omega
    rcases h with rfl | rfl | rfl | rfl | rfl | rfl | rfl | rfl | rfl | rfl | rfl <;> rfl) (by omega) (by omega) rfl (fun a0 hz => ?_)
  refine g_dup (q := 4) hC dL_law_3 rfl rfl ?_
  refine g_cv (q := 7) (g_runI hC ki_L_81 md_X4_init (c_L_init _ hC.fl M _ a0 (gUp_self _ _ _)) dL_law_4 (by decide) (by decide) (by omega) (by omega) rfl rfl (Nat.le_of_ble_eq_true rfl)) rfl (fun σ1 hp1 => ?_) (fun _ _ h9 => False.elim h9)
  obtain ⟨⟨A, hA, W, hr⟩, hF1⟩ := hp1
  refine g_astore_n (q := 8) (i := 1) hC dL_law_7 rfl (by decide) rfl ?_
  refine g_new (q := 11) (ty := tyX5) (fs := mf0) hC kn_L_82 tyX5_ok dL_law_8 (fun j hj => by
    have h : j = 0 ∨ j = 1 ∨ j = 2 ∨ j = 3 ∨ j = 4 ∨ j = 5 ∨ j = 6 ∨ j = 7 ∨ j = 8 ∨ j = 9 ∨ j = 10 ∨ j = 11 ∨ j = 12 ∨ j = 13 ∨ j = 14 ∨ j = 15 ∨ j = 16 ∨ j = 17 ∨ j = 18 ∨ j = 19 ∨ j = 20 ∨ j = 21 ∨ j = 22 := by omega
    rcases h with rfl | rfl | rfl | rfl | rfl | rfl | rfl | rfl | rfl | rfl | rfl | rfl | rfl | rfl | rfl | rfl | rfl | rfl | rfl | rfl | rfl | rfl | rfl <;> rfl) (by omega) (by omega) rfl (fun m hm => ?_)
  refine g_dup (q := 12) hC dL_law_11 rfl rfl ?_
  have hk1 : ∀ b e, σ1 b = some e → gUp σ1 m (oB 5 mf0) b = some e := fun b e hb => by
    rw [gUp_ne _ _ (fun h => by rw [h, hm] at hb; cases hb)]
    exact hb
  refine g_cv (q := 15) (g_runI hC ki_L_84 md_X5_init (c_M_init _ hC.fl M _ σ1 m (gUp_self _ _ _) hk1 hm) dL_law_12 (by decide) (by decide) (by omega) (by omega) rfl rfl (Nat.le_of_ble_eq_true rfl)) rfl (fun σ2 ⟨ad, hM⟩ => ?_) (fun _ _ h9 => False.elim h9)
  refine g_astore_n (q := 16) (i := 2) hC dL_law_15 rfl (by decide) rfl ?_
  refine g_iconst (q := 17) (v := nI 1) hC dL_law_16 rfl rfl ?_
  refine g_newa (q := 19) (atype := .long) (t := 4) (ty := .long) (len := 1) (x9 := (1, .inr (.inl (fun _ => 0)))) hC (wG_in (tb_6 (List.mem_of_getElem? (i := 61) (by decide +kernel))) (by decide +kernel)) rfl rfl (fun _ => rfl) (by decide) (by decide) (by decide) dL_law_17 (by omega) (by omega) rfl (fun o ho => ?_)
  refine g_astore_n (q := 20) (i := 3) hC dL_law_19 rfl (by decide) rfl ?_
  refine g_iconst (q := 21) (v := nI 0) hC dL_law_20 rfl rfl ?_
  refine g_istore (q := 23) (i := 4) hC dL_law_21 (by decide) rfl ?_
  have hk2 : ∀ b e, σ2 b = some e → gUp σ2 o (aL M 1 (fun _ => 0)) b = some e := fun b e hb => by
    rw [gUp_ne _ _ (fun h => by rw [h, ho] at hb; cases hb)]
    exact hb
  have hJ : Jn M a0 m o 0 (gUp σ2 o (aL M 1 (fun _ => 0))) := ⟨A, ldI, W, ad, 0, inN 30, fun _ => 0, hA, hr.mono (fun b e hb _ => hk2 _ _ (hM.2.2.2.1 _ _ hb)), ⟨hk2 _ _ hM.1, fun c c1 c2 => hk2 _ _ (hM.2.1 c c1 c2), hM.2.2.1⟩, gUp_self _ _ _, Rel_0, Rz_0⟩
  refine g_sub (lv0 := [(4, .int (nI (6 * 0))), (3, .ref o), (2, .ref m), (1, .ref a0), (0, .ref b)]) ⟨rfl, rfl, rfl, rfl, rfl, trivial⟩ ?_
  exact g_widen (by omega) (by omega) (law_loop hx hend 512 0 _ (by omega) hJ)
