/-! ===== new objects ===== -/
set_option maxRecDepth 100000 in
set_option maxHeartbeats 4000000 in
theorem c_R_init (l : Launch) (hfl : l.stackTraces = false) (M : gMT) (σ : gS) (y fa : Nat) (b : Int32) (hA : σ y = some (oB 2 [.null, .int 0, .int 0])) : Con l M yX2_init (.code yX2_init cX2_init 3 (Option.none : Option FieldType)) 2 0 0 [.ref y, .ref fa, .int b] σ (rV fun σ2 => σ2 = gUp σ y (oB 2 [.ref fa, .int b, .int 1])) (nX) := by
  refine g_con hfl (by decide) (lv := [(0, .ref y), (1, .ref fa), (2, .int b)]) rfl rfl (Nat.le_of_ble_eq_true rfl) (fun X hX hC hR htb => ?_)
  refine g_aload_n (q := 1) (i := 0) hC dX2_init_0 rfl rfl rfl ?_
  refine g_objInit (q := 4) hC ko_X2_1 dX2_init_1 (by decide) (by decide) rfl ?_
  refine g_aload_n (q := 5) (i := 0) hC dX2_init_4 rfl rfl rfl ?_
  refine g_iconst (q := 6) (v := (1)) hC dX2_init_5 rfl rfl ?_
  refine g_putf (q := 9) hC kf_X2_7 dX2_init_6 hA (Nat.le_of_ble_eq_true rfl) rfl rfl rfl ?_
  refine g_aload_n (q := 10) (i := 0) hC dX2_init_9 rfl rfl rfl ?_
  refine g_aload_n (q := 11) (i := 1) hC dX2_init_10 rfl rfl rfl ?_
  refine g_putF2 (q := 14) hC hR kf_X2_13 dX2_init_11 (Nat.le_of_ble_eq_true rfl) rfl rfl rfl ?_
  refine g_aload_n (q := 15) (i := 0) hC dX2_init_14 rfl rfl rfl ?_
  refine g_iload_n (q := 16) (i := 2) hC dX2_init_15 rfl rfl rfl ?_
  refine g_putF2 (q := 19) hC hR kf_X2_17 dX2_init_16 (Nat.le_of_ble_eq_true rfl) rfl rfl rfl ?_
  exact g_vret hC hR dX2_init_19 (by omega) (by omega) (⟨rfl, rfl⟩)
set_option maxRecDepth 100000 in
set_option maxHeartbeats 4000000 in
theorem c_F_init (l : Launch) (hfl : l.stackTraces = false) (M : gMT) (σ : gS) (y oa ga pa : Nat) (n : Int32) (hA : σ y = some (oB 3 [.int 0, .null, .null, .null, .int 0, .int 0])) : Con l M yX3_init (.code yX3_init cX3_init 5 (Option.none : Option FieldType)) 2 0 0 [.ref y, .int n, .ref oa, .ref ga, .ref pa] σ (rV fun σ2 => σ2 = gUp σ y (oB 3 [.int n, .ref oa, .ref ga, .ref pa, .int 0, .int 0])) (nX) := by
  refine g_con hfl (by decide) (lv := [(0, .ref y), (1, .int n), (2, .ref oa), (3, .ref ga), (4, .ref pa)]) rfl rfl (Nat.le_of_ble_eq_true rfl) (fun X hX hC hR htb => ?_)
  refine g_aload_n (q := 1) (i := 0) hC dX3_init_0 rfl rfl rfl ?_
  refine g_objInit (q := 4) hC ko_X3_1 dX3_init_1 (by decide) (by decide) rfl ?_
  refine g_aload_n (q := 5) (i := 0) hC dX3_init_4 rfl rfl rfl ?_
  refine g_iconst (q := 6) (v := (0)) hC dX3_init_5 rfl rfl ?_
  refine g_putf (q := 9) hC kf_X3_7 dX3_init_6 hA (Nat.le_of_ble_eq_true rfl) rfl rfl rfl ?_
  refine g_aload_n (q := 10) (i := 0) hC dX3_init_9 rfl rfl rfl ?_
  refine g_iconst (q := 11) (v := (0)) hC dX3_init_10 rfl rfl ?_
  refine g_putf2 (q := 14) hC kf_X3_13 dX3_init_11 (Nat.le_of_ble_eq_true rfl) rfl rfl rfl ?_
  refine g_aload_n (q := 15) (i := 0) hC dX3_init_14 rfl rfl rfl ?_
  refine g_iload_n (q := 16) (i := 1) hC dX3_init_15 rfl rfl rfl ?_
  refine g_putF2 (q := 19) hC hR kf_X3_17 dX3_init_16 (Nat.le_of_ble_eq_true rfl) rfl rfl rfl ?_
  refine g_aload_n (q := 20) (i := 0) hC dX3_init_19 rfl rfl rfl ?_
  refine g_aload_n (q := 21) (i := 2) hC dX3_init_20 rfl rfl rfl ?_
  refine g_putF2 (q := 24) hC hR kf_X3_20 dX3_init_21 (Nat.le_of_ble_eq_true rfl) rfl rfl rfl ?_
  refine g_aload_n (q := 25) (i := 0) hC dX3_init_24 rfl rfl rfl ?_
  refine g_aload_n (q := 26) (i := 3) hC dX3_init_25 rfl rfl rfl ?_
  refine g_putF2 (q := 29) hC hR kf_X3_24 dX3_init_26 (Nat.le_of_ble_eq_true rfl) rfl rfl rfl ?_
  refine g_aload_n (q := 30) (i := 0) hC dX3_init_29 rfl rfl rfl ?_
  refine g_aload (q := 32) (i := 4) hC dX3_init_30 rfl rfl ?_
  refine g_putf2 (q := 35) hC kf_X3_27 dX3_init_32 (Nat.le_of_ble_eq_true rfl) rfl rfl rfl ?_
  exact g_vret hC hR dX3_init_35 (by omega) (by omega) (⟨rfl, rfl⟩)
def acc0 : List Value := accV (-1) (-1) (-1) 0 0 0 0 0
def pP (σ : gS) (y : Nat) (n w : Int32) (q : Option Nat) : gS → Prop := fun σ2 => ∃ z, σ z = none ∧ σ2 = gUp (gUp σ z (oB 0 acc0)) y (oB 1 [.int n, .int w, .ref z, va_rf q])
set_option maxRecDepth 100000 in
set_option maxHeartbeats 4000000 in
theorem c_P_init (l : Launch) (hfl : l.stackTraces = false) (M : gMT) (σ : gS) (y : Nat) (n w : Int32) (q : Option Nat) (hA : σ y = some (oB 1 [.int 0, .int 0, .null, .null])) (hw : narrow .char (.int w) = .int w ∧ fits .char (.int w) = true) : Con l M yX1_init (.code yX1_init cX1_init 4 (Option.none : Option FieldType)) 3 1 8 [.ref y, .int n, va_rf q, .int w] σ (rV (pP σ y n w q)) (nX) := by
  refine g_con hfl (by decide) (lv := [(0, .ref y), (1, .int n), (2, va_rf q), (3, .int w)]) (by cases q <;> rfl) (by cases q <;> rfl) (by cases q <;> exact Nat.le_of_ble_eq_true rfl) (fun X hX hC hR htb => ?_)
  refine g_aload_n (q := 1) (i := 0) hC dX1_init_0 rfl rfl rfl ?_
  refine g_objInit (q := 4) hC ko_X1_1 dX1_init_1 (by decide) (by decide) rfl ?_
  refine g_aload_n (q := 5) (i := 0) hC dX1_init_4 rfl rfl rfl ?_
  refine g_new (q := 8) (ty := tyX0) (fs := accV 0 0 0 0 0 0 0 0) hC kn_X1_7 tyX0_ok dX1_init_5 (fun j hj => by
    have h : j = 0 ∨ j = 1 ∨ j = 2 ∨ j = 3 ∨ j = 4 ∨ j = 5 ∨ j = 6 ∨ j = 7 := by omega
    rcases h with rfl | rfl | rfl | rfl | rfl | rfl | rfl | rfl <;> rfl) (by omega) (by omega) rfl (fun z hz => ?_)
  have hne : y ≠ z := fun e => by rw [e, hz] at hA; cases hA
  refine g_dup (q := 9) hC dX1_init_8 rfl rfl ?_
  refine g_cv (q := 12) (g_runIN hC (index := 9) (host := "AllotmentLedger") (List.mem_of_getElem? (i := 1) rfl) ki_in md_X0_init (c_X0_init _ hC.fl M _ z (gUp_self _ _ _)) dX1_init_9 (by decide) (by decide) (by omega) (by omega) rfl rfl (Nat.le_of_ble_eq_true rfl)) rfl (fun σ2 e2 => ?_) (fun _ _ h9 => False.elim h9)
  rw [gUp_up] at e2
  have hA2 : σ2 y = some (oB 1 [.int 0, .int 0, .null, .null]) := by
    rw [e2, gUp_ne _ _ hne]
    exact hA
  refine g_putF (q := 15) hC hR kf_X1_10 dX1_init_12 hA2 (Nat.le_of_ble_eq_true rfl) rfl rfl rfl ?_
  refine g_aload_n (q := 16) (i := 0) hC dX1_init_15 rfl rfl rfl ?_
  refine g_iload_n (q := 17) (i := 1) hC dX1_init_16 rfl rfl rfl ?_
  refine g_putF2 (q := 20) hC hR kf_X1_16 dX1_init_17 (Nat.le_of_ble_eq_true rfl) rfl rfl rfl ?_
  refine g_aload_n (q := 21) (i := 0) hC dX1_init_20 rfl rfl rfl ?_
  refine g_aload_nQ (q := 22) (i := 2) (o := q) hC dX1_init_21 rfl rfl rfl ?_
  refine g_putf2 (q := 25) hC kf_X1_20 dX1_init_22 (Nat.le_of_ble_eq_true rfl) (by cases q <;> rfl) (by cases q <;> rfl) rfl ?_
  refine g_aload_n (q := 26) (i := 0) hC dX1_init_25 rfl rfl rfl ?_
  refine g_iload_n (q := 27) (i := 3) hC dX1_init_26 rfl rfl rfl ?_
  refine g_putF2 (q := 30) hC hR kf_X1_24 dX1_init_27 (Nat.le_of_ble_eq_true rfl) hw.1 hw.2 rfl ?_
  exact g_vret hC hR dX1_init_30 (by omega) (by omega) (⟨rfl, z, hz, by rw [e2]; rfl⟩)
theorem gUp_tri {σ : gS} {y z : Nat} {e0 ez e1 : va_E} (h : y ≠ z) : gUp (gUp (gUp σ y e0) z ez) y e1 = gUp (gUp σ z ez) y e1 := by
  funext b
  unfold gUp
  by_cases h1 : b = y
  · rw [if_pos h1, if_pos h1]
  · rw [if_neg h1, if_neg h1, if_neg h1]
section RN
variable {M : gMT} {σ σ2 : gS} {A A' : gAd} {ρ ρ' : gSt} {W : gWt}
def wRow (W : gWt) (re : Nat → Nat) : gWt := (W.1, W.2.1, W.2.2.1, W.2.2.2.1, W.2.2.2.2.1, (wRc W, re))
/-- one object more -/
theorem Raw.newO (h : Raw M σ A ρ W) {k y n : Nat} {re : Nat → Nat} (hk : k ≤ 4) (hn : ρ.1 11 k = n) (hy : σ y = none) {l : List Value} (hl : l = cel A' ρ' k n) (hA0 : A' k n = y) (hA1 : ∀ k' i, k' ≤ 4 → i < ρ.1 11 k' → A' k' i = A k' i) (hA5 : ∀ j, A' 5 j = A 5 j)
    (ho : ∀ k' i, k' ≤ 4 → i < ρ.1 11 k' → cel A' ρ' k' i = cel A ρ k' i) (hc1 : ∀ j, ρ'.1 10 j = ρ.1 10 j) (hc2 : ρ'.1 11 k = n + 1) (hc3 : ∀ k', k' ≤ 4 → k' ≠ k → ρ'.1 11 k' = ρ.1 11 k') (hc4 : ρ'.1 0 0 = ρ.1 0 0) (hc5 : ∀ i, ρ'.1 1 i = ρ.1 1 i)
    (he : ∀ j i, lix j → i < cntL ρ W j → elA A' (wRow W re) j i = elA A W j i) : Raw M (gUp σ y (oB (kCl k) l)) A' ρ' (wRow W re) ∧ gFF σ (gUp σ y (oB (kCl k) l)) := by
  subst hl
  obtain ⟨h1, h2, h3, h4, h5, h6, h7, h8⟩ := h
  have hne : ∀ b e, σ b = some e → b ≠ y := fun b e hb z => by
    rw [z, hy] at hb
    cases hb
  refine ⟨⟨fun k' i hk' hi => ?_, fun k' i i' hk' hi hi' e => ?_, fun j hj => ?_, fun j j' hj hj' e => ?_, h5, ?_, ?_, ?_⟩, gFF.new hy⟩
  · by_cases z : k' = k
    · subst z
      rw [hc2] at hi
      by_cases w : i = n
      · subst w
        rw [hA0]
        exact gUp_self _ _ _
      · rw [hA1 k' i hk' (by omega), ho k' i hk' (by omega), gUp_ne _ _ (hne _ _ (h1 k' i hk' (by omega)))]
        exact h1 k' i hk' (by omega)
    · rw [hc3 k' hk' z] at hi
      rw [hA1 k' i hk' hi, ho k' i hk' hi, gUp_ne _ _ (hne _ _ (h1 k' i hk' hi))]
      exact h1 k' i hk' hi
  · by_cases z : k' = k
    · subst z
      rw [hc2] at hi hi'
      by_cases w : i = n
      · by_cases w' : i' = n
        · rw [w, w']
        · rw [w, hA0, hA1 k' i' hk' (by omega)] at e
          exact absurd e.symm (hne _ _ (h1 k' i' hk' (by omega)))
      · by_cases w' : i' = n
        · rw [w', hA0, hA1 k' i hk' (by omega)] at e
          exact absurd e (hne _ _ (h1 k' i hk' (by omega)))
        · rw [hA1 k' i hk' (by omega), hA1 k' i' hk' (by omega)] at e
          exact h2 k' i i' hk' (by omega) (by omega) e
    · rw [hc3 k' hk' z] at hi hi'
      rw [hA1 k' i hk' hi, hA1 k' i' hk' hi'] at e
      exact h2 k' i i' hk' hi hi' e
  · obtain ⟨q1, q2, q3, q4, q5⟩ := h3 j hj
    have ec : cntL ρ' (wRow W re) j = cntL ρ W j := by
      unfold cntL
      by_cases w : j = 7
      · rw [if_pos w, if_pos w]
        rfl
      · rw [if_neg w, if_neg w, hc1 j]
    unfold LR
    rw [ec, hA5]
    refine ⟨by rw [gUp_ne _ _ (hne _ _ q1)]; exact q1, ?_, q3, q4, fun i hi => ?_⟩
    · rcases q2 with ⟨q2, q2'⟩ | q2
      · refine Or.inl ⟨q2, ?_⟩
        show gUp σ y _ (wDd W j) = _
        rw [gUp_ne _ _ (hne _ _ q2')]
        exact q2'
      · exact Or.inr q2
    · show wF W j i = _
      rw [q5 i hi, he j i hj hi]
  · rw [hA5, hA5] at e
    exact h4 j j' hj hj' e
  · rw [hA5, hc4, gUp_ne _ _ (hne _ _ h6)]
    exact h6
  · show gUp σ y _ (wSv W) = _
    rw [gUp_ne _ _ (hne _ _ h7)]
    exact h7
  · intro i hi
    rw [hc4] at hi
    rw [hc5]
    exact h8 i hi
/-- fewer objects -/
theorem Raw.fewer (h : Raw M σ A ρ W) (o1 : ∀ k i, k ≤ 4 → i < ρ'.1 11 k → cel A ρ' k i = cel A ρ k i) (o2 : ∀ k, k ≤ 4 → ρ'.1 11 k ≤ ρ.1 11 k) (o3 : ∀ j, ρ'.1 10 j = ρ.1 10 j) (o4 : ρ'.1 0 0 = ρ.1 0 0) (o5 : ∀ i, ρ'.1 1 i = ρ.1 1 i) : Raw M σ A ρ' W := by
  obtain ⟨h1, h2, h3, h4, h5, h6, h7, h8⟩ := h
  refine ⟨fun k i hk hi => ?_, fun k i i' hk hi hi' => h2 k i i' hk (Nat.lt_of_lt_of_le hi (o2 k hk)) (Nat.lt_of_lt_of_le hi' (o2 k hk)), fun j hj => ?_, h4, h5, by rw [o4]; exact h6, h7, fun i hi => ?_⟩
  · rw [o1 k i hk hi]
    exact h1 k i hk (Nat.lt_of_lt_of_le hi (o2 k hk))
  · have ec : cntL ρ' W j = cntL ρ W j := by
      unfold cntL
      by_cases w : j = 7
      · rw [if_pos w, if_pos w]
      · rw [if_neg w, if_neg w, o3 j]
    unfold LR
    rw [ec]
    exact h3 j hj
  · rw [o4] at hi
    rw [o5]
    exact h8 i hi
end RN
