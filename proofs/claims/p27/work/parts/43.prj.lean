/-! ===== the ledger: projects above one another ===== -/
def dpu (ρ : gSt) (p : Nat) : Nat → Nat → Nat
  | 0, k => k
  | d + 1, k => match upn ρ p (k + 1) with
    | none => k
    | some _ => dpu ρ p d (k + 1)
def dep (ρ : gSt) (p : Nat) : Nat := dpu ρ p 9 0
def wiu (ρ : gSt) (p q : Nat) : Nat → Nat → Bool
  | 0, _ => false
  | d + 1, k => match upn ρ p k with
    | none => false
    | some x => if x = q then true else wiu ρ p q d (k + 1)
def wi (ρ : gSt) (p q : Nat) : Bool := wiu ρ p q 9 0
theorem upn_s (ρ : gSt) (p k : Nat) {q : Nat} (h : upn ρ p k = some q) : upn ρ p (k + 1) = par ρ q := by
  show (upn ρ p k).bind (par ρ) = _
  rw [h]
  rfl
theorem upn_n (ρ : gSt) (p : Nat) {k : Nat} (h : upn ρ p k = none) : ∀ j, k ≤ j → upn ρ p j = none := by
  intro j
  induction j with
  | zero =>
    intro hj
    rw [show k = 0 by omega] at h
    exact h
  | succ j ih =>
    intro hj
    by_cases z : k = j + 1
    · rw [← z]
      exact h
    · show (upn ρ p j).bind (par ρ) = none
      rw [ih (by omega)]
      rfl
set_option maxRecDepth 100000 in
set_option maxHeartbeats 4000000 in
theorem c_P_letters (l : Launch) (hfl : l.stackTraces = false) (M : gMT) (σ : gS) (A : gAd) (ρ : gSt) (W : gWt) (p : Nat) (hr : Raw M σ A ρ W) (hW : RW ρ) (hp : p < ρ.1 11 2) : Con l M yX1_letters (.code yX1_letters cX1_letters 3 (Option.some FieldType.int)) 1 0 0 [.ref (A 2 p)] σ (rI (pI σ (nI (dep ρ p)))) (nX) := by
  refine g_con hfl (by decide) (lv := [(0, .ref (A 2 p))]) rfl rfl (Nat.le_of_ble_eq_true rfl) (fun X hX hC hR htb => ?_)
  have h9 := (hW.2.2.2.2.2.2.1 p hp).2.2
  have loop : ∀ (d9 k : Nat), k + d9 = 9 → dep ρ p = dpu ρ p d9 k → G X M 3 (gQ X M 0 0 (rI (pI σ (nI (dep ρ p)))) nX) 0 0 σ 7 [(2, va_rf ((upn ρ p (k + 1)).map (A 2))), (1, .int (nI k)), (0, .ref (A 2 p))] [] := by
    intro d9
    induction d9 with
    | zero =>
      intro k h1 h2
      have hu : upn ρ p (k + 1) = none := upn_n ρ p h9 _ (by omega)
      rw [hu]
      refine g_sub (lv0 := [(2, va_rf none), (1, .int (nI k)), (0, .ref (A 2 p))]) ⟨rfl, rfl, rfl, trivial⟩ ?_
      refine g_aload_nQ (q := 8) (i := 2) (o := none) hC dX1_letters_7 rfl rfl rfl ?_
      refine g_ifnull (o := none) (tgt := 22) (q := 11) hC dX1_letters_8 (by decide) rfl (fun c_8 => ?_) (fun a c_8 => ?_)
      · refine g_iload_n (q := 23) (i := 1) hC dX1_letters_22 rfl rfl rfl ?_
        exact g_iret hC hR dX1_letters_23 (by omega) (by omega) (⟨_, rfl, by rw [h2]; rfl, rfl⟩)
      · cases c_8
    | succ d9 ih =>
      intro k h1 h2
      cases hu : upn ρ p (k + 1) with
      | none =>
        refine g_sub (lv0 := [(2, va_rf none), (1, .int (nI k)), (0, .ref (A 2 p))]) ⟨rfl, rfl, rfl, trivial⟩ ?_
        refine g_aload_nQ (q := 8) (i := 2) (o := none) hC dX1_letters_7 rfl rfl rfl ?_
        refine g_ifnull (o := none) (tgt := 22) (q := 11) hC dX1_letters_8 (by decide) rfl (fun c_8 => ?_) (fun a c_8 => ?_)
        · refine g_iload_n (q := 23) (i := 1) hC dX1_letters_22 rfl rfl rfl ?_
          exact g_iret hC hR dX1_letters_23 (by omega) (by omega) (⟨_, rfl, by rw [h2, dpu, hu], rfl⟩)
        · cases c_8
      | some q =>
        have hq := upn_lt hW hp _ _ hu
        refine g_sub (lv0 := [(2, va_rf (some (A 2 q))), (1, .int (nI k)), (0, .ref (A 2 p))]) ⟨rfl, rfl, rfl, trivial⟩ ?_
        refine g_aload_nQ (q := 8) (i := 2) (o := (some (A 2 q))) hC dX1_letters_7 rfl rfl rfl ?_
        refine g_ifnull (o := some (A 2 q)) (tgt := 22) (q := 11) hC dX1_letters_8 (by decide) rfl (fun c_8 => ?_) (fun a c_8 => ?_)
        · cases c_8
        · skip
          refine g_iinc (q := 14) (i := 1) (v := (nI (k + 1))) hC dX1_letters_11 rfl (nI_1 _) rfl ?_
          refine g_aload_n (q := 15) (i := 2) hC dX1_letters_14 rfl rfl rfl ?_
          refine g_getf (q := 18) (v := va_rf ((par ρ q).map (A 2))) hC kg_X1_20 dX1_letters_15 (hr.prj (by omega)) rfl rfl ?_
          refine g_astore_nQ (q := 19) (i := 2) (o := ((par ρ q).map (A 2))) hC dX1_letters_18 rfl (by decide) rfl ?_
          refine g_goto (tgt := 7) hC dX1_letters_19 (by decide) ?_
          rw [← upn_s ρ p (k + 1) hu]
          refine g_sub (lv0 := [(2, va_rf ((upn ρ p (k + 1 + 1)).map (A 2))), (1, .int (nI (k + 1))), (0, .ref (A 2 p))]) ⟨rfl, rfl, rfl, trivial⟩ ?_
          exact ih (k + 1) (by omega) (by rw [h2, dpu, hu])
  refine g_iconst (q := 1) (v := nI 0) hC dX1_letters_0 rfl rfl ?_
  refine g_istore_n (q := 2) (i := 1) hC dX1_letters_1 rfl (by decide) rfl ?_
  refine g_aload_n (q := 3) (i := 0) hC dX1_letters_2 rfl rfl rfl ?_
  refine g_getf (q := 6) (v := va_rf ((par ρ p).map (A 2))) hC kg_X1_20 dX1_letters_3 (hr.prj (by omega)) rfl rfl ?_
  refine g_astore_nQ (q := 7) (i := 2) (o := ((par ρ p).map (A 2))) hC dX1_letters_6 rfl (by decide) rfl ?_
  refine g_sub (lv0 := [(2, va_rf ((upn ρ p (0 + 1)).map (A 2))), (1, .int (nI 0)), (0, .ref (A 2 p))]) ⟨rfl, rfl, rfl, trivial⟩ ?_
  exact loop 9 0 (by omega) rfl
set_option maxRecDepth 100000 in
set_option maxHeartbeats 4000000 in
theorem c_P_isWithin (l : Launch) (hfl : l.stackTraces = false) (M : gMT) (σ : gS) (A : gAd) (ρ : gSt) (W : gWt) (p q : Nat) (hr : Raw M σ A ρ W) (hW : RW ρ) (hp : p < ρ.1 11 2) (hq : q < ρ.1 11 2) : Con l M yX1_isWithin (.code yX1_isWithin cX1_isWithin 3 (Option.some FieldType.boolean)) 1 0 0 [.ref (A 2 p), .ref (A 2 q)] σ (rI (pI σ (bI (wi ρ p q)))) (nX) := by
  refine g_con hfl (by decide) (lv := [(0, .ref (A 2 p)), (1, .ref (A 2 q))]) rfl rfl (Nat.le_of_ble_eq_true rfl) (fun X hX hC hR htb => ?_)
  have h9 := (hW.2.2.2.2.2.2.1 p hp).2.2
  have loop : ∀ (d9 k : Nat), k + d9 = 9 → wi ρ p q = wiu ρ p q d9 k → G X M 3 (gQ X M 0 0 (rI (pI σ (bI (wi ρ p q)))) nX) 0 0 σ 2 [(2, va_rf ((upn ρ p k).map (A 2))), (0, .ref (A 2 p)), (1, .ref (A 2 q))] [] := by
    intro d9
    induction d9 with
    | zero =>
      intro k h1 h2
      have hu : upn ρ p k = none := upn_n ρ p h9 _ (by omega)
      rw [hu]
      refine g_sub (lv0 := [(2, va_rf none), (0, .ref (A 2 p)), (1, .ref (A 2 q))]) ⟨rfl, rfl, rfl, trivial⟩ ?_
      refine g_aload_nQ (q := 3) (i := 2) (o := none) hC dX1_isWithin_2 rfl rfl rfl ?_
      refine g_ifnull (o := none) (tgt := 21) (q := 6) hC dX1_isWithin_3 (by decide) rfl (fun c_3 => ?_) (fun a c_3 => ?_)
      · refine g_iconst (q := 22) (v := (0)) hC dX1_isWithin_21 rfl rfl ?_
        exact g_zret hC hR (rfl) dX1_isWithin_22 (by omega) (by omega) (⟨_, rfl, by rw [h2]; rfl, rfl⟩)
      · cases c_3
    | succ d9 ih =>
      intro k h1 h2
      cases hu : upn ρ p k with
      | none =>
        refine g_sub (lv0 := [(2, va_rf none), (0, .ref (A 2 p)), (1, .ref (A 2 q))]) ⟨rfl, rfl, rfl, trivial⟩ ?_
        refine g_aload_nQ (q := 3) (i := 2) (o := none) hC dX1_isWithin_2 rfl rfl rfl ?_
        refine g_ifnull (o := none) (tgt := 21) (q := 6) hC dX1_isWithin_3 (by decide) rfl (fun c_3 => ?_) (fun a c_3 => ?_)
        · refine g_iconst (q := 22) (v := (0)) hC dX1_isWithin_21 rfl rfl ?_
          exact g_zret hC hR (rfl) dX1_isWithin_22 (by omega) (by omega) (⟨_, rfl, by rw [h2, wiu, hu]; rfl, rfl⟩)
        · cases c_3
      | some x =>
        have hx := upn_lt hW hp _ _ hu
        refine g_sub (lv0 := [(2, va_rf (some (A 2 x))), (0, .ref (A 2 p)), (1, .ref (A 2 q))]) ⟨rfl, rfl, rfl, trivial⟩ ?_
        refine g_aload_nQ (q := 3) (i := 2) (o := (some (A 2 x))) hC dX1_isWithin_2 rfl rfl rfl ?_
        refine g_ifnull (o := some (A 2 x)) (tgt := 21) (q := 6) hC dX1_isWithin_3 (by decide) rfl (fun c_3 => ?_) (fun a c_3 => ?_)
        · cases c_3
        · skip
          refine g_aload_n (q := 7) (i := 2) hC dX1_isWithin_6 rfl rfl rfl ?_
          refine g_aload_n (q := 8) (i := 1) hC dX1_isWithin_7 rfl rfl rfl ?_
          refine g_acmp_ne (tgt := 13) (q := 11) (rx := some (A 2 x)) (ry := some (A 2 q)) hC dX1_isWithin_8 (by decide) rfl (fun c_8 => ?_) (fun c_8 => ?_)
          · have ne : ¬ x = q := fun z => c_8 (by rw [z])
            refine g_aload_n (q := 14) (i := 2) hC dX1_isWithin_13 rfl rfl rfl ?_
            refine g_getf (q := 17) (v := va_rf ((par ρ x).map (A 2))) hC kg_X1_20 dX1_isWithin_14 (hr.prj (by omega)) rfl rfl ?_
            refine g_astore_nQ (q := 18) (i := 2) (o := ((par ρ x).map (A 2))) hC dX1_isWithin_17 rfl (by decide) rfl ?_
            refine g_goto (tgt := 2) hC dX1_isWithin_18 (by decide) ?_
            rw [← upn_s ρ p k hu]
            refine g_sub (lv0 := [(2, va_rf ((upn ρ p (k + 1)).map (A 2))), (0, .ref (A 2 p)), (1, .ref (A 2 q))]) ⟨rfl, rfl, rfl, trivial⟩ ?_
            exact ih (k + 1) (by omega) (by rw [h2, wiu, hu]; exact if_neg ne)
          · have e : x = q := (hr.inj (k := 2) (by decide) hx hq).mp (Option.some.inj c_8)
            refine g_iconst (q := 12) (v := (1)) hC dX1_isWithin_11 rfl rfl ?_
            exact g_zret hC hR (rfl) dX1_isWithin_12 (by omega) (by omega) (⟨_, rfl, by rw [h2, wiu, hu, e]; show _ = bI (if q = q then true else _); rw [if_pos rfl]; rfl, rfl⟩)
  refine g_aload_n (q := 1) (i := 0) hC dX1_isWithin_0 rfl rfl rfl ?_
  refine g_astore_n (q := 2) (i := 2) hC dX1_isWithin_1 rfl (by decide) rfl ?_
  refine g_sub (lv0 := [(2, va_rf ((upn ρ p 0).map (A 2))), (0, .ref (A 2 p)), (1, .ref (A 2 q))]) ⟨rfl, rfl, rfl, trivial⟩ ?_
  exact loop 9 0 (by omega) rfl
