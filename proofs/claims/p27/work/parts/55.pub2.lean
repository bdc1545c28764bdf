/-! ===== the ledger's calls (2): the path ===== -/
section PT
variable {M : gMT} {σ σ2 : gS} {A : gAd} {ρ : gSt} {W : gWt}
/-- only the path's columns differ -/
theorem pathSame {ρ' : gSt} (h1 : ρ'.2 = ρ.2) (h2 : ∀ c, c ≠ 0 → c ≠ 1 → ρ'.1 c = ρ.1 c) (h3 : ρ'.1 0 6 = ρ.1 0 6) : ∀ k i, k ≤ 4 → cel A ρ' k i = cel A ρ k i := by
  intro k i hk
  have hp : par ρ' = par ρ := by
    funext p
    unfold par
    rw [h2 3 (by decide) (by decide)]
  have hk : k = 0 ∨ k = 1 ∨ k = 2 ∨ k = 3 ∨ k = 4 := by omega
  rcases hk with rfl | rfl | rfl | rfl | rfl
  · show ledF A _ = ledF A _
    unfold ledF
    rw [h1, h3]
  · show accW _ _ = accW _ _
    unfold accW
    rw [h1]
  · show prjF A _ _ = prjF A _ _
    unfold prjF
    rw [hp, h2 2 (by decide) (by decide)]
  · show filF A _ _ = filF A _ _
    unfold filF
    rw [h1, h2 4 (by decide) (by decide), h2 5 (by decide) (by decide), h2 6 (by decide) (by decide)]
  · show rsvF A _ _ = rsvF A _ _
    unfold rsvF
    rw [h1, h2 7 (by decide) (by decide)]
theorem Raw.setL (h : Raw M σ A ρ W) {n : Nat} {ml2 : Int32} (hn : n ≤ ρ.1 0 0) (hs : σ2 = gUp σ (A 5 6) (oB 7 (sbV (wSv W) ml2 n))) : RawE M σ2 A (sN ρ 0 0 n) ∧ gFF σ σ2 := by
  subst hs
  have hne : wSv W ≠ A 5 6 := fun z => by
    have h7 := h.sv
    rw [z, h.sb] at h7
    cases h7
  refine h.pth (ρ' := sN ρ 0 0 n) (ml := ml2) (c := n) (f := wSf W) (gUp_self _ _ _) (by rw [gUp_ne _ _ hne]; exact h.sv) (fun b h1 _ => gUp_ne _ _ h1) (fun i hi => h.2.2.2.2.2.2.2 i (by omega)) (fun k i hk _ => pathSame (ρ := ρ) (ρ' := sN ρ 0 0 n) rfl (fun c h1 _ => up2_col _ _ h1) rfl k i hk) (fun _ => rfl) (fun _ => rfl) rfl
theorem Raw.app (h : Raw M σ A ρ W) {w : Nat} (hs : pApp M σ (A 5 6) (wSv W) (ρ.1 0 0) w (wSm W) (wSf W) σ2) : RawE M σ2 A (sN (sN ρ 1 (ρ.1 0 0) w) 0 0 (ρ.1 0 0 + 1)) ∧ gFF σ σ2 := by
  obtain ⟨a1, a2, a3⟩ := hs
  refine h.pth (ρ' := sN (sN ρ 1 (ρ.1 0 0) w) 0 0 (ρ.1 0 0 + 1)) a1 a2 a3 (fun i hi => ?_) (fun k i hk _ => pathSame (ρ := ρ) (ρ' := sN (sN ρ 1 (ρ.1 0 0) w) 0 0 (ρ.1 0 0 + 1)) rfl (fun c h1 h2 => (up2_col _ _ h1).trans (up2_col _ _ h2)) rfl k i hk) (fun _ => rfl) (fun _ => rfl) rfl
  show upd _ _ _ i = nI (up2 (up2 ρ.1 1 (ρ.1 0 0) w) 0 0 (ρ.1 0 0 + 1) 1 i)
  rw [up2_ne _ _ (Or.inl (by decide))]
  by_cases z : i = ρ.1 0 0
  · subst z
    rw [up2_self]
    simp [upd]
  · rw [up2_ne _ _ (Or.inr z)]
    simp only [upd, if_neg z]
    exact h.2.2.2.2.2.2.2 i (by omega)
end PT
def lo_clearPath (ρ : gSt) : lRes := ("", nI (ρ.1 0 0), sN ρ 0 0 0)
set_option maxRecDepth 100000 in
set_option maxHeartbeats 4000000 in
theorem c_L_clearPath (l : Launch) (hfl : l.stackTraces = false) (M : gMT) (σ : gS) (A : gAd) (ρ : gSt) (W : gWt) (hr : Raw M σ A ρ W) (hW : RW ρ) : Con l M yX4_clearPath (.code yX4_clearPath cX4_clearPath 2 (Option.some FieldType.int)) 12 0 0 [.ref (A 0 0)] σ (rI (lP M σ A (lo_clearPath ρ))) (nX) := by
  refine g_con hfl (by decide) (lv := [(0, .ref (A 0 0))]) rfl rfl (Nat.le_of_ble_eq_true rfl) (fun X hX hC hR htb => ?_)
  have b5 := hW.2.2.2.2.1.1
  refine g_aload_n (q := 1) (i := 0) hC dX4_clearPath_0 rfl rfl rfl ?_
  refine g_getf (q := 4) (v := .ref (A 5 6)) hC kg_X4_31 dX4_clearPath_1 (hr.led hW) rfl rfl ?_
  refine g_ci (q := 7) (g_runV hC kv_X4_72 md_J4_length_8abf5 (c_sb_len _ hC.fl M _ (A 5 6) _ _ _ hr.sb) (ci := 7) rfl hr.sb dX4_clearPath_4 (by decide) (by decide) (by omega) (by omega) rfl rfl (Nat.le_of_ble_eq_true rfl)) rfl (fun r σ ⟨e1, e2⟩ => ?_) (fun _ _ h9 => False.elim h9)
  subst e1 e2
  refine g_istore_n (q := 8) (i := 1) hC dX4_clearPath_7 rfl (by decide) rfl ?_
  refine g_aload_n (q := 9) (i := 0) hC dX4_clearPath_8 rfl rfl rfl ?_
  refine g_getf (q := 12) (v := .ref (A 5 6)) hC kg_X4_31 dX4_clearPath_9 (hr.led hW) rfl rfl ?_
  refine g_iconst (q := 13) (v := nI 0) hC dX4_clearPath_12 rfl rfl ?_
  refine g_cv (q := 16) (g_runV hC kv_X4_87 md_J4_setLength_d00df (c_sb_set _ hC.fl M _ (A 5 6) _ _ 0 _ _ hr.sb hr.sv (Nat.zero_le _) (by omega)) (ci := 7) rfl hr.sb dX4_clearPath_13 (by decide) (by decide) (by omega) (by omega) rfl rfl (Nat.le_of_ble_eq_true rfl)) rfl (fun σ2 ⟨ml2, e2⟩ => ?_) (fun _ _ h9 => False.elim h9)
  obtain ⟨h5, hF⟩ := hr.setL (Nat.zero_le _) e2
  refine g_iload_n (q := 17) (i := 1) hC dX4_clearPath_16 rfl rfl rfl ?_
  exact g_iret hC hR dX4_clearPath_17 (by omega) (by omega) (⟨_, rfl, rfl, rfl, ⟨A, rfl, h5⟩, hF⟩)
def lo_back (ρ : gSt) : lRes := if ρ.1 0 0 = 0 then (eS, 0, ρ) else ("", nI (ρ.1 0 0 - 1), sN ρ 0 0 (ρ.1 0 0 - 1))
set_option maxRecDepth 100000 in
set_option maxHeartbeats 4000000 in
theorem c_L_back (l : Launch) (hfl : l.stackTraces = false) (M : gMT) (σ : gS) (A : gAd) (ρ : gSt) (W : gWt) (hr : Raw M σ A ρ W) (hW : RW ρ) : Con l M yX4_back (.code yX4_back cX4_back 1 (Option.some FieldType.int)) 12 1 6 [.ref (A 0 0)] σ (rI (lP M σ A (lo_back ρ))) (lX σ (lo_back ρ)) := by
  refine g_con hfl (by decide) (lv := [(0, .ref (A 0 0))]) rfl rfl (Nat.le_of_ble_eq_true rfl) (fun X hX hC hR htb => ?_)
  have b5 := hW.2.2.2.2.1.1
  refine g_aload_n (q := 1) (i := 0) hC dX4_back_0 rfl rfl rfl ?_
  refine g_getf (q := 4) (v := .ref (A 5 6)) hC kg_X4_31 dX4_back_1 (hr.led hW) rfl rfl ?_
  refine g_ci (q := 7) (g_runV hC kv_X4_72 md_J4_length_8abf5 (c_sb_len _ hC.fl M _ (A 5 6) _ _ _ hr.sb) (ci := 7) rfl hr.sb dX4_back_4 (by decide) (by decide) (by omega) (by omega) rfl rfl (Nat.le_of_ble_eq_true rfl)) rfl (fun r σ ⟨e1, e2⟩ => ?_) (fun _ _ h9 => False.elim h9)
  subst e1 e2
  refine g_if_ne (tgt := 20) (q := 10) hC dX4_back_7 (by decide) rfl (fun c_7 => ?_) (fun c_7 => ?_)
  · have hne : ¬ ρ.1 0 0 = 0 := fun z => c_7 (by rw [z]; rfl)
    refine g_aload_n (q := 21) (i := 0) hC dX4_back_20 rfl rfl rfl ?_
    refine g_getf (q := 24) (v := .ref (A 5 6)) hC kg_X4_31 dX4_back_21 (hr.led hW) rfl rfl ?_
    refine g_aload_n (q := 25) (i := 0) hC dX4_back_24 rfl rfl rfl ?_
    refine g_getf (q := 28) (v := .ref (A 5 6)) hC kg_X4_31 dX4_back_25 (hr.led hW) rfl rfl ?_
    refine g_ci (q := 31) (g_runV hC kv_X4_72 md_J4_length_8abf5 (c_sb_len _ hC.fl M _ (A 5 6) _ _ _ hr.sb) (ci := 7) rfl hr.sb dX4_back_28 (by decide) (by decide) (by omega) (by omega) rfl rfl (Nat.le_of_ble_eq_true rfl)) rfl (fun r σ ⟨e1, e2⟩ => ?_) (fun _ _ h9 => False.elim h9)
    subst e1 e2
    refine g_iconst (q := 32) (v := nI 1) hC dX4_back_31 rfl rfl ?_
    refine g_isub (q := 33) (v := (nI ((ρ.1 0 0) - 1))) hC dX4_back_32 (pk_sub (by omega)) rfl ?_
    refine g_cv (q := 36) (g_runV hC kv_X4_87 md_J4_setLength_d00df (c_sb_set _ hC.fl M _ (A 5 6) _ _ (ρ.1 0 0 - 1) _ _ hr.sb hr.sv (by omega) (by omega)) (ci := 7) rfl hr.sb dX4_back_33 (by decide) (by decide) (by omega) (by omega) rfl rfl (Nat.le_of_ble_eq_true rfl)) rfl (fun σ2 ⟨ml2, e2⟩ => ?_) (fun _ _ h9 => False.elim h9)
    obtain ⟨⟨W5, h5⟩, hF⟩ := hr.setL (by omega) e2
    have hl5 : σ2 (A 0 0) = some (oB 4 (ledF A (sN ρ 0 0 (ρ.1 0 0 - 1)))) := h5.1 0 0 (by decide) (by show 0 < ρ.1 11 0; rw [hW.1.1]; decide)
    refine g_aload_n (q := 37) (i := 0) hC dX4_back_36 rfl rfl rfl ?_
    refine g_getf (q := 40) hC kg_X4_31 dX4_back_37 hl5 rfl rfl ?_
    refine g_ci (q := 43) (g_runV hC kv_X4_72 md_J4_length_8abf5 (c_sb_len _ hC.fl M _ (A 5 6) _ _ _ h5.sb) (ci := 7) rfl h5.sb dX4_back_40 (by decide) (by decide) (by omega) (by omega) rfl rfl (Nat.le_of_ble_eq_true rfl)) rfl (fun r σ2 ⟨e1, e2⟩ => ?_) (fun _ _ h9 => False.elim h9)
    subst e1 e2
    exact g_iret hC hR dX4_back_43 (by omega) (by omega) (⟨_, rfl, by rw [lo_back, if_neg hne]; exact ⟨rfl, rfl, ⟨A, rfl, W5, h5⟩, hF⟩⟩)
  · have he : ρ.1 0 0 = 0 := (nI_eq (b := 0) (by omega) (by omega)).mp c_7
    exact g_throwS hC hR htb (tS (is := 85) (text := "the path is empty") (by decide +kernel)) dX4_back_10 dX4_back_13 dX4_back_14 dX4_back_16 dX4_back_19 (by decide) (Nat.le_of_ble_eq_true rfl) (by omega) (by omega) (lX_of (by rw [lo_back, if_pos he]) eS_n)
def lo_type (ρ : gSt) (c : Int32) : lRes := if c < 97 ∨ 122 < c then (eA, 0, ρ) else if 8 ≤ ρ.1 0 0 then (eS, 0, ρ) else ("", nI (ρ.1 0 0 + 1), sN (sN ρ 1 (ρ.1 0 0) c.toNatClampNeg) 0 0 (ρ.1 0 0 + 1))
set_option maxRecDepth 100000 in
set_option maxHeartbeats 4000000 in
theorem c_L_type (l : Launch) (hfl : l.stackTraces = false) (M : gMT) (σ : gS) (A : gAd) (ρ : gSt) (W : gWt) (c9 : Int32) (hr : Raw M σ A ρ W) (hW : RW ρ) : Con l M yX4_type (.code yX4_type cX4_type 2 (Option.some FieldType.int)) 12 1 6 [.ref (A 0 0), .int c9] σ (rI (lP M σ A (lo_type ρ c9))) (lX σ (lo_type ρ c9)) := by
  refine g_con hfl (by decide) (lv := [(0, .ref (A 0 0)), (1, .int c9)]) rfl rfl (Nat.le_of_ble_eq_true rfl) (fun X hX hC hR htb => ?_)
  have b5 := hW.2.2.2.2.1.1
  have bad : (c9 < 97 ∨ 122 < c9) → G X M 2 (gQ X M 1 6 (rI (lP M σ A (lo_type ρ c9))) (lX σ (lo_type ρ c9))) 0 0 σ 12 [(0, .ref (A 0 0)), (1, .int c9)] [] := by
    intro hb
    exact g_throwS hC hR htb (tA (is := 67) (text := "the letter is not one of a to z") (by decide +kernel)) dX4_type_12 dX4_type_15 dX4_type_16 dX4_type_18 dX4_type_21 (by decide) (Nat.le_of_ble_eq_true rfl) (by omega) (by omega) (lX_of (by rw [lo_type, if_pos hb]) eA_n)
  refine g_iload_n (q := 1) (i := 1) hC dX4_type_0 rfl rfl rfl ?_
  refine g_bipush (q := 3) (v := (97)) hC dX4_type_1 rfl rfl ?_
  refine g_icmp_lt (tgt := 12) (q := 6) hC dX4_type_3 (by decide) rfl (fun c_3 => ?_) (fun c_3 => ?_)
  · exact bad (Or.inl c_3)
  · refine g_iload_n (q := 7) (i := 1) hC dX4_type_6 rfl rfl rfl ?_
    refine g_bipush (q := 9) (v := (122)) hC dX4_type_7 rfl rfl ?_
    refine g_icmp_le (tgt := 22) (q := 12) hC dX4_type_9 (by decide) rfl (fun c_9 => ?_) (fun c_9 => ?_)
    · have ok : ¬ (c9 < 97 ∨ 122 < c9) := fun z => z.elim c_3 (Int32.not_lt.mpr c_9)
      have ew : c9 = nI c9.toNatClampNeg := nonneg_nI (Int32.le_trans (by decide) (Int32.not_lt.mp c_3))
      have hw : c9.toNatClampNeg < 128 := by
        have h6 : c9.toNatClampNeg = c9.toInt.toNat := rfl
        have h7 := Int32.le_iff_toInt_le.mp c_9
        have : (122 : Int32).toInt = 122 := by decide
        omega
      generalize hj : c9.toNatClampNeg = w at *
      subst ew
      refine g_aload_n (q := 23) (i := 0) hC dX4_type_22 rfl rfl rfl ?_
      refine g_getf (q := 26) (v := .ref (A 5 6)) hC kg_X4_31 dX4_type_23 (hr.led hW) rfl rfl ?_
      refine g_ci (q := 29) (g_runV hC kv_X4_72 md_J4_length_8abf5 (c_sb_len _ hC.fl M _ (A 5 6) _ _ _ hr.sb) (ci := 7) rfl hr.sb dX4_type_26 (by decide) (by decide) (by omega) (by omega) rfl rfl (Nat.le_of_ble_eq_true rfl)) rfl (fun r σ ⟨e1, e2⟩ => ?_) (fun _ _ h9 => False.elim h9)
      subst e1 e2
      refine g_bipush (q := 31) (v := nI 8) hC dX4_type_29 rfl rfl ?_
      refine g_icmp_lt (tgt := 44) (q := 34) hC dX4_type_31 (by decide) rfl (fun c_31 => ?_) (fun c_31 => ?_)
      · have h8 : ¬ 8 ≤ ρ.1 0 0 := fun z => absurd c_31 (nI_nlt z (by omega))
        refine g_aload_n (q := 45) (i := 0) hC dX4_type_44 rfl rfl rfl ?_
        refine g_getf (q := 48) (v := .ref (A 5 6)) hC kg_X4_31 dX4_type_45 (hr.led hW) rfl rfl ?_
        refine g_iload_n (q := 49) (i := 1) hC dX4_type_48 rfl rfl rfl ?_
        refine g_cr (q := 52) (g_runV hC kv_X4_81 md_J4_append_cf468 (c_sb_app _ hC.fl M _ (A 5 6) _ _ w _ _ hr.sb hr.sv (by omega) hw) (ci := 7) rfl hr.sb dX4_type_49 (by decide) (by decide) (by omega) (by omega) rfl rfl (Nat.le_of_ble_eq_true rfl)) rfl (fun r σ2 ⟨e1, e2⟩ => ?_) (fun _ _ h9 => False.elim h9)
        obtain ⟨⟨W5, h5⟩, hF⟩ := hr.app e2
        have hl5 : σ2 (A 0 0) = some (oB 4 (ledF A (sN (sN ρ 1 (ρ.1 0 0) w) 0 0 (ρ.1 0 0 + 1)))) := h5.1 0 0 (by decide) (by show 0 < ρ.1 11 0; rw [hW.1.1]; decide)
        refine g_pop (q := 53) hC dX4_type_52 rfl rfl ?_
        refine g_aload_n (q := 54) (i := 0) hC dX4_type_53 rfl rfl rfl ?_
        refine g_getf (q := 57) hC kg_X4_31 dX4_type_54 hl5 rfl rfl ?_
        refine g_ci (q := 60) (g_runV hC kv_X4_72 md_J4_length_8abf5 (c_sb_len _ hC.fl M _ (A 5 6) _ _ _ h5.sb) (ci := 7) rfl h5.sb dX4_type_57 (by decide) (by decide) (by omega) (by omega) rfl rfl (Nat.le_of_ble_eq_true rfl)) rfl (fun r σ2 ⟨e3, e4⟩ => ?_) (fun _ _ h9 => False.elim h9)
        subst e3 e4
        exact g_iret hC hR dX4_type_60 (by omega) (by omega) (⟨_, rfl, by rw [lo_type, if_neg ok, if_neg h8, nI_clamp (by omega)]; exact ⟨rfl, rfl, ⟨A, rfl, W5, h5⟩, hF⟩⟩)
      · have h8 : 8 ≤ ρ.1 0 0 := by
          rcases Nat.lt_or_ge (ρ.1 0 0) 8 with z | z
          · exact absurd (nI_lt z (by omega)) c_31
          · exact z
        exact g_throwS hC hR htb (tS (is := 78) (text := "the path has all its letters") (by decide +kernel)) dX4_type_34 dX4_type_37 dX4_type_38 dX4_type_40 dX4_type_43 (by decide) (Nat.le_of_ble_eq_true rfl) (by omega) (by omega) (lX_of (by rw [lo_type, if_neg ok, if_pos h8]) eS_n)
    · exact bad (Or.inr (Int32.not_le.mp c_9))
