/-! ===== the model: what each call answers, refuses and leaves (1) ===== -/
def gd (w z : Int32) (S : gSt) (T : Int32 × gSt) : Int32 × Int32 × gSt := if w = 0 then (0, T.1, T.2) else (w, z, S)
theorem gd0 {w z : Int32} {S : gSt} {T : Int32 × gSt} (h : w = 0) : gd w z S T = (0, T.1, T.2) := if_pos h
theorem gd1 {w z : Int32} {S : gSt} {T : Int32 × gSt} (h : ¬ w = 0) : gd w z S T = (w, z, S) := if_neg h
def mP (M : gMT) (φ : gS) (m : Nat) (ad : Nat → Nat) (T : Int32 × Int32 × gSt) : Int32 → gS → Prop := fun r σ2 => r = T.2.1 ∧ Mod M φ σ2 m ad T.1 T.2.2
theorem rf0 {w : Int32} : (if w = 0 then (0 : Int32) else 1) = 0 ↔ w = 0 := by
  by_cases h : w = 0
  · rw [if_pos h]
    exact ⟨fun _ => h, fun _ => rfl⟩
  · rw [if_neg h]
    exact ⟨fun z => absurd z (by decide), fun z => absurd z h⟩
theorem rf1 {A : Prop} [Decidable A] (h : (0 : Int32) = if A then 1 else 0) : ¬ A := fun a => by
  rw [if_pos a] at h
  exact absurd h (by decide)
theorem rf1' {A : Prop} [Decidable A] (h : (0 : Int32) = if A then 0 else 1) : A := by
  by_cases a : A
  · exact a
  · rw [if_neg a] at h
    exact absurd h (by decide)
theorem rf2 {A B : Prop} [Decidable A] [Decidable B] (h : (0 : Int32) = if A then 1 else if B then 2 else 0) : ¬ A ∧ ¬ B := by
  by_cases a : A
  · rw [if_pos a] at h
    exact absurd h (by decide)
  · by_cases b : B
    · rw [if_neg a, if_pos b] at h
      exact absurd h (by decide)
    · exact ⟨a, b⟩
theorem rf3 {A B C : Prop} [Decidable A] [Decidable B] [Decidable C] (h : (0 : Int32) = if A then 1 else if B then 2 else if C then 3 else 0) : ¬ A ∧ ¬ B ∧ ¬ C := by
  by_cases a : A
  · rw [if_pos a] at h
    exact absurd h (by decide)
  · by_cases b : B
    · rw [if_neg a, if_pos b] at h
      exact absurd h (by decide)
    · by_cases c : C
      · rw [if_neg a, if_neg b, if_pos c] at h
        exact absurd h (by decide)
      · exact ⟨a, b, c⟩
def rf_type (S : gSt) (c : Int32) : Int32 := if c < 97 ∨ 122 < c then 1 else if S.1 0 1 = 8 then 2 else 0
def mo_type (S : gSt) (c : Int32) : Int32 × Int32 × gSt := gd (rf_type S c) 0 S (nI (S.1 0 1 + 1), sN (sI S 1 (S.1 0 1) (vp_nar .char c)) 0 1 (S.1 0 1 + 1))
set_option maxRecDepth 100000 in
set_option maxHeartbeats 4000000 in
theorem c_M_type (l : Launch) (hfl : l.stackTraces = false) (M : gMT) (σ : gS) (φ : gS) (m : Nat) (ad : Nat → Nat) (rf c9 : Int32) (S : gSt) (hM : Mod M φ σ m ad rf S) (hB : SB S) : Con l M yX5_type (.code yX5_type cX5_type 2 (Option.some FieldType.int)) 2 0 0 [.ref m, .int c9] σ (rI (mP M φ m ad (mo_type S c9))) (nX) := by
  refine g_con hfl (by decide) (lv := [(0, .ref m), (1, .int c9)]) rfl rfl (Nat.le_of_ble_eq_true rfl) (fun X hX hC hR htb => ?_)
  have b1 := hB.1
  have join : ∀ w : Int32, w = rf_type S c9 → G X M 2 (gQ X M 0 0 (rI (mP M φ m ad (mo_type S c9))) nX) 0 0 σ 31 [(0, .ref m), (1, .int c9)] [.int w, .ref m] := by
    intro w hw
    refine g_ci (q := 34) (g_runV hC kv_X5_67 md_X5_refused (c_M_refused _ hC.fl M _ φ m ad rf w S hM) (ci := 5) rfl hM.1 dX5_type_31 (by decide) (by decide) (by omega) (by omega) rfl rfl (Nat.le_of_ble_eq_true rfl)) rfl (fun r σ2 ⟨e1, hM2⟩ => ?_) (fun _ _ h9 => False.elim h9)
    subst e1
    refine g_if_eq (tgt := 39) (q := 37) hC dX5_type_34 (by decide) rfl (fun c_34 => ?_) (fun c_34 => ?_)
    · have h0 := rf0.mp c_34
      subst h0
      have h8 : ¬ S.1 0 1 = 8 := (rf2 hw).2
      refine g_aload_n (q := 40) (i := 0) hC dX5_type_39 rfl rfl rfl ?_
      refine g_getf (q := 43) hC kg_X5_7 dX5_type_40 hM2.1 rfl rfl ?_
      refine g_aload_n (q := 44) (i := 0) hC dX5_type_43 rfl rfl rfl ?_
      refine g_getf (q := 47) hC kg_X5_64 dX5_type_44 hM2.1 rfl rfl ?_
      refine g_iload_n (q := 48) (i := 1) hC dX5_type_47 rfl rfl rfl ?_
      refine g_cast (q := 49) hC dX5_type_48 hM2.a1 (vp_in_nI (by omega) (by omega)) rfl ?_
      rw [nI_clamp (by omega)]
      have hM3 := hM2.w1 (S.1 0 1) (vp_nar .char c9)
      have hM4 := hM3.s3 (S.1 0 1 + 1)
      refine g_aload_n (q := 50) (i := 0) hC dX5_type_49 rfl rfl rfl ?_
      refine g_dup (q := 51) hC dX5_type_50 rfl rfl ?_
      refine g_getf (q := 54) hC kg_X5_64 dX5_type_51 hM3.1 rfl rfl ?_
      refine g_iconst (q := 55) (v := nI 1) hC dX5_type_54 rfl rfl ?_
      refine g_iadd (q := 56) (v := (nI ((S.1 0 1) + 1))) hC dX5_type_55 (nI_add _ _) rfl ?_
      refine g_putf (q := 59) hC kf_X5_64 dX5_type_56 hM3.1 (Nat.le_of_ble_eq_true rfl) rfl rfl rfl ?_
      refine g_aload_n (q := 60) (i := 0) hC dX5_type_59 rfl rfl rfl ?_
      refine g_getf (q := 63) hC kg_X5_64 dX5_type_60 hM4.1 rfl rfl ?_
      exact g_iret hC hR dX5_type_63 (by omega) (by omega) (⟨_, rfl, by rw [mo_type, ← hw, gd0 rfl]; exact ⟨rfl, hM4⟩⟩)
    · have h1 : ¬ w = 0 := fun z => c_34 (rf0.mpr z)
      refine g_iconst (q := 38) (v := (0)) hC dX5_type_37 rfl rfl ?_
      exact g_iret hC hR dX5_type_38 (by omega) (by omega) (⟨_, rfl, by rw [mo_type, ← hw, gd1 h1]; exact ⟨rfl, hM2⟩⟩)
  refine g_aload_n (q := 1) (i := 0) hC dX5_type_0 rfl rfl rfl ?_
  refine g_iload_n (q := 2) (i := 1) hC dX5_type_1 rfl rfl rfl ?_
  refine g_bipush (q := 4) (v := (97)) hC dX5_type_2 rfl rfl ?_
  refine g_icmp_lt (tgt := 13) (q := 7) hC dX5_type_4 (by decide) rfl (fun c_4 => ?_) (fun c_4 => ?_)
  · refine g_iconst (q := 14) (v := (1)) hC dX5_type_13 rfl rfl ?_
    refine g_goto (tgt := 31) hC dX5_type_14 (by decide) ?_
    exact join 1 (by rw [rf_type, if_pos (Or.inl c_4)])
  · refine g_iload_n (q := 8) (i := 1) hC dX5_type_7 rfl rfl rfl ?_
    refine g_bipush (q := 10) (v := (122)) hC dX5_type_8 rfl rfl ?_
    refine g_icmp_le (tgt := 17) (q := 13) hC dX5_type_10 (by decide) rfl (fun c_10 => ?_) (fun c_10 => ?_)
    · have e1 : ¬ (c9 < 97 ∨ 122 < c9) := fun z => z.elim c_4 (Int32.not_lt.mpr c_10)
      refine g_aload_n (q := 18) (i := 0) hC dX5_type_17 rfl rfl rfl ?_
      refine g_getf (q := 21) hC kg_X5_64 dX5_type_18 hM.1 rfl rfl ?_
      refine g_bipush (q := 23) (v := nI 8) hC dX5_type_21 rfl rfl ?_
      refine g_icmp_ne (tgt := 30) (q := 26) hC dX5_type_23 (by decide) rfl (fun c_23 => ?_) (fun c_23 => ?_)
      · refine g_iconst (q := 31) (v := (0)) hC dX5_type_30 rfl rfl ?_
        exact join 0 (by rw [rf_type, if_neg e1, if_neg (fun z => c_23 (by rw [z]))])
      · refine g_iconst (q := 27) (v := (2)) hC dX5_type_26 rfl rfl ?_
        refine g_goto (tgt := 31) hC dX5_type_27 (by decide) ?_
        exact join 2 (by rw [rf_type, if_neg e1, if_pos ((nI_eq (by omega) (by omega)).mp c_23)])
    · refine g_iconst (q := 14) (v := (1)) hC dX5_type_13 rfl rfl ?_
      refine g_goto (tgt := 31) hC dX5_type_14 (by decide) ?_
      exact join 1 (by rw [rf_type, if_pos (Or.inr (Int32.not_le.mp c_10))])
def rf_back (S : gSt) : Int32 := if S.1 0 1 = 0 then 1 else 0
def mo_back (S : gSt) : Int32 × Int32 × gSt := gd (rf_back S) 0 S (nI (S.1 0 1 - 1), sN S 0 1 (S.1 0 1 - 1))
set_option maxRecDepth 100000 in
set_option maxHeartbeats 4000000 in
theorem c_M_back (l : Launch) (hfl : l.stackTraces = false) (M : gMT) (σ : gS) (φ : gS) (m : Nat) (ad : Nat → Nat) (rf : Int32) (S : gSt) (hM : Mod M φ σ m ad rf S) (hB : SB S) : Con l M yX5_back (.code yX5_back cX5_back 1 (Option.some FieldType.int)) 2 0 0 [.ref m] σ (rI (mP M φ m ad (mo_back S))) (nX) := by
  refine g_con hfl (by decide) (lv := [(0, .ref m)]) rfl rfl (Nat.le_of_ble_eq_true rfl) (fun X hX hC hR htb => ?_)
  have b1 := hB.1
  have join : ∀ w : Int32, w = rf_back S → G X M 1 (gQ X M 0 0 (rI (mP M φ m ad (mo_back S))) nX) 0 0 σ 13 [(0, .ref m)] [.int w, .ref m] := by
    intro w hw
    refine g_ci (q := 16) (g_runV hC kv_X5_67 md_X5_refused (c_M_refused _ hC.fl M _ φ m ad rf w S hM) (ci := 5) rfl hM.1 dX5_back_13 (by decide) (by decide) (by omega) (by omega) rfl rfl (Nat.le_of_ble_eq_true rfl)) rfl (fun r σ2 ⟨e1, hM2⟩ => ?_) (fun _ _ h9 => False.elim h9)
    subst e1
    refine g_if_eq (tgt := 21) (q := 19) hC dX5_back_16 (by decide) rfl (fun c_16 => ?_) (fun c_16 => ?_)
    · have h0 := rf0.mp c_16
      subst h0
      have h8 : ¬ S.1 0 1 = 0 := rf1 hw
      have hM4 := hM2.s3 (S.1 0 1 - 1)
      refine g_aload_n (q := 22) (i := 0) hC dX5_back_21 rfl rfl rfl ?_
      refine g_dup (q := 23) hC dX5_back_22 rfl rfl ?_
      refine g_getf (q := 26) hC kg_X5_64 dX5_back_23 hM2.1 rfl rfl ?_
      refine g_iconst (q := 27) (v := nI 1) hC dX5_back_26 rfl rfl ?_
      refine g_isub (q := 28) (v := (nI ((S.1 0 1) - 1))) hC dX5_back_27 (pk_sub (by omega)) rfl ?_
      refine g_putf (q := 31) hC kf_X5_64 dX5_back_28 hM2.1 (Nat.le_of_ble_eq_true rfl) rfl rfl rfl ?_
      refine g_aload_n (q := 32) (i := 0) hC dX5_back_31 rfl rfl rfl ?_
      refine g_getf (q := 35) hC kg_X5_64 dX5_back_32 hM4.1 rfl rfl ?_
      exact g_iret hC hR dX5_back_35 (by omega) (by omega) (⟨_, rfl, by rw [mo_back, ← hw, gd0 rfl]; exact ⟨rfl, hM4⟩⟩)
    · have h1 : ¬ w = 0 := fun z => c_16 (rf0.mpr z)
      refine g_iconst (q := 20) (v := (0)) hC dX5_back_19 rfl rfl ?_
      exact g_iret hC hR dX5_back_20 (by omega) (by omega) (⟨_, rfl, by rw [mo_back, ← hw, gd1 h1]; exact ⟨rfl, hM2⟩⟩)
  refine g_aload_n (q := 1) (i := 0) hC dX5_back_0 rfl rfl rfl ?_
  refine g_aload_n (q := 2) (i := 0) hC dX5_back_1 rfl rfl rfl ?_
  refine g_getf (q := 5) hC kg_X5_64 dX5_back_2 hM.1 rfl rfl ?_
  refine g_if_ne (tgt := 12) (q := 8) hC dX5_back_5 (by decide) rfl (fun c_5 => ?_) (fun c_5 => ?_)
  · refine g_iconst (q := 13) (v := (0)) hC dX5_back_12 rfl rfl ?_
    exact join 0 (by rw [rf_back, if_neg (fun z => c_5 (by rw [z]; rfl))])
  · refine g_iconst (q := 9) (v := (1)) hC dX5_back_8 rfl rfl ?_
    refine g_goto (tgt := 13) hC dX5_back_9 (by decide) ?_
    exact join 1 (by rw [rf_back, if_pos ((nI_eq (b := 0) (by omega) (by omega)).mp c_5)])
def mo_clearPath (S : gSt) : Int32 × Int32 × gSt := (0, nI (S.1 0 1), sN S 0 1 0)
set_option maxRecDepth 100000 in
set_option maxHeartbeats 4000000 in
theorem c_M_clearPath (l : Launch) (hfl : l.stackTraces = false) (M : gMT) (σ : gS) (φ : gS) (m : Nat) (ad : Nat → Nat) (rf : Int32) (S : gSt) (hM : Mod M φ σ m ad rf S) : Con l M yX5_clearPath (.code yX5_clearPath cX5_clearPath 2 (Option.some FieldType.int)) 2 0 0 [.ref m] σ (rI (mP M φ m ad (mo_clearPath S))) (nX) := by
  refine g_con hfl (by decide) (lv := [(0, .ref m)]) rfl rfl (Nat.le_of_ble_eq_true rfl) (fun X hX hC hR htb => ?_)
  have hM2 := hM.s3 0
  refine g_aload_n (q := 1) (i := 0) hC dX5_clearPath_0 rfl rfl rfl ?_
  refine g_getf (q := 4) hC kg_X5_64 dX5_clearPath_1 hM.1 rfl rfl ?_
  refine g_istore_n (q := 5) (i := 1) hC dX5_clearPath_4 rfl (by decide) rfl ?_
  refine g_aload_n (q := 6) (i := 0) hC dX5_clearPath_5 rfl rfl rfl ?_
  refine g_iconst (q := 7) (v := nI 0) hC dX5_clearPath_6 rfl rfl ?_
  refine g_putf (q := 10) hC kf_X5_64 dX5_clearPath_7 hM.1 (Nat.le_of_ble_eq_true rfl) rfl rfl rfl ?_
  refine g_aload_n (q := 11) (i := 0) hC dX5_clearPath_10 rfl rfl rfl ?_
  refine g_iload_n (q := 12) (i := 1) hC dX5_clearPath_11 rfl rfl rfl ?_
  refine g_ci (q := 15) (g_runV hC kv_X5_71 md_X5_fine (c_M_fine _ hC.fl M _ φ m ad rf (nI (S.1 0 1)) (sN S 0 1 0) hM2) (ci := 5) rfl hM2.1 dX5_clearPath_12 (by decide) (by decide) (by omega) (by omega) rfl rfl (Nat.le_of_ble_eq_true rfl)) rfl (fun r σ3 ⟨e1, hM3⟩ => ?_) (fun _ _ h9 => False.elim h9)
  subst e1
  exact g_iret hC hR dX5_clearPath_15 (by omega) (by omega) (⟨_, rfl, rfl, hM3⟩)
def mo_findProject (S : gSt) : Int32 × Int32 × gSt := (0, oI (fnd S (S.1 0 1)), S)
set_option maxRecDepth 100000 in
set_option maxHeartbeats 4000000 in
theorem c_M_findProject (l : Launch) (hfl : l.stackTraces = false) (M : gMT) (σ : gS) (φ : gS) (m : Nat) (ad : Nat → Nat) (rf : Int32) (S : gSt) (hM : Mod M φ σ m ad rf S) (hB : SB S) : Con l M yX5_findProject (.code yX5_findProject cX5_findProject 1 (Option.some FieldType.int)) 2 0 0 [.ref m] σ (rI (mP M φ m ad (mo_findProject S))) (nX) := by
  refine g_con hfl (by decide) (lv := [(0, .ref m)]) rfl rfl (Nat.le_of_ble_eq_true rfl) (fun X hX hC hR htb => ?_)
  refine g_aload_n (q := 1) (i := 0) hC dX5_findProject_0 rfl rfl rfl ?_
  refine g_aload_n (q := 2) (i := 0) hC dX5_findProject_1 rfl rfl rfl ?_
  refine g_aload_n (q := 3) (i := 0) hC dX5_findProject_2 rfl rfl rfl ?_
  refine g_getf (q := 6) hC kg_X5_64 dX5_findProject_3 hM.1 rfl rfl ?_
  refine g_ci (q := 9) (g_runV hC kv_X5_75 md_X5_find (c_M_find _ hC.fl M _ φ m (S.1 0 1) ad rf S hM hB hB.1) (ci := 5) rfl hM.1 dX5_findProject_6 (by decide) (by decide) (by omega) (by omega) rfl rfl (Nat.le_of_ble_eq_true rfl)) rfl (fun r σ ⟨e1, e2⟩ => ?_) (fun _ _ h9 => False.elim h9)
  subst e1 e2
  refine g_ci (q := 12) (g_runV hC kv_X5_71 md_X5_fine (c_M_fine _ hC.fl M _ φ m ad rf (oI (fnd S (S.1 0 1))) S hM) (ci := 5) rfl hM.1 dX5_findProject_9 (by decide) (by decide) (by omega) (by omega) rfl rfl (Nat.le_of_ble_eq_true rfl)) rfl (fun r σ3 ⟨e1, hM3⟩ => ?_) (fun _ _ h9 => False.elim h9)
  subst e1
  exact g_iret hC hR dX5_findProject_12 (by omega) (by omega) (⟨_, rfl, rfl, hM3⟩)
def mo_projects (S : gSt) : Int32 × Int32 × gSt := (0, nI (S.1 0 2), S)
set_option maxRecDepth 100000 in
set_option maxHeartbeats 4000000 in
theorem c_M_projects (l : Launch) (hfl : l.stackTraces = false) (M : gMT) (σ : gS) (φ : gS) (m : Nat) (ad : Nat → Nat) (rf : Int32) (S : gSt) (hM : Mod M φ σ m ad rf S) : Con l M yX5_projects (.code yX5_projects cX5_projects 1 (Option.some FieldType.int)) 2 0 0 [.ref m] σ (rI (mP M φ m ad (mo_projects S))) (nX) := by
  refine g_con hfl (by decide) (lv := [(0, .ref m)]) rfl rfl (Nat.le_of_ble_eq_true rfl) (fun X hX hC hR htb => ?_)
  refine g_aload_n (q := 1) (i := 0) hC dX5_projects_0 rfl rfl rfl ?_
  refine g_aload_n (q := 2) (i := 0) hC dX5_projects_1 rfl rfl rfl ?_
  refine g_getf (q := 5) hC kg_X5_16 dX5_projects_2 hM.1 rfl rfl ?_
  refine g_ci (q := 8) (g_runV hC kv_X5_71 md_X5_fine (c_M_fine _ hC.fl M _ φ m ad rf (nI (S.1 0 2)) S hM) (ci := 5) rfl hM.1 dX5_projects_5 (by decide) (by decide) (by omega) (by omega) rfl rfl (Nat.le_of_ble_eq_true rfl)) rfl (fun r σ3 ⟨e1, hM3⟩ => ?_) (fun _ _ h9 => False.elim h9)
  subst e1
  exact g_iret hC hR dX5_projects_8 (by omega) (by omega) (⟨_, rfl, rfl, hM3⟩)
def rf_letterAt (S : gSt) (x pl : Int32) : Int32 := if (isP S x && decide (0 ≤ pl)) = true then 0 else 1
def mo_letterAt (S : gSt) (x pl : Int32) : Int32 × Int32 × gSt := gd (rf_letterAt S x pl) 32 S ((if pl < nI (S.1 4 x.toNatClampNeg) then S.2.1 3 (8 * x.toNatClampNeg + pl.toNatClampNeg) else 32), S)
/-- every letter kept is a char -/
def nC (S : gSt) : Prop := ∀ c i, vp_nar .char (S.2.1 c i) = S.2.1 c i ∨ (c ≠ 1 ∧ c ≠ 2 ∧ c ≠ 3)
theorem nar_char {x : Int32} (h : vp_nar .char x = x) : narrow .char (.int x) = .int x := by
  have e : ∃ y, narrow .char (.int x) = .int y := ⟨_, rfl⟩
  obtain ⟨y, hy⟩ := e
  unfold vp_nar at h
  rw [hy] at h
  rw [hy]
  exact congrArg _ h
theorem isP_nI {S : gSt} (hB : SB S) {x : Int32} (h : isP S x = true) : ∃ p, p < S.1 0 2 ∧ x = nI p := by
  have b2 := hB.2.1
  obtain ⟨h1, h2⟩ := Bool.and_eq_true_iff.mp h
  have h1 := of_decide_eq_true h1
  have h2 := of_decide_eq_true h2
  have e := nonneg_nI h1
  refine ⟨x.toNatClampNeg, ?_, e⟩
  by_cases z : S.1 0 2 = 0
  · rw [z] at h2
    rw [Int32.le_iff_toInt_le] at h1 h2
    exfalso
    have : (nI 0 - 1).toInt = -1 := by decide
    have : (0 : Int32).toInt = 0 := by decide
    omega
  · have h2 : x ≤ nI (S.1 0 2) - nI 1 := h2
    rw [pk_sub (b := 1) (by omega)] at h2
    have h3 : x.toNatClampNeg ≤ S.1 0 2 - 1 := by
      have h4 := Int32.le_iff_toInt_le.mp h2
      have h5 := Int32.le_iff_toInt_le.mp h1
      rw [nI_toInt (by omega)] at h4
      have : (0 : Int32).toInt = 0 := by decide
      have h6 : x.toNatClampNeg = x.toInt.toNat := rfl
      omega
    omega
set_option maxRecDepth 100000 in
set_option maxHeartbeats 4000000 in
theorem c_M_letterAt (l : Launch) (hfl : l.stackTraces = false) (M : gMT) (σ : gS) (φ : gS) (m : Nat) (ad : Nat → Nat) (rf x pl : Int32) (S : gSt) (hM : Mod M φ σ m ad rf S) (hB : SB S) (hN : nC S) : Con l M yX5_letterAt (.code yX5_letterAt cX5_letterAt 3 (Option.some FieldType.char)) 3 0 0 [.ref m, .int x, .int pl] σ (rI (mP M φ m ad (mo_letterAt S x pl))) (nX) := by
  refine g_con hfl (by decide) (lv := [(0, .ref m), (1, .int x), (2, .int pl)]) rfl rfl (Nat.le_of_ble_eq_true rfl) (fun X hX hC hR htb => ?_)
  have b2 := hB.2.1
  have join : ∀ w : Int32, w = rf_letterAt S x pl → G X M 3 (gQ X M 0 0 (rI (mP M φ m ad (mo_letterAt S x pl))) nX) 0 0 σ 18 [(0, .ref m), (1, .int x), (2, .int pl)] [.int w, .ref m] := by
    intro w hw
    refine g_ci (q := 21) (g_runV hC kv_X5_67 md_X5_refused (c_M_refused _ hC.fl M _ φ m ad rf w S hM) (ci := 5) rfl hM.1 dX5_letterAt_18 (by decide) (by decide) (by omega) (by omega) rfl rfl (Nat.le_of_ble_eq_true rfl)) rfl (fun r σ2 ⟨e1, hM2⟩ => ?_) (fun _ _ h9 => False.elim h9)
    subst e1
    refine g_if_eq (tgt := 27) (q := 24) hC dX5_letterAt_21 (by decide) rfl (fun c_21 => ?_) (fun c_21 => ?_)
    · have h0 := rf0.mp c_21
      subst h0
      have h8 : (isP S x && decide (0 ≤ pl)) = true := rf1' hw
      obtain ⟨h9, h7⟩ := Bool.and_eq_true_iff.mp h8
      obtain ⟨p, hp, e⟩ := isP_nI hB h9
      have e2 := nonneg_nI (of_decide_eq_true h7)
      have hl := hB.2.2.2.2.2.1 p hp
      subst e
      rw [e2] at hw ⊢
      generalize hj : pl.toNatClampNeg = j at *
      have hj9 : j < 2 ^ 31 := by
        subst hj
        exact Int32.toNatClampNeg_lt _
      refine g_iload_n (q := 28) (i := 2) hC dX5_letterAt_27 rfl rfl rfl ?_
      refine g_aload_n (q := 29) (i := 0) hC dX5_letterAt_28 rfl rfl rfl ?_
      refine g_getf (q := 32) hC kg_X5_23 dX5_letterAt_29 hM2.1 rfl rfl ?_
      refine g_iload_n (q := 33) (i := 1) hC dX5_letterAt_32 rfl rfl rfl ?_
      refine g_iald (q := 34) (v := nI (S.1 4 p)) hC dX5_letterAt_33 hM2.a4 (vp_in_nI (by omega) (by omega)) (by rw [nI_clamp (by omega)]) rfl ?_
      refine g_icmp_ge (tgt := 51) (q := 37) hC dX5_letterAt_34 (by decide) rfl (fun c_34 => ?_) (fun c_34 => ?_)
      · refine g_bipush (q := 53) (v := (32)) hC dX5_letterAt_51 rfl rfl ?_
        exact g_zret hC hR (rfl) dX5_letterAt_53 (by omega) (by omega) (⟨_, rfl, by rw [mo_letterAt, ← hw, gd0 rfl, if_neg (by rw [nI_clamp (by omega)]; exact Int32.not_lt.mpr c_34)]; exact ⟨rfl, hM2⟩⟩)
      · have hl2 : j < S.1 4 p := (nI_ltI hj9 (by omega)).mp (Int32.not_le.mp c_34)
        refine g_aload_n (q := 38) (i := 0) hC dX5_letterAt_37 rfl rfl rfl ?_
        refine g_getf (q := 41) hC kg_X5_20 dX5_letterAt_38 hM2.1 rfl rfl ?_
        refine g_bipush (q := 43) (v := nI 8) hC dX5_letterAt_41 rfl rfl ?_
        refine g_iload_n (q := 44) (i := 1) hC dX5_letterAt_43 rfl rfl rfl ?_
        refine g_imul (q := 45) (v := (nI (8 * p))) hC dX5_letterAt_44 (pk_mul _ _) rfl ?_
        refine g_iload_n (q := 46) (i := 2) hC dX5_letterAt_45 rfl rfl rfl ?_
        refine g_iadd (q := 47) (v := (nI ((8 * p) + j))) hC dX5_letterAt_46 (nI_add _ _) rfl ?_
        refine g_cald (q := 48) (v := S.2.1 3 ((8 * p) + j)) hC dX5_letterAt_47 hM2.a3 (vp_in_nI (by omega) (by omega)) (by rw [nI_clamp (by omega)]) rfl ?_
        refine g_goto (tgt := 53) hC dX5_letterAt_48 (by decide) ?_
        exact g_zret hC hR ((nar_char ((hN 3 _).resolve_right (fun z => z.2.2 rfl)))) dX5_letterAt_53 (by omega) (by omega) (⟨_, rfl, by rw [mo_letterAt, ← hw, gd0 rfl, nI_clamp (by omega), nI_clamp (by omega), if_pos (Int32.not_le.mp c_34)]; exact ⟨rfl, hM2⟩⟩)
    · have h1 : ¬ w = 0 := fun z => c_21 (rf0.mpr z)
      refine g_bipush (q := 26) (v := (32)) hC dX5_letterAt_24 rfl rfl ?_
      exact g_zret hC hR (rfl) dX5_letterAt_26 (by omega) (by omega) (⟨_, rfl, by rw [mo_letterAt, ← hw, gd1 h1]; exact ⟨rfl, hM2⟩⟩)
  refine g_aload_n (q := 1) (i := 0) hC dX5_letterAt_0 rfl rfl rfl ?_
  refine g_aload_n (q := 2) (i := 0) hC dX5_letterAt_1 rfl rfl rfl ?_
  refine g_iload_n (q := 3) (i := 1) hC dX5_letterAt_2 rfl rfl rfl ?_
  refine g_ci (q := 6) (g_runV hC kv_X5_93 md_X5_isProject (c_M_isProject _ hC.fl M _ φ m ad rf x S hM) (ci := 5) rfl hM.1 dX5_letterAt_3 (by decide) (by decide) (by omega) (by omega) rfl rfl (Nat.le_of_ble_eq_true rfl)) rfl (fun r σ ⟨e1, e2⟩ => ?_) (fun _ _ h9 => False.elim h9)
  subst e1 e2
  refine g_if_eq (tgt := 17) (q := 9) hC dX5_letterAt_6 (by decide) rfl (fun c_6 => ?_) (fun c_6 => ?_)
  · have e1 : isP S x = false := bI_0.mp c_6
    refine g_iconst (q := 18) (v := (1)) hC dX5_letterAt_17 rfl rfl ?_
    exact join 1 (by rw [rf_letterAt, e1]; rfl)
  · have e1 : isP S x = true := bI_n.mp c_6
    refine g_iload_n (q := 10) (i := 2) hC dX5_letterAt_9 rfl rfl rfl ?_
    refine g_if_lt (tgt := 17) (q := 13) hC dX5_letterAt_10 (by decide) rfl (fun c_10 => ?_) (fun c_10 => ?_)
    · refine g_iconst (q := 18) (v := (1)) hC dX5_letterAt_17 rfl rfl ?_
      exact join 1 (by rw [rf_letterAt, e1, decide_eq_false (Int32.not_le.mpr c_10)]; rfl)
    · refine g_iconst (q := 14) (v := (0)) hC dX5_letterAt_13 rfl rfl ?_
      refine g_goto (tgt := 18) hC dX5_letterAt_14 (by decide) ?_
      exact join 0 (by rw [rf_letterAt, e1, decide_eq_true (Int32.not_lt.mp c_10)]; rfl)
