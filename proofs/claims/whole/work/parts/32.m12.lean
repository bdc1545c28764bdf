/-! ===== the model: projects made and moved ===== -/
/-- n places of column c from base on laid anew -/
def cpy (S : gSt) (c base n : Nat) (g : Nat → Int32) : gSt := colI S c (fun i => if base ≤ i ∧ i < base + n then g (i - base) else S.2.1 c i)
theorem cpy_0 (S : gSt) (c base : Nat) (g : Nat → Int32) : cpy S c base 0 g = S := by
  have e : (fun c' i => if c' = c then (if base ≤ i ∧ i < base + 0 then g (i - base) else S.2.1 c i) else S.2.1 c' i) = S.2.1 := by
    funext c' i
    by_cases h : c' = c
    · subst h
      rw [if_pos rfl, if_neg (by omega)]
    · rw [if_neg h]
  unfold cpy colI
  rw [e]
theorem cpy_s (S : gSt) (c base n : Nat) (g : Nat → Int32) : sI (cpy S c base n g) c (base + n) (g n) = cpy S c base (n + 1) g := by
  have e : up2 (cpy S c base n g).2.1 c (base + n) (g n) = (cpy S c base (n + 1) g).2.1 := by
    funext c' i
    unfold cpy colI up2
    dsimp only
    by_cases h : c' = c
    · subst h
      rw [if_pos rfl, if_pos rfl]
      by_cases hi : i = base + n
      · subst hi
        rw [if_pos ⟨rfl, rfl⟩, if_pos (by omega), Nat.add_sub_cancel_left]
      · rw [if_neg (fun z => hi z.2)]
        by_cases hl : base ≤ i ∧ i < base + n
        · rw [if_pos hl, if_pos (by omega)]
        · rw [if_neg hl, if_neg (by omega)]
    · rw [if_neg (fun z => h z.1), if_neg h, if_neg h]
  unfold sI
  rw [e]
  rfl
theorem cpy_col (S : gSt) {c c' : Nat} (base n : Nat) (g : Nat → Int32) (h : c' ≠ c) : (cpy S c base n g).2.1 c' = S.2.1 c' := (eqX_col S c _).2.2 c' h
def fndM (S : gSt) : Option Nat := if S.1 0 1 = 0 then none else fnd S (S.1 0 1 - 1)
def rf_makeProject (S : gSt) : Int32 := if fnd S (S.1 0 1) ≠ none ∨ fndM S = none ∨ S.1 0 2 = 21 then 1 else 0
def mkC (S : gSt) (k : Nat) : gSt := cpy S 3 (8 * S.1 0 2) k (fun j => vp_nar .char (S.2.1 1 j))
def mkS (S : gSt) : gSt := sN (sN (mkC S (S.1 0 1)) 4 (S.1 0 2) (S.1 0 1)) 0 2 (S.1 0 2 + 1)
def mo_makeProject (S : gSt) : Int32 × Int32 × gSt := gd (rf_makeProject S) 0 S (nI (S.1 0 2), mkS S)
theorem fnd_lt {S : gSt} {n p : Nat} (h : fnd S n = some p) : p < S.1 0 2 := (lastP_some h).1
theorem fnd_n {S : gSt} (hB : SB S) {n : Nat} : oI (fnd S n) = -1 ↔ fnd S n = none := oI_none (fun a h => by
  have := fnd_lt h
  have := hB.2.1
  omega)
set_option maxRecDepth 100000 in
set_option maxHeartbeats 4000000 in
theorem c_M_makeProject (l : Launch) (hfl : l.stackTraces = false) (M : gMT) (σ : gS) (φ : gS) (m : Nat) (ad : Nat → Nat) (rf : Int32) (S : gSt) (hM : Mod M φ σ m ad rf S) (hB : SB S) : Con l M yX5_makeProject (.code yX5_makeProject cX5_makeProject 2 (Option.some FieldType.int)) 2 0 0 [.ref m] σ (rI (mP M φ m ad (mo_makeProject S))) (nX) := by
  refine g_con hfl (by decide) (lv := [(0, .ref m)]) rfl rfl (Nat.le_of_ble_eq_true rfl) (fun X hX hC hR htb => ?_)
  have b1 := hB.1
  have b2 := hB.2.1
  have join : ∀ w : Int32, w = rf_makeProject S → G X M 2 (gQ X M 0 0 (rI (mP M φ m ad (mo_makeProject S))) nX) 0 0 σ 41 [(0, .ref m)] [.int w, .ref m] := by
    intro w hw
    refine g_ci (q := 44) (g_runV hC kv_X5_67 md_X5_refused (c_M_refused _ hC.fl M _ φ m ad rf w S hM) (ci := 5) rfl hM.1 dX5_makeProject_41 (by decide) (by decide) (by omega) (by omega) rfl rfl (Nat.le_of_ble_eq_true rfl)) rfl (fun r σ2 ⟨e1, hM2⟩ => ?_) (fun _ _ h9 => False.elim h9)
    subst e1
    refine g_if_eq (tgt := 49) (q := 47) hC dX5_makeProject_44 (by decide) rfl (fun c_44 => ?_) (fun c_44 => ?_)
    · have h0 := rf0.mp c_44
      subst h0
      have h8 := rf1 hw
      have h7 : ¬ S.1 0 2 = 21 := fun z => h8 (Or.inr (Or.inr z))
      have eT : mo_makeProject S = (0, nI (S.1 0 2), mkS S) := by
        rw [mo_makeProject, ← hw, gd0 rfl]
      rw [eT]
      clear eT hw
      have loop : ∀ (d9 i : Nat) (σ3 : gS), i + d9 = S.1 0 1 → Mod M φ σ3 m ad 0 (mkC S i) → G X M 2 (gQ X M 0 0 (rI (mP M φ m ad (0, nI (S.1 0 2), mkS S))) nX) 0 0 σ3 51 [(1, .int (nI i)), (0, .ref m)] [] := by
        intro d9
        induction d9 with
        | zero =>
          intro i σ3 h1 hM3
          have hM4 : Mod M φ σ3 m ad 0 (mkC S (S.1 0 1)) := by
            rw [show i = S.1 0 1 by omega] at hM3
            exact hM3
          refine g_iload_n (q := 52) (i := 1) hC dX5_makeProject_51 rfl rfl rfl ?_
          refine g_aload_n (q := 53) (i := 0) hC dX5_makeProject_52 rfl rfl rfl ?_
          refine g_getf (q := 56) (v := .int (nI (S.1 0 1))) hC kg_X5_64 dX5_makeProject_53 hM4.1 rfl rfl ?_
          refine g_icmp_ge (tgt := 85) (q := 59) hC dX5_makeProject_56 (by decide) rfl (fun c_56 => ?_) (fun c_56 => ?_)
          · have hM5 := hM4.w4 (S.1 0 2) (S.1 0 1)
            have hM6 := hM5.s5 (S.1 0 2 + 1)
            refine g_aload_n (q := 86) (i := 0) hC dX5_makeProject_85 rfl rfl rfl ?_
            refine g_getf (q := 89) hC kg_X5_23 dX5_makeProject_86 hM4.1 rfl rfl ?_
            refine g_aload_n (q := 90) (i := 0) hC dX5_makeProject_89 rfl rfl rfl ?_
            refine g_getf (q := 93) (v := .int (nI (S.1 0 2))) hC kg_X5_16 dX5_makeProject_90 hM4.1 rfl rfl ?_
            refine g_aload_n (q := 94) (i := 0) hC dX5_makeProject_93 rfl rfl rfl ?_
            refine g_getf (q := 97) (v := .int (nI (S.1 0 1))) hC kg_X5_64 dX5_makeProject_94 hM4.1 rfl rfl ?_
            refine g_iast (q := 98) hC dX5_makeProject_97 hM4.a4 (vp_in_nI (by omega) (by omega)) rfl ?_
            rw [nI_clamp (by omega)]
            refine g_aload_n (q := 99) (i := 0) hC dX5_makeProject_98 rfl rfl rfl ?_
            refine g_dup (q := 100) hC dX5_makeProject_99 rfl rfl ?_
            refine g_getf (q := 103) (v := .int (nI (S.1 0 2))) hC kg_X5_16 dX5_makeProject_100 hM5.1 rfl rfl ?_
            refine g_iconst (q := 104) (v := nI 1) hC dX5_makeProject_103 rfl rfl ?_
            refine g_iadd (q := 105) (v := (nI ((S.1 0 2) + 1))) hC dX5_makeProject_104 (nI_add _ _) rfl ?_
            refine g_putf (q := 108) hC kf_X5_16 dX5_makeProject_105 hM5.1 (Nat.le_of_ble_eq_true rfl) rfl rfl rfl ?_
            refine g_aload_n (q := 109) (i := 0) hC dX5_makeProject_108 rfl rfl rfl ?_
            refine g_getf (q := 112) (v := .int (nI ((mkS S).1 0 2))) hC kg_X5_16 dX5_makeProject_109 hM6.1 rfl rfl ?_
            refine g_iconst (q := 113) (v := nI 1) hC dX5_makeProject_112 rfl rfl ?_
            refine g_isub (q := 114) (v := (nI (((mkS S).1 0 2) - 1))) hC dX5_makeProject_113 (pk_sub (Nat.le_add_left _ _)) rfl ?_
            exact g_iret hC hR dX5_makeProject_114 (by omega) (by omega) (⟨_, rfl, ⟨rfl, hM6⟩⟩)
          · exact absurd (nI_le (by omega) (by omega)) c_56
        | succ d9 ih =>
          intro i σ3 h1 hM3
          have e9 : (mkC S i).2.1 1 = S.2.1 1 := cpy_col S _ _ _ (by decide)
          refine g_iload_n (q := 52) (i := 1) hC dX5_makeProject_51 rfl rfl rfl ?_
          refine g_aload_n (q := 53) (i := 0) hC dX5_makeProject_52 rfl rfl rfl ?_
          refine g_getf (q := 56) (v := .int (nI (S.1 0 1))) hC kg_X5_64 dX5_makeProject_53 hM3.1 rfl rfl ?_
          refine g_icmp_ge (tgt := 85) (q := 59) hC dX5_makeProject_56 (by decide) rfl (fun c_56 => ?_) (fun c_56 => ?_)
          · exact absurd c_56 (nI_ge (by omega) (by omega))
          · refine g_aload_n (q := 60) (i := 0) hC dX5_makeProject_59 rfl rfl rfl ?_
            refine g_getf (q := 63) hC kg_X5_20 dX5_makeProject_60 hM3.1 rfl rfl ?_
            refine g_bipush (q := 65) (v := nI 8) hC dX5_makeProject_63 rfl rfl ?_
            refine g_aload_n (q := 66) (i := 0) hC dX5_makeProject_65 rfl rfl rfl ?_
            refine g_getf (q := 69) (v := .int (nI (S.1 0 2))) hC kg_X5_16 dX5_makeProject_66 hM3.1 rfl rfl ?_
            refine g_imul (q := 70) (v := (nI (8 * (S.1 0 2)))) hC dX5_makeProject_69 (pk_mul _ _) rfl ?_
            refine g_iload_n (q := 71) (i := 1) hC dX5_makeProject_70 rfl rfl rfl ?_
            refine g_iadd (q := 72) (v := (nI ((8 * (S.1 0 2)) + i))) hC dX5_makeProject_71 (nI_add _ _) rfl ?_
            refine g_aload_n (q := 73) (i := 0) hC dX5_makeProject_72 rfl rfl rfl ?_
            refine g_getf (q := 76) hC kg_X5_7 dX5_makeProject_73 hM3.1 rfl rfl ?_
            refine g_iload_n (q := 77) (i := 1) hC dX5_makeProject_76 rfl rfl rfl ?_
            refine g_cald (q := 78) (v := (mkC S i).2.1 1 i) hC dX5_makeProject_77 hM3.a1 (vp_in_nI (by omega) (by omega)) (by rw [nI_clamp (by omega)] <;> rfl) rfl ?_
            refine g_cast (q := 79) hC dX5_makeProject_78 hM3.a3 (vp_in_nI (by omega) (by omega)) rfl ?_
            rw [nI_clamp (by omega), e9]
            have hM4 := hM3.w3 (8 * S.1 0 2 + i) (vp_nar .char (S.2.1 1 i))
            have e8 : sI (mkC S i) 3 (8 * S.1 0 2 + i) (vp_nar .char (S.2.1 1 i)) = mkC S (i + 1) := cpy_s S 3 _ _ (fun j => vp_nar .char (S.2.1 1 j))
            rw [e8] at hM4
            refine g_iinc (q := 82) (i := 1) (v := (nI (i + 1))) hC dX5_makeProject_79 rfl (nI_1 _) rfl ?_
            refine g_goto (tgt := 51) hC dX5_makeProject_82 (by decide) ?_
            refine g_sub (lv0 := [(1, .int (nI (i + 1))), (0, .ref m)]) ⟨rfl, rfl, trivial⟩ ?_
            exact ih (i + 1) _ (by omega) hM4
      refine g_iconst (q := 50) (v := nI 0) hC dX5_makeProject_49 rfl rfl ?_
      refine g_istore_n (q := 51) (i := 1) hC dX5_makeProject_50 rfl (by decide) rfl ?_
      refine g_sub (lv0 := [(1, .int (nI 0)), (0, .ref m)]) ⟨rfl, rfl, trivial⟩ ?_
      exact loop (S.1 0 1) 0 _ (by omega) (by rw [mkC, cpy_0]; exact hM2)
    · have h1 : ¬ w = 0 := fun z => c_44 (rf0.mpr z)
      refine g_iconst (q := 48) (v := (0)) hC dX5_makeProject_47 rfl rfl ?_
      exact g_iret hC hR dX5_makeProject_48 (by omega) (by omega) (⟨_, rfl, by rw [mo_makeProject, ← hw, gd1 h1]; exact ⟨rfl, hM2⟩⟩)
  have bad : (fnd S (S.1 0 1) ≠ none ∨ fndM S = none ∨ S.1 0 2 = 21) → G X M 2 (gQ X M 0 0 (rI (mP M φ m ad (mo_makeProject S))) nX) 0 0 σ 36 [(0, .ref m)] [.ref m] := by
    intro h
    refine g_iconst (q := 37) (v := (1)) hC dX5_makeProject_36 rfl rfl ?_
    refine g_goto (tgt := 41) hC dX5_makeProject_37 (by decide) ?_
    exact join 1 (by rw [rf_makeProject, if_pos h])
  have mid : ∀ v : Int32, fnd S (S.1 0 1) = none → v = oI (fndM S) → G X M 2 (gQ X M 0 0 (rI (mP M φ m ad (mo_makeProject S))) nX) 0 0 σ 24 [(0, .ref m)] [.int (-1), .int v, .ref m] := by
    intro v h0 hv
    have eb : oI (fndM S) = -1 ↔ fndM S = none := by
      unfold fndM
      split
      · exact ⟨fun _ => rfl, fun _ => rfl⟩
      · exact fnd_n hB
    refine g_icmp_eq (tgt := 36) (q := 27) hC dX5_makeProject_24 (by decide) rfl (fun c_24 => ?_) (fun c_24 => ?_)
    · exact bad (Or.inr (Or.inl (eb.mp (hv ▸ c_24))))
    · refine g_aload_n (q := 28) (i := 0) hC dX5_makeProject_27 rfl rfl rfl ?_
      refine g_getf (q := 31) (v := .int (nI (S.1 0 2))) hC kg_X5_16 dX5_makeProject_28 hM.1 rfl rfl ?_
      refine g_bipush (q := 33) (v := nI 21) hC dX5_makeProject_31 rfl rfl ?_
      refine g_icmp_ne (tgt := 40) (q := 36) hC dX5_makeProject_33 (by decide) rfl (fun c_33 => ?_) (fun c_33 => ?_)
      · refine g_iconst (q := 41) (v := (0)) hC dX5_makeProject_40 rfl rfl ?_
        exact join 0 (by rw [rf_makeProject, if_neg (fun z => z.elim (fun y => y h0) (fun y => y.elim (fun x => c_24 (hv ▸ eb.mpr x)) (fun x => c_33 (by rw [x]))))])
      · exact bad (Or.inr (Or.inr ((nI_eq (by omega) (by omega)).mp c_33)))
  refine g_aload_n (q := 1) (i := 0) hC dX5_makeProject_0 rfl rfl rfl ?_
  refine g_aload_n (q := 2) (i := 0) hC dX5_makeProject_1 rfl rfl rfl ?_
  refine g_aload_n (q := 3) (i := 0) hC dX5_makeProject_2 rfl rfl rfl ?_
  refine g_getf (q := 6) (v := .int (nI (S.1 0 1))) hC kg_X5_64 dX5_makeProject_3 hM.1 rfl rfl ?_
  refine g_ci (q := 9) (g_runV hC kv_X5_75 md_X5_find (c_M_find _ hC.fl M _ φ m (S.1 0 1) ad rf S hM hB hB.1) (ci := 5) rfl hM.1 dX5_makeProject_6 (by decide) (by decide) (by omega) (by omega) rfl rfl (Nat.le_of_ble_eq_true rfl)) rfl (fun r σ ⟨e1, e2⟩ => ?_) (fun _ _ h9 => False.elim h9)
  subst e1 e2
  refine g_iconst (q := 10) (v := (-1)) hC dX5_makeProject_9 rfl rfl ?_
  refine g_icmp_ne (tgt := 36) (q := 13) hC dX5_makeProject_10 (by decide) rfl (fun c_10 => ?_) (fun c_10 => ?_)
  · exact bad (Or.inl (fun z => c_10 (fnd_n hB |>.mpr z)))
  · have h0 := fnd_n hB |>.mp c_10
    by_cases z : S.1 0 1 = 0
    · skip
      refine g_aload_n (q := 14) (i := 0) hC dX5_makeProject_13 rfl rfl rfl ?_
      refine g_aload_n (q := 15) (i := 0) hC dX5_makeProject_14 rfl rfl rfl ?_
      refine g_getf (q := 18) (v := .int (nI (S.1 0 1))) hC kg_X5_64 dX5_makeProject_15 hM.1 rfl rfl ?_
      refine g_iconst (q := 19) (v := nI 1) hC dX5_makeProject_18 rfl rfl ?_
      refine g_isub (q := 20) (v := (-1)) hC dX5_makeProject_19 (by rw [z]; rfl) rfl ?_
      refine g_ci (q := 23) (g_runV hC kv_X5_75 md_X5_find (c_M_findN _ hC.fl M _ φ m ad rf S hM hB) (ci := 5) rfl hM.1 dX5_makeProject_20 (by decide) (by decide) (by omega) (by omega) rfl rfl (Nat.le_of_ble_eq_true rfl)) rfl (fun r σ ⟨e1, e2⟩ => ?_) (fun _ _ h9 => False.elim h9)
      subst e1 e2
      refine g_iconst (q := 24) (v := (-1)) hC dX5_makeProject_23 rfl rfl ?_
      exact mid (-1) h0 (by rw [fndM, if_pos z]; rfl)
    · skip
      refine g_aload_n (q := 14) (i := 0) hC dX5_makeProject_13 rfl rfl rfl ?_
      refine g_aload_n (q := 15) (i := 0) hC dX5_makeProject_14 rfl rfl rfl ?_
      refine g_getf (q := 18) (v := .int (nI (S.1 0 1))) hC kg_X5_64 dX5_makeProject_15 hM.1 rfl rfl ?_
      refine g_iconst (q := 19) (v := nI 1) hC dX5_makeProject_18 rfl rfl ?_
      refine g_isub (q := 20) (v := (nI ((S.1 0 1) - 1))) hC dX5_makeProject_19 (pk_sub (by omega)) rfl ?_
      refine g_ci (q := 23) (g_runV hC kv_X5_75 md_X5_find (c_M_find _ hC.fl M _ φ m (S.1 0 1 - 1) ad rf S hM hB (by omega)) (ci := 5) rfl hM.1 dX5_makeProject_20 (by decide) (by decide) (by omega) (by omega) rfl rfl (Nat.le_of_ble_eq_true rfl)) rfl (fun r σ ⟨e1, e2⟩ => ?_) (fun _ _ h9 => False.elim h9)
      subst e1 e2
      refine g_iconst (q := 24) (v := (-1)) hC dX5_makeProject_23 rfl rfl ?_
      exact mid _ h0 (by rw [fndM, if_neg z])
/-- only the root has no letters -/
def SL (S : gSt) : Prop := ∀ p, p < S.1 0 2 → p ≠ 0 → 1 ≤ S.1 4 p
def canM2 (S : gSt) (p t : Nat) : Bool := decide (nI (dpst S p (npj S)) + (nI (S.1 4 t + 1) - nI (S.1 4 p)) ≤ 8) && (match chd S t (S.2.1 3 (8 * p + S.1 4 p - 1)) with
  | none => true
  | some q => decide (q = p))
def canM (S : gSt) (p : Nat) : Bool := !decide (p = 0) && (match fnd S (S.1 0 1) with
  | none => false
  | some t => !wIn S t p && canM2 S p t)
theorem chd_lt {S : gSt} {q p : Nat} {c : Int32} (h : chd S q c = some p) : p < S.1 0 2 := (lastP_some h).1
theorem chd_n {S : gSt} (hB : SB S) {q : Nat} {c : Int32} : oI (chd S q c) = -1 ↔ chd S q c = none := oI_none (fun a h => by
  have := chd_lt h
  have := hB.2.1
  omega)
set_option maxRecDepth 100000 in
set_option maxHeartbeats 4000000 in
theorem c_M_canMove (l : Launch) (hfl : l.stackTraces = false) (M : gMT) (σ : gS) (φ : gS) (m p : Nat) (ad : Nat → Nat) (rf : Int32) (S : gSt) (hM : Mod M φ σ m ad rf S) (hB : SB S) (hL : SL S) (hp : p < S.1 0 2) : Con l M yX5_canMove (.code yX5_canMove cX5_canMove 5 (Option.some FieldType.boolean)) 3 0 0 [.ref m, .int (nI p)] σ (rI (pI σ (bI (canM S p)))) (nX) := by
  refine g_con hfl (by decide) (lv := [(0, .ref m), (1, .int (nI p))]) rfl rfl (Nat.le_of_ble_eq_true rfl) (fun X hX hC hR htb => ?_)
  have hB0 := hB
  obtain ⟨b1, b2, b3, b4, b5, b6, b7, b8⟩ := hB
  have hlp := b6 p hp
  have no : ∀ v : Int32, canM S p = false → G X M 5 (gQ X M 0 0 (rI (pI σ (bI (canM S p)))) nX) 0 0 σ 27 [(2, .int v), (0, .ref m), (1, .int (nI p))] [] := by
    intro v h
    refine g_iconst (q := 28) (v := (0)) hC dX5_canMove_27 rfl rfl ?_
    exact g_zret hC hR (rfl) dX5_canMove_28 (by omega) (by omega) (⟨_, rfl, by rw [h]; rfl, rfl⟩)
  refine g_aload_n (q := 1) (i := 0) hC dX5_canMove_0 rfl rfl rfl ?_
  refine g_aload_n (q := 2) (i := 0) hC dX5_canMove_1 rfl rfl rfl ?_
  refine g_getf (q := 5) (v := .int (nI (S.1 0 1))) hC kg_X5_64 dX5_canMove_2 hM.1 rfl rfl ?_
  refine g_ci (q := 8) (g_runV hC kv_X5_75 md_X5_find (c_M_find _ hC.fl M _ φ m (S.1 0 1) ad rf S hM hB0 b1) (ci := 5) rfl hM.1 dX5_canMove_5 (by decide) (by decide) (by omega) (by omega) rfl rfl (Nat.le_of_ble_eq_true rfl)) rfl (fun r σ ⟨e1, e2⟩ => ?_) (fun _ _ h9 => False.elim h9)
  subst e1 e2
  refine g_istore_n (q := 9) (i := 2) hC dX5_canMove_8 rfl (by decide) rfl ?_
  refine g_iload_n (q := 10) (i := 1) hC dX5_canMove_9 rfl rfl rfl ?_
  refine g_if_eq (tgt := 27) (q := 13) hC dX5_canMove_10 (by decide) rfl (fun c_10 => ?_) (fun c_10 => ?_)
  · have z : p = 0 := (nI_eq (b := 0) (by omega) (by omega)).mp c_10
    refine g_sub (lv0 := [(2, .int (oI (fnd S (S.1 0 1)))), (0, .ref m), (1, .int (nI p))]) ⟨rfl, rfl, rfl, trivial⟩ ?_
    exact no _ (by rw [canM, decide_eq_true z]; rfl)
  · have z : ¬ p = 0 := fun z => c_10 (by rw [z]; rfl)
    have hl1 := hL p hp z
    cases ht : fnd S (S.1 0 1) with
    | none =>
      refine g_sub (lv0 := [(2, .int (-1)), (0, .ref m), (1, .int (nI p))]) ⟨rfl, rfl, rfl, trivial⟩ ?_
      refine g_iload_n (q := 14) (i := 2) hC dX5_canMove_13 rfl rfl rfl ?_
      refine g_iconst (q := 15) (v := (-1)) hC dX5_canMove_14 rfl rfl ?_
      refine g_icmp_eq (tgt := 27) (q := 18) hC dX5_canMove_15 (by decide) rfl (fun c_15 => ?_) (fun c_15 => ?_)
      · exact no _ (by rw [canM, ht]; simp)
      · exact absurd rfl c_15
    | some t =>
      have ht9 := fnd_lt ht
      refine g_sub (lv0 := [(2, .int (nI t)), (0, .ref m), (1, .int (nI p))]) ⟨rfl, rfl, rfl, trivial⟩ ?_
      refine g_iload_n (q := 14) (i := 2) hC dX5_canMove_13 rfl rfl rfl ?_
      refine g_iconst (q := 15) (v := (-1)) hC dX5_canMove_14 rfl rfl ?_
      refine g_icmp_eq (tgt := 27) (q := 18) hC dX5_canMove_15 (by decide) rfl (fun c_15 => ?_) (fun c_15 => ?_)
      · exact absurd c_15 (fun z => by
          have h := nI_pos' (n := t) (by omega)
          rw [z] at h
          exact absurd h (by decide))
      · refine g_aload_n (q := 19) (i := 0) hC dX5_canMove_18 rfl rfl rfl ?_
        refine g_iload_n (q := 20) (i := 2) hC dX5_canMove_19 rfl rfl rfl ?_
        refine g_iload_n (q := 21) (i := 1) hC dX5_canMove_20 rfl rfl rfl ?_
        refine g_ci (q := 24) (g_runV hC kv_X5_82 md_X5_isWithin (c_M_isWithin _ hC.fl M _ φ m t p ad rf S hM hB0 ht9 hp) (ci := 5) rfl hM.1 dX5_canMove_21 (by decide) (by decide) (by omega) (by omega) rfl rfl (Nat.le_of_ble_eq_true rfl)) rfl (fun r σ ⟨e1, e2⟩ => ?_) (fun _ _ h9 => False.elim h9)
        subst e1 e2
        refine g_if_eq (tgt := 29) (q := 27) hC dX5_canMove_24 (by decide) rfl (fun c_24 => ?_) (fun c_24 => ?_)
        · have hw := bI_0.mp c_24
          have hlt := b6 t ht9
          have eC : canM S p = canM2 S p t := by rw [canM, ht, decide_eq_false z]; show (true && (!wIn S t p && _)) = _; rw [hw]; simp
          rw [eC]
          refine g_aload_n (q := 30) (i := 0) hC dX5_canMove_29 rfl rfl rfl ?_
          refine g_getf (q := 33) hC kg_X5_23 dX5_canMove_30 hM.1 rfl rfl ?_
          refine g_iload_n (q := 34) (i := 2) hC dX5_canMove_33 rfl rfl rfl ?_
          refine g_iald (q := 35) (v := nI (S.1 4 t)) hC dX5_canMove_34 hM.a4 (vp_in_nI (by omega) (by omega)) (by rw [nI_clamp (by omega)] <;> rfl) rfl ?_
          refine g_iconst (q := 36) (v := nI 1) hC dX5_canMove_35 rfl rfl ?_
          refine g_iadd (q := 37) (v := (nI ((S.1 4 t) + 1))) hC dX5_canMove_36 (nI_add _ _) rfl ?_
          refine g_aload_n (q := 38) (i := 0) hC dX5_canMove_37 rfl rfl rfl ?_
          refine g_getf (q := 41) hC kg_X5_23 dX5_canMove_38 hM.1 rfl rfl ?_
          refine g_iload_n (q := 42) (i := 1) hC dX5_canMove_41 rfl rfl rfl ?_
          refine g_iald (q := 43) (v := nI (S.1 4 p)) hC dX5_canMove_42 hM.a4 (vp_in_nI (by omega) (by omega)) (by rw [nI_clamp (by omega)] <;> rfl) rfl ?_
          refine g_isub (q := 44) (v := (nI (S.1 4 t + 1) - nI (S.1 4 p))) hC dX5_canMove_43 rfl rfl ?_
          refine g_istore_n (q := 45) (i := 3) hC dX5_canMove_44 rfl (by decide) rfl ?_
          refine g_aload_n (q := 46) (i := 0) hC dX5_canMove_45 rfl rfl rfl ?_
          refine g_iload_n (q := 47) (i := 2) hC dX5_canMove_46 rfl rfl rfl ?_
          refine g_aload_n (q := 48) (i := 0) hC dX5_canMove_47 rfl rfl rfl ?_
          refine g_getf (q := 51) hC kg_X5_20 dX5_canMove_48 hM.1 rfl rfl ?_
          refine g_bipush (q := 53) (v := nI 8) hC dX5_canMove_51 rfl rfl ?_
          refine g_iload_n (q := 54) (i := 1) hC dX5_canMove_53 rfl rfl rfl ?_
          refine g_imul (q := 55) (v := (nI (8 * p))) hC dX5_canMove_54 (pk_mul _ _) rfl ?_
          refine g_aload_n (q := 56) (i := 0) hC dX5_canMove_55 rfl rfl rfl ?_
          refine g_getf (q := 59) hC kg_X5_23 dX5_canMove_56 hM.1 rfl rfl ?_
          refine g_iload_n (q := 60) (i := 1) hC dX5_canMove_59 rfl rfl rfl ?_
          refine g_iald (q := 61) (v := nI (S.1 4 p)) hC dX5_canMove_60 hM.a4 (vp_in_nI (by omega) (by omega)) (by rw [nI_clamp (by omega)] <;> rfl) rfl ?_
          refine g_iadd (q := 62) (v := (nI ((8 * p) + (S.1 4 p)))) hC dX5_canMove_61 (nI_add _ _) rfl ?_
          refine g_iconst (q := 63) (v := nI 1) hC dX5_canMove_62 rfl rfl ?_
          refine g_isub (q := 64) (v := (nI (((8 * p) + (S.1 4 p)) - 1))) hC dX5_canMove_63 (pk_sub (by omega)) rfl ?_
          refine g_cald (q := 65) (v := S.2.1 3 (((8 * p) + (S.1 4 p)) - 1)) hC dX5_canMove_64 hM.a3 (vp_in_nI (by omega) (by omega)) (by rw [nI_clamp (by omega)] <;> rfl) rfl ?_
          refine g_ci (q := 68) (g_runV hC kv_X5_86 md_X5_child (c_M_child _ hC.fl M _ φ m t ad rf _ S hM hB0 ht9) (ci := 5) rfl hM.1 dX5_canMove_65 (by decide) (by decide) (by omega) (by omega) rfl rfl (Nat.le_of_ble_eq_true rfl)) rfl (fun r σ ⟨e1, e2⟩ => ?_) (fun _ _ h9 => False.elim h9)
          subst e1 e2
          refine g_istore (q := 70) (i := 4) hC dX5_canMove_68 (by decide) rfl ?_
          refine g_aload_n (q := 71) (i := 0) hC dX5_canMove_70 rfl rfl rfl ?_
          refine g_iload_n (q := 72) (i := 1) hC dX5_canMove_71 rfl rfl rfl ?_
          refine g_ci (q := 75) (g_runV hC kv_X5_90 md_X5_deepest (c_M_deepest _ hC.fl M _ φ m p ad rf S hM hB0 hp) (ci := 5) rfl hM.1 dX5_canMove_72 (by decide) (by decide) (by omega) (by omega) rfl rfl (Nat.le_of_ble_eq_true rfl)) rfl (fun r σ ⟨e1, e2⟩ => ?_) (fun _ _ h9 => False.elim h9)
          subst e1 e2
          refine g_iload_n (q := 76) (i := 3) hC dX5_canMove_75 rfl rfl rfl ?_
          refine g_iadd (q := 77) hC dX5_canMove_76 rfl rfl ?_
          refine g_bipush (q := 79) (v := (8)) hC dX5_canMove_77 rfl rfl ?_
          refine g_icmp_gt (tgt := 98) (q := 82) hC dX5_canMove_79 (by decide) rfl (fun c_79 => ?_) (fun c_79 => ?_)
          · refine g_iconst (q := 99) (v := (0)) hC dX5_canMove_98 rfl rfl ?_
            exact g_zret hC hR (rfl) dX5_canMove_99 (by omega) (by omega) (⟨_, rfl, by rw [canM2, decide_eq_false (Int32.not_le.mpr c_79)]; rfl, rfl⟩)
          · have g1 : decide (nI (dpst S p (npj S)) + (nI (S.1 4 t + 1) - nI (S.1 4 p)) ≤ 8) = true := decide_eq_true (Int32.not_lt.mp c_79)
            refine g_iload (q := 84) (i := 4) hC dX5_canMove_82 rfl rfl ?_
            refine g_iconst (q := 85) (v := (-1)) hC dX5_canMove_84 rfl rfl ?_
            refine g_icmp_eq (tgt := 94) (q := 88) hC dX5_canMove_85 (by decide) rfl (fun c_85 => ?_) (fun c_85 => ?_)
            · have e9 := (chd_n hB0).mp c_85
              refine g_iconst (q := 95) (v := (1)) hC dX5_canMove_94 rfl rfl ?_
              refine g_goto (tgt := 99) hC dX5_canMove_95 (by decide) ?_
              exact g_zret hC hR (rfl) dX5_canMove_99 (by omega) (by omega) (⟨_, rfl, by rw [canM2, g1, e9]; rfl, rfl⟩)
            · cases e9 : chd S t (S.2.1 3 (8 * p + S.1 4 p - 1)) with
              | none => exact absurd ((chd_n hB0).mpr e9) c_85
              | some q9 =>
                have hq9 := chd_lt e9
                refine g_iload (q := 90) (i := 4) hC dX5_canMove_88 rfl rfl ?_
                refine g_iload_n (q := 91) (i := 1) hC dX5_canMove_90 rfl rfl rfl ?_
                refine g_icmp_ne (tgt := 98) (q := 94) hC dX5_canMove_91 (by decide) rfl (fun c_91 => ?_) (fun c_91 => ?_)
                · have ne : ¬ q9 = p := fun z => c_91 (by rw [z]; rfl)
                  refine g_iconst (q := 99) (v := (0)) hC dX5_canMove_98 rfl rfl ?_
                  exact g_zret hC hR (rfl) dX5_canMove_99 (by omega) (by omega) (⟨_, rfl, by rw [canM2, g1, e9]; show _ = bI (true && decide (q9 = p)); rw [decide_eq_false ne]; rfl, rfl⟩)
                · have e := (nI_eq (by omega) (by omega)).mp c_91
                  refine g_iconst (q := 95) (v := (1)) hC dX5_canMove_94 rfl rfl ?_
                  refine g_goto (tgt := 99) hC dX5_canMove_95 (by decide) ?_
                  exact g_zret hC hR (rfl) dX5_canMove_99 (by omega) (by omega) (⟨_, rfl, by rw [canM2, g1, e9]; show _ = bI (true && decide (q9 = p)); rw [decide_eq_true e]; rfl, rfl⟩)
        · refine g_sub (lv0 := [(2, .int (nI t)), (0, .ref m), (1, .int (nI p))]) ⟨rfl, rfl, rfl, trivial⟩ ?_
          exact no _ (by rw [canM, ht]; show (_ && (!wIn S t p && _)) = _; rw [bI_n.mp c_24]; simp)
