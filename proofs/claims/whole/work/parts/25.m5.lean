/-! ===== the model: grace, the account asked at a place, barring ===== -/
def ggn (S : gSt) (a : Nat) : Bool := !decide (S.2.1 15 a = -1) && decide (48 ≤ S.2.1 0 0 - S.2.1 15 a)
def askf (S : gSt) (p j : Nat) : Nat → Bool := fun k => decide (S.1 4 k + j = S.1 4 p + 2) && wIn S p k
def askO (S : gSt) (p j i : Nat) : Option Nat := (lastP i (askf S p j)).map (fun k => 9 + k)
def askd (S : gSt) (o p j : Nat) : Option Nat :=
  if j = 0 then some o else if j = 1 then some (6 + o % 3) else askO S p j (npj S)
theorem sub2 {a j : Nat} (h : j ≤ a + 2) : nI a - nI j + nI 2 = nI (a + 2 - j) := by
  rw [← pk_sub h, ← nI_add]
  rw [Int32.sub_eq_add_neg, Int32.sub_eq_add_neg, Int32.add_assoc, Int32.add_assoc, Int32.add_comm (-nI j)]
theorem sub2N {a j : Nat} (ha : a ≤ 100) (hj : j ≤ 100) (h : a + 2 < j) : nI a - nI j + nI 2 < 0 := by
  have e : nI a - nI j + nI 2 = nI (a + 2) - nI j := by
    rw [← nI_add, Int32.sub_eq_add_neg, Int32.sub_eq_add_neg, Int32.add_assoc, Int32.add_assoc, Int32.add_comm (-nI j)]
  rw [e]
  exact pk_sneg (by omega) h
theorem askd_lt {S : gSt} {o p j a : Nat} (ho : o < 6) (h : askd S o p j = some a) : a < 9 + S.1 0 2 := by
  unfold askd at h
  split at h
  · cases h
    omega
  · split at h
    · cases h
      omega
    · unfold askO at h
      cases hl : lastP (npj S) (askf S p j) with
      | none => rw [hl] at h; cases h
      | some k =>
        rw [hl] at h
        cases h
        have h2 : k < S.1 0 2 := (lastP_some hl).1
        show 9 + k < _
        omega
theorem askd_far {S : gSt} {o p j : Nat} (h : S.1 4 p + 2 < j) : askd S o p j = none := by
  unfold askd
  rw [if_neg (by omega), if_neg (by omega), askO]
  cases hl : lastP (npj S) (askf S p j) with
  | none => rfl
  | some k =>
    have := (lastP_some hl).2
    unfold askf at this
    rw [decide_eq_false (by omega)] at this
    cases this
set_option maxRecDepth 100000 in
set_option maxHeartbeats 4000000 in
theorem c_M_isGraceGone (l : Launch) (hfl : l.stackTraces = false) (M : gMT) (σ : gS) (φ : gS) (m a : Nat) (ad : Nat → Nat) (rf : Int32) (S : gSt) (hM : Mod M φ σ m ad rf S) (ha : a < 30) : Con l M yX5_isGraceGone (.code yX5_isGraceGone cX5_isGraceGone 2 (Option.some FieldType.boolean)) 1 0 0 [.ref m, .int (nI a)] σ (rI (pI σ (bI (ggn S a)))) (nX) := by
  refine g_con hfl (by decide) (lv := [(0, .ref m), (1, .int (nI a))]) rfl rfl (Nat.le_of_ble_eq_true rfl) (fun X hX hC hR htb => ?_)
  refine g_aload_n (q := 1) (i := 0) hC dX5_isGraceGone_0 rfl rfl rfl ?_
  refine g_getf (q := 4) hC kg_X5_58 dX5_isGraceGone_1 hM.1 rfl rfl ?_
  refine g_iload_n (q := 5) (i := 1) hC dX5_isGraceGone_4 rfl rfl rfl ?_
  refine g_iald (q := 6) (v := S.2.1 15 a) hC dX5_isGraceGone_5 hM.a15 (vp_in_nI (by omega) (by omega)) (by rw [nI_clamp (by omega)]) rfl ?_
  refine g_iconst (q := 7) (v := (-1)) hC dX5_isGraceGone_6 rfl rfl ?_
  refine g_icmp_eq (tgt := 30) (q := 10) hC dX5_isGraceGone_7 (by decide) rfl (fun c_7 => ?_) (fun c_7 => ?_)
  · refine g_iconst (q := 31) (v := (0)) hC dX5_isGraceGone_30 rfl rfl ?_
    exact g_zret hC hR (rfl) dX5_isGraceGone_31 (by omega) (by omega) (⟨_, rfl, by rw [ggn, decide_eq_true c_7]; rfl, rfl⟩)
  · refine g_aload_n (q := 11) (i := 0) hC dX5_isGraceGone_10 rfl rfl rfl ?_
    refine g_getf (q := 14) hC kg_X5_122 dX5_isGraceGone_11 hM.1 rfl rfl ?_
    refine g_aload_n (q := 15) (i := 0) hC dX5_isGraceGone_14 rfl rfl rfl ?_
    refine g_getf (q := 18) hC kg_X5_58 dX5_isGraceGone_15 hM.1 rfl rfl ?_
    refine g_iload_n (q := 19) (i := 1) hC dX5_isGraceGone_18 rfl rfl rfl ?_
    refine g_iald (q := 20) (v := S.2.1 15 a) hC dX5_isGraceGone_19 hM.a15 (vp_in_nI (by omega) (by omega)) (by rw [nI_clamp (by omega)]) rfl ?_
    refine g_isub (q := 21) hC dX5_isGraceGone_20 rfl rfl ?_
    refine g_bipush (q := 23) (v := (48)) hC dX5_isGraceGone_21 rfl rfl ?_
    refine g_icmp_lt (tgt := 30) (q := 26) hC dX5_isGraceGone_23 (by decide) rfl (fun c_23 => ?_) (fun c_23 => ?_)
    · refine g_iconst (q := 31) (v := (0)) hC dX5_isGraceGone_30 rfl rfl ?_
      exact g_zret hC hR (rfl) dX5_isGraceGone_31 (by omega) (by omega) (⟨_, rfl, by rw [ggn, decide_eq_false c_7, decide_eq_false (Int32.not_le.mpr c_23)]; rfl, rfl⟩)
    · refine g_iconst (q := 27) (v := (1)) hC dX5_isGraceGone_26 rfl rfl ?_
      refine g_goto (tgt := 31) hC dX5_isGraceGone_27 (by decide) ?_
      exact g_zret hC hR (rfl) dX5_isGraceGone_31 (by omega) (by omega) (⟨_, rfl, by rw [ggn, decide_eq_false c_7, decide_eq_true (Int32.not_lt.mp c_23)]; rfl, rfl⟩)
set_option maxRecDepth 100000 in
set_option maxHeartbeats 4000000 in
theorem c_M_asked (l : Launch) (hfl : l.stackTraces = false) (M : gMT) (σ : gS) (φ : gS) (m o p j : Nat) (ad : Nat → Nat) (rf : Int32) (S : gSt) (hM : Mod M φ σ m ad rf S) (hB : SB S) (ho : o < 6) (hp : p < S.1 0 2) (hj : j ≤ 100) : Con l M yX5_asked (.code yX5_asked cX5_asked 7 (Option.some FieldType.int)) 2 0 0 [.ref m, .int (nI o), .int (nI p), .int (nI j)] σ (rI (pI σ (oI (askd S o p j)))) (nX) := by
  refine g_con hfl (by decide) (lv := [(0, .ref m), (1, .int (nI o)), (2, .int (nI p)), (3, .int (nI j))]) rfl rfl (Nat.le_of_ble_eq_true rfl) (fun X hX hC hR htb => ?_)
  have hB0 := hB
  obtain ⟨b1, b2, b3, b4, b5, b6, b7, b8⟩ := hB
  have hlp := b6 p hp
  have fin : ∀ (i : Nat) (lv : List (Nat × Value)), 2 ≤ j → gL lv 5 = some (.int (oI (askd S o p j))) → G X M 7 (gQ X M 0 0 (rI (pI σ (oI (askd S o p j)))) nX) 0 0 σ 92 lv [] := by
    intro i lv h2 h5
    refine g_iload (q := 94) (i := 5) hC dX5_asked_92 h5 rfl ?_
    exact g_iret hC hR dX5_asked_94 (by omega) (by omega) ⟨_, rfl, rfl, rfl⟩
  have loop : ∀ (d9 i : Nat), 2 ≤ j → j ≤ S.1 4 p + 2 → i + d9 = S.1 0 2 → G X M 7 (gQ X M 0 0 (rI (pI σ (oI (askd S o p j)))) nX) 0 0 σ 38 [(6, .int (nI i)), (5, .int (oI (askO S p j i))), (4, .int (nI (S.1 4 p + 2 - j))), (0, .ref m), (1, .int (nI o)), (2, .int (nI p)), (3, .int (nI j))] [] := by
    intro d9
    induction d9 with
    | zero =>
      intro i h2 h3 h1
      have e9 : askd S o p j = askO S p j i := by
        unfold askd
        rw [if_neg (by omega), if_neg (by omega), show i = npj S from by rw [npj]; omega]
      refine g_iload (q := 40) (i := 6) hC dX5_asked_38 rfl rfl ?_
      refine g_aload_n (q := 41) (i := 0) hC dX5_asked_40 rfl rfl rfl ?_
      refine g_getf (q := 44) hC kg_X5_16 dX5_asked_41 hM.1 rfl rfl ?_
      refine g_icmp_ge (tgt := 92) (q := 47) hC dX5_asked_44 (by decide) rfl (fun c_44 => ?_) (fun c_44 => ?_)
      · exact fin i _ h2 (by rw [e9]; rfl)
      · exact absurd (nI_le (by omega) (by omega)) c_44
    | succ d9 ih =>
      intro i h2 h3 h1
      have hli := b6 i (by omega)
      have e0 : askO S p j (i + 1) = (if askf S p j i = true then some i else lastP i (askf S p j)).map (fun k => 9 + k) := rfl
      have tail : ∀ v : Int32, v = oI (askO S p j (i + 1)) → G X M 7 (gQ X M 0 0 (rI (pI σ (oI (askd S o p j)))) nX) 0 0 σ 84 [(6, .int (nI i)), (5, .int (oI (askO S p j i))), (4, .int (nI (S.1 4 p + 2 - j))), (0, .ref m), (1, .int (nI o)), (2, .int (nI p)), (3, .int (nI j))] [.int v] := by
        intro v hv
        refine g_istore (q := 86) (i := 5) hC dX5_asked_84 (by decide) rfl ?_
        refine g_iinc (q := 89) (i := 6) (v := (nI (i + 1))) hC dX5_asked_86 rfl (nI_1 _) rfl ?_
        refine g_goto (tgt := 38) hC dX5_asked_89 (by decide) ?_
        rw [hv]
        refine g_sub (lv0 := [(6, .int (nI (i + 1))), (5, .int (oI (askO S p j (i + 1)))), (4, .int (nI (S.1 4 p + 2 - j))), (0, .ref m), (1, .int (nI o)), (2, .int (nI p)), (3, .int (nI j))]) ⟨rfl, rfl, rfl, rfl, rfl, rfl, rfl, trivial⟩ ?_
        exact ih (i + 1) h2 h3 (by omega)
      refine g_iload (q := 40) (i := 6) hC dX5_asked_38 rfl rfl ?_
      refine g_aload_n (q := 41) (i := 0) hC dX5_asked_40 rfl rfl rfl ?_
      refine g_getf (q := 44) hC kg_X5_16 dX5_asked_41 hM.1 rfl rfl ?_
      refine g_icmp_ge (tgt := 92) (q := 47) hC dX5_asked_44 (by decide) rfl (fun c_44 => ?_) (fun c_44 => ?_)
      · exact absurd c_44 (nI_ge (by omega) (by omega))
      · refine g_iload (q := 49) (i := 4) hC dX5_asked_47 rfl rfl ?_
        refine g_if_lt (tgt := 92) (q := 52) hC dX5_asked_49 (by decide) rfl (fun c_49 => ?_) (fun c_49 => ?_)
        · exact absurd c_49 (nI_pos (by omega))
        · refine g_aload_n (q := 53) (i := 0) hC dX5_asked_52 rfl rfl rfl ?_
          refine g_getf (q := 56) hC kg_X5_23 dX5_asked_53 hM.1 rfl rfl ?_
          refine g_iload (q := 58) (i := 6) hC dX5_asked_56 rfl rfl ?_
          refine g_iald (q := 59) (v := nI (S.1 4 i)) hC dX5_asked_58 hM.a4 (vp_in_nI (by omega) (by omega)) (by rw [nI_clamp (by omega)]) rfl ?_
          refine g_iload (q := 61) (i := 4) hC dX5_asked_59 rfl rfl ?_
          refine g_icmp_ne (tgt := 82) (q := 64) hC dX5_asked_61 (by decide) rfl (fun c_61 => ?_) (fun c_61 => ?_)
          · have ne : ¬ S.1 4 i + j = S.1 4 p + 2 := fun z => c_61 (by rw [show S.1 4 p + 2 - j = S.1 4 i by omega])
            refine g_iload (q := 84) (i := 5) hC dX5_asked_82 rfl rfl ?_
            exact tail _ (by rw [e0, if_neg (fun z => by unfold askf at z; rw [decide_eq_false ne] at z; cases z)]; rfl)
          · have e9 := (nI_eq (by omega) (by omega)).mp c_61
            have e8 : decide (S.1 4 i + j = S.1 4 p + 2) = true := decide_eq_true (by omega)
            refine g_aload_n (q := 65) (i := 0) hC dX5_asked_64 rfl rfl rfl ?_
            refine g_iload_n (q := 66) (i := 2) hC dX5_asked_65 rfl rfl rfl ?_
            refine g_iload (q := 68) (i := 6) hC dX5_asked_66 rfl rfl ?_
            refine g_ci (q := 71) (g_runV hC kv_X5_82 md_X5_isWithin (c_M_isWithin _ hC.fl M _ φ m p i ad rf S hM hB0 hp (by omega)) (ci := 5) rfl hM.1 dX5_asked_68 (by decide) (by decide) (by omega) (by omega) rfl rfl (Nat.le_of_ble_eq_true rfl)) rfl (fun r σ ⟨e1, e2⟩ => ?_) (fun _ _ h9 => False.elim h9)
            subst e1 e2
            refine g_if_eq (tgt := 82) (q := 74) hC dX5_asked_71 (by decide) rfl (fun c_71 => ?_) (fun c_71 => ?_)
            · refine g_iload (q := 84) (i := 5) hC dX5_asked_82 rfl rfl ?_
              exact tail _ (by rw [e0, if_neg (fun z => by unfold askf at z; rw [bI_0.mp c_71, Bool.and_false] at z; cases z)]; rfl)
            · refine g_bipush (q := 76) (v := nI 9) hC dX5_asked_74 rfl rfl ?_
              refine g_iload (q := 78) (i := 6) hC dX5_asked_76 rfl rfl ?_
              refine g_iadd (q := 79) (v := (nI (9 + i))) hC dX5_asked_78 (nI_add _ _) rfl ?_
              refine g_goto (tgt := 84) hC dX5_asked_79 (by decide) ?_
              exact tail _ (by rw [e0, if_pos (by unfold askf; rw [bI_n.mp c_71, e8]; rfl)]; rfl)
  refine g_iload_n (q := 1) (i := 3) hC dX5_asked_0 rfl rfl rfl ?_
  refine g_iconst (q := 2) (v := nI 2) hC dX5_asked_1 rfl rfl ?_
  refine g_icmp_ge (tgt := 20) (q := 5) hC dX5_asked_2 (by decide) rfl (fun c_2 => ?_) (fun c_2 => ?_)
  · have h2 : 2 ≤ j := by
      rcases Nat.lt_or_ge j 2 with z | z
      · exact absurd c_2 (nI_ge z (by omega))
      · exact z
    by_cases h3 : j ≤ S.1 4 p + 2
    · skip
      refine g_aload_n (q := 21) (i := 0) hC dX5_asked_20 rfl rfl rfl ?_
      refine g_getf (q := 24) hC kg_X5_23 dX5_asked_21 hM.1 rfl rfl ?_
      refine g_iload_n (q := 25) (i := 2) hC dX5_asked_24 rfl rfl rfl ?_
      refine g_iald (q := 26) (v := nI (S.1 4 p)) hC dX5_asked_25 hM.a4 (vp_in_nI (by omega) (by omega)) (by rw [nI_clamp (by omega)]) rfl ?_
      refine g_iload_n (q := 27) (i := 3) hC dX5_asked_26 rfl rfl rfl ?_
      refine g_isub (q := 28) (v := (nI (S.1 4 p) - nI j)) hC dX5_asked_27 rfl rfl ?_
      refine g_iconst (q := 29) (v := nI 2) hC dX5_asked_28 rfl rfl ?_
      refine g_iadd (q := 30) (v := (nI (S.1 4 p + 2 - j))) hC dX5_asked_29 (sub2 h3) rfl ?_
      refine g_istore (q := 32) (i := 4) hC dX5_asked_30 (by decide) rfl ?_
      refine g_iconst (q := 33) (v := (-1)) hC dX5_asked_32 rfl rfl ?_
      refine g_istore (q := 35) (i := 5) hC dX5_asked_33 (by decide) rfl ?_
      refine g_iconst (q := 36) (v := nI 0) hC dX5_asked_35 rfl rfl ?_
      refine g_istore (q := 38) (i := 6) hC dX5_asked_36 (by decide) rfl ?_
      refine g_sub (lv0 := [(6, .int (nI 0)), (5, .int (oI none)), (4, .int (nI (S.1 4 p + 2 - j))), (0, .ref m), (1, .int (nI o)), (2, .int (nI p)), (3, .int (nI j))]) ⟨rfl, rfl, rfl, rfl, rfl, rfl, rfl, trivial⟩ ?_
      exact loop (S.1 0 2) 0 h2 h3 (by omega)
    · have e9 : askd S o p j = none := askd_far (by omega)
      refine g_aload_n (q := 21) (i := 0) hC dX5_asked_20 rfl rfl rfl ?_
      refine g_getf (q := 24) hC kg_X5_23 dX5_asked_21 hM.1 rfl rfl ?_
      refine g_iload_n (q := 25) (i := 2) hC dX5_asked_24 rfl rfl rfl ?_
      refine g_iald (q := 26) (v := nI (S.1 4 p)) hC dX5_asked_25 hM.a4 (vp_in_nI (by omega) (by omega)) (by rw [nI_clamp (by omega)]) rfl ?_
      refine g_iload_n (q := 27) (i := 3) hC dX5_asked_26 rfl rfl rfl ?_
      refine g_isub (q := 28) (v := (nI (S.1 4 p) - nI j)) hC dX5_asked_27 rfl rfl ?_
      refine g_iconst (q := 29) (v := nI 2) hC dX5_asked_28 rfl rfl ?_
      refine g_iadd (q := 30) hC dX5_asked_29 rfl rfl ?_
      refine g_istore (q := 32) (i := 4) hC dX5_asked_30 (by decide) rfl ?_
      refine g_iconst (q := 33) (v := (-1)) hC dX5_asked_32 rfl rfl ?_
      refine g_istore (q := 35) (i := 5) hC dX5_asked_33 (by decide) rfl ?_
      refine g_iconst (q := 36) (v := nI 0) hC dX5_asked_35 rfl rfl ?_
      refine g_istore (q := 38) (i := 6) hC dX5_asked_36 (by decide) rfl ?_
      refine g_iload (q := 40) (i := 6) hC dX5_asked_38 rfl rfl ?_
      refine g_aload_n (q := 41) (i := 0) hC dX5_asked_40 rfl rfl rfl ?_
      refine g_getf (q := 44) hC kg_X5_16 dX5_asked_41 hM.1 rfl rfl ?_
      refine g_icmp_ge (tgt := 92) (q := 47) hC dX5_asked_44 (by decide) rfl (fun c_44 => ?_) (fun c_44 => ?_)
      · exact fin 0 _ h2 (by rw [e9]; rfl)
      · refine g_iload (q := 49) (i := 4) hC dX5_asked_47 rfl rfl ?_
        refine g_if_lt (tgt := 92) (q := 52) hC dX5_asked_49 (by decide) rfl (fun c_49 => ?_) (fun c_49 => ?_)
        · exact fin 0 _ h2 (by rw [e9]; rfl)
        · exact absurd (sub2N (by omega) hj (by omega)) c_49
  · have h2 : j < 2 := (nI_ltI (by omega) (by omega)).mp (by
      have h9 : ¬ nI 2 ≤ nI j := c_2
      rw [Int32.le_iff_toInt_le] at h9
      rw [Int32.lt_iff_toInt_lt]
      omega)
    refine g_iload_n (q := 6) (i := 3) hC dX5_asked_5 rfl rfl rfl ?_
    refine g_if_ne (tgt := 13) (q := 9) hC dX5_asked_6 (by decide) rfl (fun c_6 => ?_) (fun c_6 => ?_)
    · have h3 : j = 1 := by
        by_cases z : j = 0
        · subst z
          exact absurd rfl c_6
        · omega
      refine g_bipush (q := 15) (v := nI 6) hC dX5_asked_13 rfl rfl ?_
      refine g_iload_n (q := 16) (i := 1) hC dX5_asked_15 rfl rfl rfl ?_
      refine g_iconst (q := 17) (v := nI 3) hC dX5_asked_16 rfl rfl ?_
      refine g_irem (q := 18) (v := (nI (o % 3))) hC dX5_asked_17 (by decide) (pk_rem (by omega) (by omega) (by omega)) rfl ?_
      refine g_iadd (q := 19) (v := (nI (6 + (o % 3)))) hC dX5_asked_18 (nI_add _ _) rfl ?_
      exact g_iret hC hR dX5_asked_19 (by omega) (by omega) (⟨_, rfl, by rw [askd, if_neg (by omega), if_pos h3]; rfl, rfl⟩)
    · have h3 : j = 0 := (nI_eq (by omega) (by omega)).mp c_6
      refine g_iload_n (q := 10) (i := 1) hC dX5_asked_9 rfl rfl rfl ?_
      refine g_goto (tgt := 19) hC dX5_asked_10 (by decide) ?_
      exact g_iret hC hR dX5_asked_19 (by omega) (by omega) (⟨_, rfl, by rw [askd, if_pos h3]; rfl, rfl⟩)
