/-! ===== the model: a project led to another place; moveProject ===== -/
def ldO (S : gSt) (k i : Nat) : gSt := cpy S 2 0 i (fun j => vp_nar .char (S.2.1 3 (8 * k + j)))
def ldG (S : gSt) (k gone : Nat) : Nat → Int32 := fun j => vp_nar .char (if j < S.1 0 1 then S.2.1 1 j else (ldO S k (S.1 4 k)).2.1 2 (j - S.1 0 1 + gone))
def ldC (S : gSt) (k gone i : Nat) : gSt := cpy (ldO S k (S.1 4 k)) 3 (8 * k) i (ldG S k gone)
def ldS (S : gSt) (k gone : Nat) : gSt := sN (ldC S k gone (S.1 4 k - gone + S.1 0 1)) 4 k (S.1 4 k - gone + S.1 0 1)
theorem vnvn (x : Int32) : vp_nar .char (vp_nar .char x) = vp_nar .char x := by
  simp only [vp_nar_char]
  apply Int32.toBitVec_inj.1
  apply BitVec.eq_of_toNat_eq
  simp
set_option maxRecDepth 100000 in
set_option maxHeartbeats 4000000 in
theorem c_M_lead (l : Launch) (hfl : l.stackTraces = false) (M : gMT) (σ : gS) (φ : gS) (m k gone : Nat) (ad : Nat → Nat) (rf : Int32) (S : gSt) (hM : Mod M φ σ m ad rf S) (hB : SB S) (hk : k < S.1 0 2) (hg : gone ≤ S.1 4 k) (hl : S.1 4 k - gone + S.1 0 1 ≤ 8) : Con l M yX5_lead (.code yX5_lead cX5_lead 5 (Option.none : Option FieldType)) 1 0 0 [.ref m, .int (nI k), .int (nI gone)] σ (rV fun σ2 => Mod M φ σ2 m ad rf (ldS S k gone)) (nX) := by
  refine g_con hfl (by decide) (lv := [(0, .ref m), (1, .int (nI k)), (2, .int (nI gone))]) rfl rfl (Nat.le_of_ble_eq_true rfl) (fun X hX hC hR htb => ?_)
  have hB0 := hB
  obtain ⟨b1, b2, b3, b4, b5, b6, b7, b8⟩ := hB
  have hlk := b6 k hk
  have loop2 : ∀ (d9 i : Nat) (σ3 : gS), i + d9 = S.1 4 k - gone + S.1 0 1 → Mod M φ σ3 m ad rf (ldC S k gone i) → G X M 5 (gQ X M 0 0 (rV fun σ2 => Mod M φ σ2 m ad rf (ldS S k gone)) nX) 0 0 σ3 52 [(4, .int (nI i)), (3, .int (nI (S.1 4 k - gone + S.1 0 1))), (0, .ref m), (1, .int (nI k)), (2, .int (nI gone))] [] := by
    intro d9
    induction d9 with
    | zero =>
      intro i σ3 h1 hM3
      have hM4 : Mod M φ σ3 m ad rf (ldC S k gone (S.1 4 k - gone + S.1 0 1)) := by
        rw [show i = S.1 4 k - gone + S.1 0 1 by omega] at hM3
        exact hM3
      have hM5 := hM4.w4 k (S.1 4 k - gone + S.1 0 1)
      refine g_iload (q := 54) (i := 4) hC dX5_lead_52 rfl rfl ?_
      refine g_iload_n (q := 55) (i := 3) hC dX5_lead_54 rfl rfl rfl ?_
      refine g_icmp_ge (tgt := 109) (q := 58) hC dX5_lead_55 (by decide) rfl (fun c_55 => ?_) (fun c_55 => ?_)
      · refine g_aload_n (q := 110) (i := 0) hC dX5_lead_109 rfl rfl rfl ?_
        refine g_getf (q := 113) hC kg_X5_23 dX5_lead_110 hM4.1 rfl rfl ?_
        refine g_iload_n (q := 114) (i := 1) hC dX5_lead_113 rfl rfl rfl ?_
        refine g_iload_n (q := 115) (i := 3) hC dX5_lead_114 rfl rfl rfl ?_
        refine g_iast (q := 116) hC dX5_lead_115 hM4.a4 (vp_in_nI (by omega) (by omega)) rfl ?_
        rw [nI_clamp (by omega)]
        exact g_vret hC hR dX5_lead_116 (by omega) (by omega) (⟨rfl, hM5⟩)
      · exact absurd (nI_le (by omega) (by omega)) c_55
    | succ d9 ih =>
      intro i σ3 h1 hM3
      have e1 : (ldC S k gone i).2.1 1 = S.2.1 1 := (cpy_col _ _ _ _ (by decide)).trans (cpy_col _ _ _ _ (by decide))
      have e2 : (ldC S k gone i).2.1 2 = (ldO S k (S.1 4 k)).2.1 2 := cpy_col _ _ _ _ (by decide)
      have store : ∀ v : Int32, vp_nar .char v = ldG S k gone i → G X M 5 (gQ X M 0 0 (rV fun σ2 => Mod M φ σ2 m ad rf (ldS S k gone)) nX) 0 0 σ3 102 [(4, .int (nI i)), (3, .int (nI (S.1 4 k - gone + S.1 0 1))), (0, .ref m), (1, .int (nI k)), (2, .int (nI gone))] [.int v, .int (nI (8 * k + i)), .ref (ad 3)] := by
        intro v hv
        have hM4 := hM3.w3 (8 * k + i) (vp_nar .char v)
        have e8 : sI (ldC S k gone i) 3 (8 * k + i) (vp_nar .char v) = ldC S k gone (i + 1) := by
          rw [hv]
          exact cpy_s _ _ _ _ _
        rw [e8] at hM4
        refine g_cast (q := 103) hC dX5_lead_102 hM3.a3 (vp_in_nI (by omega) (by omega)) rfl ?_
        rw [nI_clamp (by omega)]
        refine g_iinc (q := 106) (i := 4) (v := (nI (i + 1))) hC dX5_lead_103 rfl (nI_1 _) rfl ?_
        refine g_goto (tgt := 52) hC dX5_lead_106 (by decide) ?_
        refine g_sub (lv0 := [(4, .int (nI (i + 1))), (3, .int (nI (S.1 4 k - gone + S.1 0 1))), (0, .ref m), (1, .int (nI k)), (2, .int (nI gone))]) ⟨rfl, rfl, rfl, rfl, rfl, trivial⟩ ?_
        exact ih (i + 1) _ (by omega) hM4
      refine g_iload (q := 54) (i := 4) hC dX5_lead_52 rfl rfl ?_
      refine g_iload_n (q := 55) (i := 3) hC dX5_lead_54 rfl rfl rfl ?_
      refine g_icmp_ge (tgt := 109) (q := 58) hC dX5_lead_55 (by decide) rfl (fun c_55 => ?_) (fun c_55 => ?_)
      · exact absurd c_55 (nI_ge (by omega) (by omega))
      · refine g_aload_n (q := 59) (i := 0) hC dX5_lead_58 rfl rfl rfl ?_
        refine g_getf (q := 62) hC kg_X5_20 dX5_lead_59 hM3.1 rfl rfl ?_
        refine g_bipush (q := 64) (v := nI 8) hC dX5_lead_62 rfl rfl ?_
        refine g_iload_n (q := 65) (i := 1) hC dX5_lead_64 rfl rfl rfl ?_
        refine g_imul (q := 66) (v := (nI (8 * k))) hC dX5_lead_65 (pk_mul _ _) rfl ?_
        refine g_iload (q := 68) (i := 4) hC dX5_lead_66 rfl rfl ?_
        refine g_iadd (q := 69) (v := (nI ((8 * k) + i))) hC dX5_lead_68 (nI_add _ _) rfl ?_
        refine g_iload (q := 71) (i := 4) hC dX5_lead_69 rfl rfl ?_
        refine g_aload_n (q := 72) (i := 0) hC dX5_lead_71 rfl rfl rfl ?_
        refine g_getf (q := 75) (v := .int (nI (S.1 0 1))) hC kg_X5_64 dX5_lead_72 hM3.1 rfl rfl ?_
        refine g_icmp_ge (tgt := 88) (q := 78) hC dX5_lead_75 (by decide) rfl (fun c_75 => ?_) (fun c_75 => ?_)
        · have hge : S.1 0 1 ≤ i := by
            rcases Nat.lt_or_ge i (S.1 0 1) with z | z
            · exact absurd c_75 (nI_ge z (by omega))
            · exact z
          refine g_aload_n (q := 89) (i := 0) hC dX5_lead_88 rfl rfl rfl ?_
          refine g_getf (q := 92) hC kg_X5_13 dX5_lead_89 hM3.1 rfl rfl ?_
          refine g_iload (q := 94) (i := 4) hC dX5_lead_92 rfl rfl ?_
          refine g_aload_n (q := 95) (i := 0) hC dX5_lead_94 rfl rfl rfl ?_
          refine g_getf (q := 98) (v := .int (nI (S.1 0 1))) hC kg_X5_64 dX5_lead_95 hM3.1 rfl rfl ?_
          refine g_isub (q := 99) (v := (nI (i - (S.1 0 1)))) hC dX5_lead_98 (pk_sub (by omega)) rfl ?_
          refine g_iload_n (q := 100) (i := 2) hC dX5_lead_99 rfl rfl rfl ?_
          refine g_iadd (q := 101) (v := (nI ((i - (S.1 0 1)) + gone))) hC dX5_lead_100 (nI_add _ _) rfl ?_
          refine g_cald (q := 102) (v := (ldC S k gone i).2.1 2 ((i - (S.1 0 1)) + gone)) hC dX5_lead_101 hM3.a2 (vp_in_nI (by omega) (by omega)) (by rw [nI_clamp (by omega)] <;> rfl) rfl ?_
          exact store _ (by rw [ldG, if_neg (by omega), e2])
        · have hlt : i < S.1 0 1 := by
            rcases Nat.lt_or_ge i (S.1 0 1) with z | z
            · exact z
            · exact absurd (nI_le z (by omega)) c_75
          refine g_aload_n (q := 79) (i := 0) hC dX5_lead_78 rfl rfl rfl ?_
          refine g_getf (q := 82) hC kg_X5_7 dX5_lead_79 hM3.1 rfl rfl ?_
          refine g_iload (q := 84) (i := 4) hC dX5_lead_82 rfl rfl ?_
          refine g_cald (q := 85) (v := (ldC S k gone i).2.1 1 i) hC dX5_lead_84 hM3.a1 (vp_in_nI (by omega) (by omega)) (by rw [nI_clamp (by omega)] <;> rfl) rfl ?_
          refine g_goto (tgt := 102) hC dX5_lead_85 (by decide) ?_
          exact store _ (by rw [ldG, if_pos hlt, e1])
  have loop1 : ∀ (d9 i : Nat) (σ3 : gS), i + d9 = S.1 4 k → Mod M φ σ3 m ad rf (ldO S k i) → G X M 5 (gQ X M 0 0 (rV fun σ2 => Mod M φ σ2 m ad rf (ldS S k gone)) nX) 0 0 σ3 2 [(3, .int (nI i)), (0, .ref m), (1, .int (nI k)), (2, .int (nI gone))] [] := by
    intro d9
    induction d9 with
    | zero =>
      intro i σ3 h1 hM3
      have hM4 : Mod M φ σ3 m ad rf (ldC S k gone 0) := by
        rw [ldC, cpy_0, show S.1 4 k = i by omega]
        exact hM3
      refine g_iload_n (q := 3) (i := 3) hC dX5_lead_2 rfl rfl rfl ?_
      refine g_aload_n (q := 4) (i := 0) hC dX5_lead_3 rfl rfl rfl ?_
      refine g_getf (q := 7) hC kg_X5_23 dX5_lead_4 hM3.1 rfl rfl ?_
      refine g_iload_n (q := 8) (i := 1) hC dX5_lead_7 rfl rfl rfl ?_
      refine g_iald (q := 9) (v := nI (S.1 4 k)) hC dX5_lead_8 hM3.a4 (vp_in_nI (by omega) (by omega)) (by rw [nI_clamp (by omega)] <;> rfl) rfl ?_
      refine g_icmp_ge (tgt := 35) (q := 12) hC dX5_lead_9 (by decide) rfl (fun c_9 => ?_) (fun c_9 => ?_)
      · refine g_aload_n (q := 36) (i := 0) hC dX5_lead_35 rfl rfl rfl ?_
        refine g_getf (q := 39) hC kg_X5_23 dX5_lead_36 hM3.1 rfl rfl ?_
        refine g_iload_n (q := 40) (i := 1) hC dX5_lead_39 rfl rfl rfl ?_
        refine g_iald (q := 41) (v := nI (S.1 4 k)) hC dX5_lead_40 hM3.a4 (vp_in_nI (by omega) (by omega)) (by rw [nI_clamp (by omega)] <;> rfl) rfl ?_
        refine g_iload_n (q := 42) (i := 2) hC dX5_lead_41 rfl rfl rfl ?_
        refine g_isub (q := 43) (v := (nI ((S.1 4 k) - gone))) hC dX5_lead_42 (pk_sub (by omega)) rfl ?_
        refine g_aload_n (q := 44) (i := 0) hC dX5_lead_43 rfl rfl rfl ?_
        refine g_getf (q := 47) (v := .int (nI (S.1 0 1))) hC kg_X5_64 dX5_lead_44 hM3.1 rfl rfl ?_
        refine g_iadd (q := 48) (v := (nI (((S.1 4 k) - gone) + (S.1 0 1)))) hC dX5_lead_47 (nI_add _ _) rfl ?_
        refine g_istore_n (q := 49) (i := 3) hC dX5_lead_48 rfl (by decide) rfl ?_
        refine g_iconst (q := 50) (v := nI 0) hC dX5_lead_49 rfl rfl ?_
        refine g_istore (q := 52) (i := 4) hC dX5_lead_50 (by decide) rfl ?_
        refine g_sub (lv0 := [(4, .int (nI 0)), (3, .int (nI (S.1 4 k - gone + S.1 0 1))), (0, .ref m), (1, .int (nI k)), (2, .int (nI gone))]) ⟨rfl, rfl, rfl, rfl, rfl, trivial⟩ ?_
        exact loop2 _ 0 _ (Nat.zero_add _) hM4
      · exact absurd (nI_le (by omega) (by omega)) c_9
    | succ d9 ih =>
      intro i σ3 h1 hM3
      have e3 : (ldO S k i).2.1 3 = S.2.1 3 := cpy_col _ _ _ _ (by decide)
      have hM4 := hM3.w2 i (vp_nar .char (S.2.1 3 (8 * k + i)))
      have e8 : sI (ldO S k i) 2 i (vp_nar .char (S.2.1 3 (8 * k + i))) = ldO S k (i + 1) := by
        have h := cpy_s S 2 0 i (fun j => vp_nar .char (S.2.1 3 (8 * k + j)))
        rw [Nat.zero_add] at h
        exact h
      rw [e8] at hM4
      refine g_iload_n (q := 3) (i := 3) hC dX5_lead_2 rfl rfl rfl ?_
      refine g_aload_n (q := 4) (i := 0) hC dX5_lead_3 rfl rfl rfl ?_
      refine g_getf (q := 7) hC kg_X5_23 dX5_lead_4 hM3.1 rfl rfl ?_
      refine g_iload_n (q := 8) (i := 1) hC dX5_lead_7 rfl rfl rfl ?_
      refine g_iald (q := 9) (v := nI (S.1 4 k)) hC dX5_lead_8 hM3.a4 (vp_in_nI (by omega) (by omega)) (by rw [nI_clamp (by omega)] <;> rfl) rfl ?_
      refine g_icmp_ge (tgt := 35) (q := 12) hC dX5_lead_9 (by decide) rfl (fun c_9 => ?_) (fun c_9 => ?_)
      · exact absurd c_9 (nI_ge (by omega) (by omega))
      · refine g_aload_n (q := 13) (i := 0) hC dX5_lead_12 rfl rfl rfl ?_
        refine g_getf (q := 16) hC kg_X5_13 dX5_lead_13 hM3.1 rfl rfl ?_
        refine g_iload_n (q := 17) (i := 3) hC dX5_lead_16 rfl rfl rfl ?_
        refine g_aload_n (q := 18) (i := 0) hC dX5_lead_17 rfl rfl rfl ?_
        refine g_getf (q := 21) hC kg_X5_20 dX5_lead_18 hM3.1 rfl rfl ?_
        refine g_bipush (q := 23) (v := nI 8) hC dX5_lead_21 rfl rfl ?_
        refine g_iload_n (q := 24) (i := 1) hC dX5_lead_23 rfl rfl rfl ?_
        refine g_imul (q := 25) (v := (nI (8 * k))) hC dX5_lead_24 (pk_mul _ _) rfl ?_
        refine g_iload_n (q := 26) (i := 3) hC dX5_lead_25 rfl rfl rfl ?_
        refine g_iadd (q := 27) (v := (nI ((8 * k) + i))) hC dX5_lead_26 (nI_add _ _) rfl ?_
        refine g_cald (q := 28) (v := (ldO S k i).2.1 3 ((8 * k) + i)) hC dX5_lead_27 hM3.a3 (vp_in_nI (by omega) (by omega)) (by rw [nI_clamp (by omega)] <;> rfl) rfl ?_
        refine g_cast (q := 29) hC dX5_lead_28 hM3.a2 (vp_in_nI (by omega) (by omega)) rfl ?_
        rw [nI_clamp (by omega), e3]
        refine g_iinc (q := 32) (i := 3) (v := (nI (i + 1))) hC dX5_lead_29 rfl (nI_1 _) rfl ?_
        refine g_goto (tgt := 2) hC dX5_lead_32 (by decide) ?_
        refine g_sub (lv0 := [(3, .int (nI (i + 1))), (0, .ref m), (1, .int (nI k)), (2, .int (nI gone))]) ⟨rfl, rfl, rfl, rfl, trivial⟩ ?_
        exact ih (i + 1) _ (by omega) hM4
  refine g_iconst (q := 1) (v := nI 0) hC dX5_lead_0 rfl rfl ?_
  refine g_istore_n (q := 2) (i := 3) hC dX5_lead_1 rfl (by decide) rfl ?_
  refine g_sub (lv0 := [(3, .int (nI 0)), (0, .ref m), (1, .int (nI k)), (2, .int (nI gone))]) ⟨rfl, rfl, rfl, rfl, trivial⟩ ?_
  exact loop1 _ 0 _ (Nat.zero_add _) (by rw [ldO, cpy_0]; exact hM)
theorem fa_or (a b : Nat) : nI a ||| nI b = nI (a ||| b) := by
  apply Int32.toBitVec_inj.1
  show BitVec.ofNat 32 a ||| BitVec.ofNat 32 b = BitVec.ofNat 32 (a ||| b)
  apply BitVec.eq_of_getLsbD_eq
  intro i hi
  simp [hi]
theorem s_l : ∀ n, n < 32 → ((nI n &&& 31).toBitVec.smod 32).toNat = n := by decide +kernel
def msk (S : gSt) (p : Nat) : Nat → Nat
  | 0 => 0
  | k + 1 => msk S p k ||| (if wIn S k p = true then 2 ^ k else 0)
theorem msk_lt (S : gSt) (p : Nat) : ∀ n, msk S p n < 2 ^ n := by
  intro n
  induction n with
  | zero =>
    show 0 < 2 ^ 0
    decide
  | succ n ih =>
    unfold msk
    have h1 : 2 ^ n < 2 ^ (n + 1) := Nat.pow_lt_pow_right (by decide) (Nat.lt_succ_self n)
    refine Nat.or_lt_two_pow (Nat.lt_trans ih h1) ?_
    split
    · exact h1
    · exact Nat.two_pow_pos _
theorem msk_t (S : gSt) (p i : Nat) : ∀ n, (msk S p n).testBit i = (decide (i < n) && wIn S i p) := by
  intro n
  induction n with
  | zero => simp [msk]
  | succ n ih =>
    unfold msk
    rw [Nat.testBit_or, ih]
    have e : (if wIn S n p = true then 2 ^ n else 0).testBit i = (decide (i = n) && wIn S i p) := by
      cases hw : wIn S n p with
      | true =>
        rw [if_pos rfl, Nat.testBit_two_pow]
        by_cases h : i = n
        · subst h
          rw [decide_eq_true rfl, hw]
          rfl
        · rw [decide_eq_false h, decide_eq_false (Ne.symm h)]
          rfl
      | false =>
        rw [if_neg (by decide), Nat.zero_testBit]
        by_cases h : i = n
        · subst h
          rw [hw, Bool.and_false]
        · rw [decide_eq_false h]
          rfl
    rw [e]
    by_cases h1 : i < n
    · rw [decide_eq_true h1, decide_eq_false (by omega), decide_eq_true (by omega)]
      simp
    · by_cases h2 : i = n
      · rw [decide_eq_false h1, decide_eq_true h2, decide_eq_true (by omega)]
        simp
      · rw [decide_eq_false h1, decide_eq_false h2, decide_eq_false (by omega)]
        simp
theorem msk_b {S : gSt} {p i n : Nat} (h : i < n) : msk S p n / 2 ^ i % 2 = 1 ↔ wIn S i p = true := by
  have h1 := msk_t S p i n
  rw [Nat.testBit_eq_decide_div_mod_eq, decide_eq_true h, Bool.true_and] at h1
  rw [← h1]
  exact decide_eq_true_iff.symm
def mvL (S : gSt) (p gone : Nat) : Nat → gSt
  | 0 => S
  | k + 1 => if wIn S k p = true then ldS (mvL S p gone k) k gone else mvL S p gone k
def cntW (S : gSt) (p : Nat) : Nat → Nat
  | 0 => 0
  | k + 1 => cntW S p k + (if wIn S k p = true then 1 else 0)
theorem dpst_ge {S : gSt} {q k : Nat} (hw : wIn S k q = true) : ∀ n, k < n → S.1 4 k ≤ dpst S q n := by
  intro n
  induction n with
  | zero => intro h; omega
  | succ n ih =>
    intro h
    unfold dpst
    by_cases z : k = n
    · subst z
      by_cases c : wIn S k q = true ∧ dpst S q k < S.1 4 k
      · rw [if_pos c]
        exact Nat.le_refl _
      · rw [if_neg c]
        rcases Nat.lt_or_ge (dpst S q k) (S.1 4 k) with y | y
        · exact absurd ⟨hw, y⟩ c
        · exact y
    · have h1 := ih (by omega)
      split
      · omega
      · exact h1
theorem fnd_len {S : gSt} {n t : Nat} (h : fnd S n = some t) : S.1 4 t = n := of_decide_eq_true (Bool.and_eq_true_iff.mp (lastP_some h).2).1
/-- what a move's being allowed gives -/
theorem canM_f {S : gSt} (hB : SB S) (hL : SL S) {p : Nat} (hp : p < S.1 0 2) (h : canM S p = true) : ∃ t, fnd S (S.1 0 1) = some t ∧ p ≠ 0 ∧ wIn S t p = false ∧ canM2 S p t = true ∧ ∀ k, k < S.1 0 2 → wIn S k p = true → S.1 4 p - 1 ≤ S.1 4 k ∧ S.1 4 k - (S.1 4 p - 1) + S.1 0 1 ≤ 8 := by
  obtain ⟨h1, h2⟩ := Bool.and_eq_true_iff.mp h
  cases ht : fnd S (S.1 0 1) with
  | none => rw [ht] at h2; cases h2
  | some t =>
    rw [ht] at h2
    have h2 : (!wIn S t p && canM2 S p t) = true := h2
    obtain ⟨h3, h4⟩ := Bool.and_eq_true_iff.mp h2
    have hp0 : p ≠ 0 := by
      intro z
      rw [decide_eq_true z] at h1
      cases h1
    refine ⟨t, rfl, hp0, by simpa using h3, h4, fun k hk hw => ?_⟩
    have h5 := of_decide_eq_true (Bool.and_eq_true_iff.mp h4).1
    have hl := hL p hp hp0
    have hB0 := hB
    obtain ⟨b1, b2, b3, b4, b5, b6, b7, b8⟩ := hB
    have hlp := b6 p hp
    have e1 := fnd_len ht
    have e2 := dpst_ge hw (npj S) hk
    have e3 := dpst_le hB0 p (npj S) (Nat.le_refl _)
    have e4 : S.1 4 p ≤ S.1 4 k := of_decide_eq_true (Bool.and_eq_true_iff.mp hw).1
    have e5 : nI (dpst S p (npj S)) + (nI (S.1 4 t + 1) - nI (S.1 4 p)) = nI (dpst S p (npj S) + (S.1 4 t + 1)) - nI (S.1 4 p) := by
      rw [← nI_add (dpst S p (npj S)) (S.1 4 t + 1), Int32.sub_eq_add_neg, Int32.sub_eq_add_neg, Int32.add_assoc]
    rw [e5, Int32.le_iff_toInt_le, pk_sub_toInt (by omega) (by omega)] at h5
    have : (8 : Int32).toInt = 8 := by decide
    omega
theorem SB_ld {S : gSt} (hB : SB S) {k gone : Nat} (hl : S.1 4 k - gone + S.1 0 1 ≤ 8) : SB (ldS S k gone) := by
  obtain ⟨b1, b2, b3, b4, b5, b6, b7, b8⟩ := hB
  refine ⟨b1, b2, b3, b4, b5, fun q hq => ?_, b7, b8⟩
  show up2 S.1 4 k (S.1 4 k - gone + S.1 0 1) 4 q ≤ 8
  by_cases z : q = k
  · subst z
    rw [up2_self]
    exact hl
  · rw [up2_ne _ _ (Or.inr z)]
    exact b6 q hq
theorem mvL_f {S : gSt} (hB : SB S) {p gone : Nat} (hg : ∀ k, k < S.1 0 2 → wIn S k p = true → gone ≤ S.1 4 k ∧ S.1 4 k - gone + S.1 0 1 ≤ 8) : ∀ n, n ≤ S.1 0 2 → SB (mvL S p gone n) ∧ (∀ j, n ≤ j → (mvL S p gone n).1 4 j = S.1 4 j) ∧ ∀ c j, c ≠ 4 → (mvL S p gone n).1 c j = S.1 c j := by
  intro n
  induction n with
  | zero => exact fun _ => ⟨hB, fun _ _ => rfl, fun _ _ _ => rfl⟩
  | succ n ih =>
    intro hn
    obtain ⟨i1, i2, i3⟩ := ih (by omega)
    unfold mvL
    by_cases c : wIn S n p = true
    · rw [if_pos c]
      have e := (hg n (by omega) c).2
      rw [← i2 n (Nat.le_refl _), ← i3 0 1 (by decide)] at e
      refine ⟨SB_ld i1 e, fun j hj => ?_, fun c j hc => ?_⟩
      · show up2 _ 4 n _ 4 j = _
        rw [up2_ne _ _ (Or.inr (by omega))]
        exact i2 j (by omega)
      · show up2 _ 4 n _ c j = _
        rw [up2_ne _ _ (Or.inl hc)]
        exact i3 c j hc
    · rw [if_neg c]
      exact ⟨i1, fun j hj => i2 j (by omega), i3⟩
def sameM (S : gSt) (p : Nat) : Bool := match fnd S (S.1 0 1) with
  | none => false
  | some t => decide (chd S t (S.2.1 3 (8 * p + (S.1 4 p - 1))) = some p)
def rf_moveProject (S : gSt) (x : Int32) : Int32 := if isP S x = false then 1 else if canM S x.toNatClampNeg = false then 2 else 0
def mvT (S : gSt) (p : Nat) : Int32 × gSt := if sameM S p = true then (0, lkS S) else (nI (cntW S p (S.1 0 2)), lkS (mvL S p (S.1 4 p - 1) (S.1 0 2)))
def mo_moveProject (S : gSt) (x : Int32) : Int32 × Int32 × gSt := gd (rf_moveProject S x) 0 S (mvT S x.toNatClampNeg)
