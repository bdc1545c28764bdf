/-! ===== the model: what each call answers, refuses and leaves (5) ===== -/
def isR (S : gSt) (x : Int32) : Bool := (decide (0 ≤ x) && decide (x ≤ nI (S.1 0 4) - 1)) && S.2.2 11 x.toNatClampNeg
theorem isR_nI {S : gSt} (hB : SB S) {x : Int32} (h : isR S x = true) : ∃ r, r < S.1 0 4 ∧ x = nI r ∧ S.2.2 11 r = true ∧ x.toNatClampNeg = r := by
  have b4 := hB.2.2.2.1
  obtain ⟨h1, h2⟩ := Bool.and_eq_true_iff.mp h
  obtain ⟨e, hl⟩ := le_pred (by omega) h1
  exact ⟨x.toNatClampNeg, hl, e, h2, rfl⟩
def rf_settle (S : gSt) (x b : Int32) : Int32 := if isR S x = false then 1 else if (decide (0 ≤ b) && decide (b ≤ S.2.1 10 x.toNatClampNeg)) = false then 2 else 0
def stlS (S : gSt) (r : Nat) (b : Int32) : gSt := sI (sB S 11 r false) 7 (S.1 9 r) (S.2.1 7 (S.1 9 r) + b)
def mo_settle (S : gSt) (x b : Int32) : Int32 × Int32 × gSt := gd (rf_settle S x b) 0 S (S.2.1 7 (S.1 9 x.toNatClampNeg) + b, lkS (stlS S x.toNatClampNeg b))
set_option maxRecDepth 100000 in
set_option maxHeartbeats 4000000 in
theorem c_M_settle (l : Launch) (hfl : l.stackTraces = false) (M : gMT) (σ : gS) (φ : gS) (m : Nat) (ad : Nat → Nat) (rf x b : Int32) (S : gSt) (hM : Mod M φ σ m ad rf S) (hB : SB S) : Con l M yX5_settle (.code yX5_settle cX5_settle 4 (Option.some FieldType.int)) 5 0 0 [.ref m, .int x, .int b] σ (rI (mP M φ m ad (mo_settle S x b))) (nX) := by
  refine g_con hfl (by decide) (lv := [(0, .ref m), (1, .int x), (2, .int b)]) rfl rfl (Nat.le_of_ble_eq_true rfl) (fun X hX hC hR htb => ?_)
  have b3 := hB.2.2.1
  have b4 := hB.2.2.2.1
  have b8 := hB.2.2.2.2.2.2.2
  have join : ∀ w : Int32, w = rf_settle S x b → G X M 4 (gQ X M 0 0 (rI (mP M φ m ad (mo_settle S x b))) nX) 0 0 σ 57 [(0, .ref m), (1, .int x), (2, .int b)] [.int w, .ref m] := by
    intro w hw
    refine g_ci (q := 60) (g_runV hC kv_X5_67 md_X5_refused (c_M_refused _ hC.fl M _ φ m ad rf w S hM) (ci := 5) rfl hM.1 dX5_settle_57 (by decide) (by decide) (by omega) (by omega) rfl rfl (Nat.le_of_ble_eq_true rfl)) rfl (fun r σ2 ⟨e1, hM2⟩ => ?_) (fun _ _ h9 => False.elim h9)
    subst e1
    refine g_if_eq (tgt := 65) (q := 63) hC dX5_settle_60 (by decide) rfl (fun c_60 => ?_) (fun c_60 => ?_)
    · have h0 := rf0.mp c_60
      subst h0
      obtain ⟨h8, -⟩ := rf2 hw
      obtain ⟨r, hr, ex, -, ec⟩ := isR_nI hB (Bool.not_eq_false _ ▸ h8)
      have hf := b8 r hr
      have eT : mo_settle S x b = (0, S.2.1 7 (S.1 9 r) + b, lkS (stlS S r b)) := by
        rw [mo_settle, ← hw, gd0 rfl, ec]
      rw [eT]
      clear eT hw
      have hM3 := hM2.w11 r false
      have hM4 := hM3.w7 (S.1 9 r) (S.2.1 7 (S.1 9 r) + b)
      subst ex
      refine g_aload_n (q := 66) (i := 0) hC dX5_settle_65 rfl rfl rfl ?_
      refine g_getf (q := 69) hC kg_X5_46 dX5_settle_66 hM2.1 rfl rfl ?_
      refine g_iload_n (q := 70) (i := 1) hC dX5_settle_69 rfl rfl rfl ?_
      refine g_iconst (q := 71) (v := (0)) hC dX5_settle_70 rfl rfl ?_
      refine g_zast (q := 72) hC dX5_settle_71 hM2.a11 (vp_in_nI (by omega) (by omega)) rfl ?_
      rw [nI_clamp (by omega)]
      refine g_aload_n (q := 73) (i := 0) hC dX5_settle_72 rfl rfl rfl ?_
      refine g_getf (q := 76) hC kg_X5_33 dX5_settle_73 hM3.1 rfl rfl ?_
      refine g_aload_n (q := 77) (i := 0) hC dX5_settle_76 rfl rfl rfl ?_
      refine g_getf (q := 80) hC kg_X5_40 dX5_settle_77 hM3.1 rfl rfl ?_
      refine g_iload_n (q := 81) (i := 1) hC dX5_settle_80 rfl rfl rfl ?_
      refine g_iald (q := 82) (v := nI (S.1 9 r)) hC dX5_settle_81 hM3.a9 (vp_in_nI (by omega) (by omega)) (by rw [nI_clamp (by omega)] <;> rfl) rfl ?_
      refine g_dup2 (q := 83) hC dX5_settle_82 rfl rfl rfl ?_
      refine g_iald (q := 84) (v := S.2.1 7 (S.1 9 r)) hC dX5_settle_83 hM3.a7 (vp_in_nI (by omega) (by omega)) (by rw [nI_clamp (by omega)] <;> rfl) rfl ?_
      refine g_iload_n (q := 85) (i := 2) hC dX5_settle_84 rfl rfl rfl ?_
      refine g_iadd (q := 86) hC dX5_settle_85 rfl rfl ?_
      refine g_iast (q := 87) hC dX5_settle_86 hM3.a7 (vp_in_nI (by omega) (by omega)) rfl ?_
      rw [nI_clamp (by omega)]
      refine g_aload_n (q := 88) (i := 0) hC dX5_settle_87 rfl rfl rfl ?_
      refine g_cv (q := 91) (g_runV hC kv_X5_103 md_X5_look (c_M_look _ hC.fl M _ φ m ad 0 _ hM4 hB) (ci := 5) rfl hM4.1 dX5_settle_88 (by decide) (by decide) (by omega) (by omega) rfl rfl (Nat.le_of_ble_eq_true rfl)) rfl (fun σ6 hM6 => ?_) (fun _ _ h9 => False.elim h9)
      refine g_aload_n (q := 92) (i := 0) hC dX5_settle_91 rfl rfl rfl ?_
      refine g_getf (q := 95) hC kg_X5_33 dX5_settle_92 hM6.1 rfl rfl ?_
      refine g_aload_n (q := 96) (i := 0) hC dX5_settle_95 rfl rfl rfl ?_
      refine g_getf (q := 99) hC kg_X5_40 dX5_settle_96 hM6.1 rfl rfl ?_
      refine g_iload_n (q := 100) (i := 1) hC dX5_settle_99 rfl rfl rfl ?_
      refine g_iald (q := 101) (v := nI (S.1 9 r)) hC dX5_settle_100 hM6.a9 (vp_in_nI (by omega) (by omega)) (by rw [nI_clamp (by omega)] <;> rfl) rfl ?_
      refine g_iald (q := 102) (v := (lkS (stlS S r b)).2.1 7 (S.1 9 r)) hC dX5_settle_101 hM6.a7 (vp_in_nI (by omega) (by omega)) (by rw [nI_clamp (by omega)] <;> rfl) rfl ?_
      exact g_iret hC hR dX5_settle_102 (by omega) (by omega) (⟨_, rfl, ⟨by show (lkS _).2.1 7 (S.1 9 r) = S.2.1 7 (S.1 9 r) + b; rw [lkS, lk_col _ _ (by decide)]; exact up2_self _ _ _ _, hM6⟩⟩)
    · have h1 : ¬ w = 0 := fun z => c_60 (rf0.mpr z)
      refine g_iconst (q := 64) (v := (0)) hC dX5_settle_63 rfl rfl ?_
      exact g_iret hC hR dX5_settle_64 (by omega) (by omega) (⟨_, rfl, by rw [mo_settle, ← hw, gd1 h1]; exact ⟨rfl, hM2⟩⟩)
  have join0 : ∀ v3 : Bool, v3 = isR S x → G X M 4 (gQ X M 0 0 (rI (mP M φ m ad (mo_settle S x b))) nX) 0 0 σ 28 [(0, .ref m), (1, .int x), (2, .int b)] [.int (bI v3)] := by
    intro v3 hv
    refine g_istore_n (q := 29) (i := 3) hC dX5_settle_28 rfl (by decide) rfl ?_
    refine g_aload_n (q := 30) (i := 0) hC dX5_settle_29 rfl rfl rfl ?_
    refine g_iload_n (q := 31) (i := 3) hC dX5_settle_30 rfl rfl rfl ?_
    refine g_if_ne (tgt := 38) (q := 34) hC dX5_settle_31 (by decide) rfl (fun c_31 => ?_) (fun c_31 => ?_)
    · have g1 : isR S x = true := by rw [← hv]; exact bI_n.mp c_31
      obtain ⟨r, hr, ex, -, ec⟩ := isR_nI hB g1
      have eF : rf_settle S x b = (if (decide (0 ≤ b) && decide (b ≤ S.2.1 10 r)) = false then 2 else 0) := by
        rw [rf_settle, if_neg (by rw [g1]; decide), ec]
      rw [eF] at join
      subst ex
      refine g_iload_n (q := 39) (i := 2) hC dX5_settle_38 rfl rfl rfl ?_
      refine g_iconst (q := 40) (v := (0)) hC dX5_settle_39 rfl rfl ?_
      refine g_aload_n (q := 41) (i := 0) hC dX5_settle_40 rfl rfl rfl ?_
      refine g_getf (q := 44) hC kg_X5_43 dX5_settle_41 hM.1 rfl rfl ?_
      refine g_iload_n (q := 45) (i := 1) hC dX5_settle_44 rfl rfl rfl ?_
      refine g_iald (q := 46) (v := S.2.1 10 r) hC dX5_settle_45 hM.a10 (vp_in_nI (by omega) (by omega)) (by rw [nI_clamp (by omega)] <;> rfl) rfl ?_
      refine g_ci (q := 49) (g_runS hC ks_X5_78 md_X5_in (c_M_in _ hC.fl M _ b 0 (S.2.1 10 r)) dX5_settle_46 (by decide) (by decide) (by omega) (by omega) rfl rfl (Nat.le_of_ble_eq_true rfl)) rfl (fun r σ ⟨e3, e2⟩ => ?_) (fun _ _ h9 => False.elim h9)
      subst e3 e2
      refine g_if_eq (tgt := 56) (q := 52) hC dX5_settle_49 (by decide) rfl (fun c_49 => ?_) (fun c_49 => ?_)
      · refine g_iconst (q := 57) (v := (2)) hC dX5_settle_56 rfl rfl ?_
        refine g_sub (lv0 := [(0, .ref m), (1, .int (nI r)), (2, .int b)]) ⟨rfl, rfl, rfl, trivial⟩ ?_
        exact join 2 (by rw [if_pos (bI_0.mp c_49)])
      · refine g_iconst (q := 53) (v := (0)) hC dX5_settle_52 rfl rfl ?_
        refine g_goto (tgt := 57) hC dX5_settle_53 (by decide) ?_
        refine g_sub (lv0 := [(0, .ref m), (1, .int (nI r)), (2, .int b)]) ⟨rfl, rfl, rfl, trivial⟩ ?_
        exact join 0 (by rw [if_neg (by rw [bI_n.mp c_49]; decide)])
    · refine g_iconst (q := 35) (v := (1)) hC dX5_settle_34 rfl rfl ?_
      refine g_goto (tgt := 57) hC dX5_settle_35 (by decide) ?_
      refine g_sub (lv0 := [(0, .ref m), (1, .int x), (2, .int b)]) ⟨rfl, rfl, rfl, trivial⟩ ?_
      exact join 1 (by rw [rf_settle, if_pos (by rw [← hv]; exact bI_0.mp c_31)])
  refine g_iload_n (q := 1) (i := 1) hC dX5_settle_0 rfl rfl rfl ?_
  refine g_iconst (q := 2) (v := (0)) hC dX5_settle_1 rfl rfl ?_
  refine g_aload_n (q := 3) (i := 0) hC dX5_settle_2 rfl rfl rfl ?_
  refine g_getf (q := 6) (v := .int (nI (S.1 0 4))) hC kg_X5_106 dX5_settle_3 hM.1 rfl rfl ?_
  refine g_iconst (q := 7) (v := (1)) hC dX5_settle_6 rfl rfl ?_
  refine g_isub (q := 8) hC dX5_settle_7 rfl rfl ?_
  refine g_ci (q := 11) (g_runS hC ks_X5_78 md_X5_in (c_M_in _ hC.fl M _ x 0 _) dX5_settle_8 (by decide) (by decide) (by omega) (by omega) rfl rfl (Nat.le_of_ble_eq_true rfl)) rfl (fun r σ ⟨e1, e2⟩ => ?_) (fun _ _ h9 => False.elim h9)
  subst e1 e2
  refine g_if_eq (tgt := 27) (q := 14) hC dX5_settle_11 (by decide) rfl (fun c_11 => ?_) (fun c_11 => ?_)
  · refine g_iconst (q := 28) (v := (0)) hC dX5_settle_27 rfl rfl ?_
    exact join0 false (by rw [isR, bI_0.mp c_11]; rfl)
  · have g1 := bI_n.mp c_11
    obtain ⟨e, hlt⟩ := le_pred (by omega) g1
    have eR : isR S x = S.2.2 11 x.toNatClampNeg := by rw [isR, g1]; rfl
    rw [eR] at join0
    generalize hj : x.toNatClampNeg = j at e hlt join0
    subst e
    refine g_aload_n (q := 15) (i := 0) hC dX5_settle_14 rfl rfl rfl ?_
    refine g_getf (q := 18) hC kg_X5_46 dX5_settle_15 hM.1 rfl rfl ?_
    refine g_iload_n (q := 19) (i := 1) hC dX5_settle_18 rfl rfl rfl ?_
    refine g_zald (q := 20) (v := bI (S.2.2 11 j)) hC dX5_settle_19 hM.a11 (vp_in_nI (by omega) (by omega)) (by rw [nI_clamp (by omega)] <;> rfl) rfl ?_
    refine g_if_eq (tgt := 27) (q := 23) hC dX5_settle_20 (by decide) rfl (fun c_20 => ?_) (fun c_20 => ?_)
    · refine g_iconst (q := 28) (v := (0)) hC dX5_settle_27 rfl rfl ?_
      exact join0 false (bI_0.mp c_20).symm
    · refine g_iconst (q := 24) (v := (1)) hC dX5_settle_23 rfl rfl ?_
      refine g_goto (tgt := 28) hC dX5_settle_24 (by decide) ?_
      exact join0 true (bI_n.mp c_20).symm
def rf_delete (S : gSt) (x : Int32) : Int32 := if isF S x = true then 0 else 1
/-- the first k reservations seen: those of f are closed -/
def clO (S : gSt) (f k : Nat) : gSt := (S.1, S.2.1, fun c i => if c = 11 ∧ i < k then (S.2.2 11 i && !decide (S.1 9 i = f)) else S.2.2 c i)
theorem clO_0 (S : gSt) (f : Nat) : clO S f 0 = S := by
  unfold clO
  have e : (fun c i => if c = 11 ∧ i < 0 then (S.2.2 11 i && !decide (S.1 9 i = f)) else S.2.2 c i) = S.2.2 := by
    funext c i
    exact if_neg (fun z => absurd z.2 (Nat.not_lt_zero _))
  rw [e]
theorem clO_s (S : gSt) (f k : Nat) : sB (clO S f k) 11 k (S.2.2 11 k && !decide (S.1 9 k = f)) = clO S f (k + 1) := by
  have e : up2 (clO S f k).2.2 11 k (S.2.2 11 k && !decide (S.1 9 k = f)) = (clO S f (k + 1)).2.2 := by
    funext c i
    unfold clO up2
    dsimp only
    by_cases h : c = 11
    · subst h
      by_cases hi : i = k
      · subst hi
        rw [if_pos ⟨rfl, rfl⟩, if_pos ⟨rfl, by omega⟩]
      · rw [if_neg (fun z => hi z.2)]
        by_cases hl : i < k
        · rw [if_pos ⟨rfl, hl⟩, if_pos ⟨rfl, by omega⟩]
        · rw [if_neg (fun z => hl z.2), if_neg (fun z => by have := z.2; omega)]
    · rw [if_neg (fun z => h z.1), if_neg (fun z => h z.1), if_neg (fun z => h z.1)]
  unfold sB
  rw [e]
  rfl
theorem clO_k (S : gSt) (f k : Nat) : (clO S f k).2.2 11 k = S.2.2 11 k := if_neg (fun z => absurd z.2 (Nat.lt_irrefl _))
def delS (S : gSt) (f : Nat) : gSt := clO (sB S 8 f true) f (S.1 0 4)
def mo_delete (S : gSt) (x : Int32) : Int32 × Int32 × gSt := gd (rf_delete S x) 0 S (usg S x.toNatClampNeg (S.1 0 4), lkS (delS S x.toNatClampNeg))
set_option maxRecDepth 100000 in
set_option maxHeartbeats 4000000 in
theorem c_M_delete (l : Launch) (hfl : l.stackTraces = false) (M : gMT) (σ : gS) (φ : gS) (m : Nat) (ad : Nat → Nat) (rf x : Int32) (S : gSt) (hM : Mod M φ σ m ad rf S) (hB : SB S) : Con l M yX5_delete (.code yX5_delete cX5_delete 4 (Option.some FieldType.int)) 5 0 0 [.ref m, .int x] σ (rI (mP M φ m ad (mo_delete S x))) (nX) := by
  refine g_con hfl (by decide) (lv := [(0, .ref m), (1, .int x)]) rfl rfl (Nat.le_of_ble_eq_true rfl) (fun X hX hC hR htb => ?_)
  have b3 := hB.2.2.1
  have b4 := hB.2.2.2.1
  have b8 := hB.2.2.2.2.2.2.2
  have join : ∀ w : Int32, w = rf_delete S x → G X M 4 (gQ X M 0 0 (rI (mP M φ m ad (mo_delete S x))) nX) 0 0 σ 14 [(0, .ref m), (1, .int x)] [.int w, .ref m] := by
    intro w hw
    refine g_ci (q := 17) (g_runV hC kv_X5_67 md_X5_refused (c_M_refused _ hC.fl M _ φ m ad rf w S hM) (ci := 5) rfl hM.1 dX5_delete_14 (by decide) (by decide) (by omega) (by omega) rfl rfl (Nat.le_of_ble_eq_true rfl)) rfl (fun r σ2 ⟨e1, hM2⟩ => ?_) (fun _ _ h9 => False.elim h9)
    subst e1
    refine g_if_eq (tgt := 22) (q := 20) hC dX5_delete_17 (by decide) rfl (fun c_17 => ?_) (fun c_17 => ?_)
    · have h0 := rf0.mp c_17
      subst h0
      obtain ⟨f, hf, ex, -, ec⟩ := isF_nI hB (rf1' hw)
      have eT : mo_delete S x = (0, usg S f (S.1 0 4), lkS (delS S f)) := by
        rw [mo_delete, ← hw, gd0 rfl, ec]
      rw [eT]
      clear eT hw
      have loop : ∀ (d9 i : Nat) (σ3 : gS), i + d9 = S.1 0 4 → Mod M φ σ3 m ad 0 (clO (sB S 8 f true) f i) → G X M 4 (gQ X M 0 0 (rI (mP M φ m ad (0, usg S f (S.1 0 4), lkS (delS S f)))) nX) 0 0 σ3 37 [(3, .int (nI i)), (2, .int (usg S f (S.1 0 4))), (0, .ref m), (1, .int (nI f))] [] := by
        intro d9
        induction d9 with
        | zero =>
          intro i σ3 h1 hM3
          refine g_iload_n (q := 38) (i := 3) hC dX5_delete_37 rfl rfl rfl ?_
          refine g_aload_n (q := 39) (i := 0) hC dX5_delete_38 rfl rfl rfl ?_
          refine g_getf (q := 42) (v := .int (nI (S.1 0 4))) hC kg_X5_106 dX5_delete_39 hM3.1 rfl rfl ?_
          refine g_icmp_ge (tgt := 81) (q := 45) hC dX5_delete_42 (by decide) rfl (fun c_42 => ?_) (fun c_42 => ?_)
          · have hM4 : Mod M φ σ3 m ad 0 (delS S f) := by
              rw [show i = S.1 0 4 by omega] at hM3
              exact hM3
            refine g_aload_n (q := 82) (i := 0) hC dX5_delete_81 rfl rfl rfl ?_
            refine g_cv (q := 85) (g_runV hC kv_X5_103 md_X5_look (c_M_look _ hC.fl M _ φ m ad 0 _ hM4 hB) (ci := 5) rfl hM4.1 dX5_delete_82 (by decide) (by decide) (by omega) (by omega) rfl rfl (Nat.le_of_ble_eq_true rfl)) rfl (fun σ6 hM6 => ?_) (fun _ _ h9 => False.elim h9)
            refine g_iload_n (q := 86) (i := 2) hC dX5_delete_85 rfl rfl rfl ?_
            exact g_iret hC hR dX5_delete_86 (by omega) (by omega) (⟨_, rfl, ⟨rfl, hM6⟩⟩)
          · exact absurd (nI_le (by omega) (by omega)) c_42
        | succ d9 ih =>
          intro i σ3 h1 hM3
          have hri := b8 i (by omega)
          have e8 : (sB S 8 f true).2.2 11 i = S.2.2 11 i := rfl
          have store : ∀ v : Bool, v = (S.2.2 11 i && !decide (S.1 9 i = f)) → G X M 4 (gQ X M 0 0 (rI (mP M φ m ad (0, usg S f (S.1 0 4), lkS (delS S f)))) nX) 0 0 σ3 74 [(3, .int (nI i)), (2, .int (usg S f (S.1 0 4))), (0, .ref m), (1, .int (nI f))] [.int (bI v), .int (nI i), .ref (ad 11)] := by
            intro v hv
            have hM4 := hM3.w11 i v
            have e9 : sB (clO (sB S 8 f true) f i) 11 i v = clO (sB S 8 f true) f (i + 1) := by
              rw [← clO_s, hv]
              rfl
            rw [e9] at hM4
            refine g_zast (q := 75) hC dX5_delete_74 hM3.a11 (vp_in_nI (by omega) (by omega)) rfl ?_
            rw [nI_clamp (by omega), show vp_nar .boolean (bI v) = bI v by cases v <;> rfl]
            refine g_iinc (q := 78) (i := 3) (v := (nI (i + 1))) hC dX5_delete_75 rfl (nI_1 _) rfl ?_
            refine g_goto (tgt := 37) hC dX5_delete_78 (by decide) ?_
            refine g_sub (lv0 := [(3, .int (nI (i + 1))), (2, .int (usg S f (S.1 0 4))), (0, .ref m), (1, .int (nI f))]) ⟨rfl, rfl, rfl, rfl, trivial⟩ ?_
            exact ih (i + 1) _ (by omega) hM4
          refine g_iload_n (q := 38) (i := 3) hC dX5_delete_37 rfl rfl rfl ?_
          refine g_aload_n (q := 39) (i := 0) hC dX5_delete_38 rfl rfl rfl ?_
          refine g_getf (q := 42) (v := .int (nI (S.1 0 4))) hC kg_X5_106 dX5_delete_39 hM3.1 rfl rfl ?_
          refine g_icmp_ge (tgt := 81) (q := 45) hC dX5_delete_42 (by decide) rfl (fun c_42 => ?_) (fun c_42 => ?_)
          · exact absurd c_42 (nI_ge (by omega) (by omega))
          · refine g_aload_n (q := 46) (i := 0) hC dX5_delete_45 rfl rfl rfl ?_
            refine g_getf (q := 49) hC kg_X5_46 dX5_delete_46 hM3.1 rfl rfl ?_
            refine g_iload_n (q := 50) (i := 3) hC dX5_delete_49 rfl rfl rfl ?_
            refine g_aload_n (q := 51) (i := 0) hC dX5_delete_50 rfl rfl rfl ?_
            refine g_getf (q := 54) hC kg_X5_46 dX5_delete_51 hM3.1 rfl rfl ?_
            refine g_iload_n (q := 55) (i := 3) hC dX5_delete_54 rfl rfl rfl ?_
            refine g_zald (q := 56) (v := bI ((clO (sB S 8 f true) f i).2.2 11 i)) hC dX5_delete_55 hM3.a11 (vp_in_nI (by omega) (by omega)) (by rw [nI_clamp (by omega)] <;> rfl) rfl ?_
            refine g_if_eq (tgt := 73) (q := 59) hC dX5_delete_56 (by decide) rfl (fun c_56 => ?_) (fun c_56 => ?_)
            · have e1 : S.2.2 11 i = false := by
                have h := bI_0.mp c_56
                rw [clO_k] at h
                exact h
              refine g_iconst (q := 74) (v := (0)) hC dX5_delete_73 rfl rfl ?_
              exact store false (by rw [e1]; rfl)
            · have e1 : S.2.2 11 i = true := by
                have h := bI_n.mp c_56
                rw [clO_k] at h
                exact h
              refine g_aload_n (q := 60) (i := 0) hC dX5_delete_59 rfl rfl rfl ?_
              refine g_getf (q := 63) hC kg_X5_40 dX5_delete_60 hM3.1 rfl rfl ?_
              refine g_iload_n (q := 64) (i := 3) hC dX5_delete_63 rfl rfl rfl ?_
              refine g_iald (q := 65) (v := nI (S.1 9 i)) hC dX5_delete_64 hM3.a9 (vp_in_nI (by omega) (by omega)) (by rw [nI_clamp (by omega)] <;> rfl) rfl ?_
              refine g_iload_n (q := 66) (i := 1) hC dX5_delete_65 rfl rfl rfl ?_
              refine g_icmp_eq (tgt := 73) (q := 69) hC dX5_delete_66 (by decide) rfl (fun c_66 => ?_) (fun c_66 => ?_)
              · have e2 := (nI_eq (by omega) (by omega)).mp c_66
                refine g_iconst (q := 74) (v := (0)) hC dX5_delete_73 rfl rfl ?_
                exact store false (by rw [decide_eq_true e2]; simp)
              · refine g_iconst (q := 70) (v := (1)) hC dX5_delete_69 rfl rfl ?_
                refine g_goto (tgt := 74) hC dX5_delete_70 (by decide) ?_
                exact store true (by rw [e1, decide_eq_false (fun z => c_66 (by rw [z]))]; rfl)
      subst ex
      have hM3 := hM2.w8 f true
      refine g_aload_n (q := 23) (i := 0) hC dX5_delete_22 rfl rfl rfl ?_
      refine g_iload_n (q := 24) (i := 1) hC dX5_delete_23 rfl rfl rfl ?_
      refine g_ci (q := 27) (g_runV hC kv_X5_112 md_X5_usage (c_M_usage _ hC.fl M _ φ m f ad 0 S hM2 hB (by omega)) (ci := 5) rfl hM2.1 dX5_delete_24 (by decide) (by decide) (by omega) (by omega) rfl rfl (Nat.le_of_ble_eq_true rfl)) rfl (fun r σ ⟨e1, e2⟩ => ?_) (fun _ _ h9 => False.elim h9)
      subst e1 e2
      refine g_istore_n (q := 28) (i := 2) hC dX5_delete_27 rfl (by decide) rfl ?_
      refine g_aload_n (q := 29) (i := 0) hC dX5_delete_28 rfl rfl rfl ?_
      refine g_getf (q := 32) hC kg_X5_36 dX5_delete_29 hM2.1 rfl rfl ?_
      refine g_iload_n (q := 33) (i := 1) hC dX5_delete_32 rfl rfl rfl ?_
      refine g_iconst (q := 34) (v := (1)) hC dX5_delete_33 rfl rfl ?_
      refine g_zast (q := 35) hC dX5_delete_34 hM2.a8 (vp_in_nI (by omega) (by omega)) rfl ?_
      rw [nI_clamp (by omega)]
      refine g_iconst (q := 36) (v := nI 0) hC dX5_delete_35 rfl rfl ?_
      refine g_istore_n (q := 37) (i := 3) hC dX5_delete_36 rfl (by decide) rfl ?_
      refine g_sub (lv0 := [(3, .int (nI 0)), (2, .int (usg S f (S.1 0 4))), (0, .ref m), (1, .int (nI f))]) ⟨rfl, rfl, rfl, rfl, trivial⟩ ?_
      exact loop (S.1 0 4) 0 _ (by omega) (by rw [clO_0]; exact hM3)
    · have h1 : ¬ w = 0 := fun z => c_17 (rf0.mpr z)
      refine g_iconst (q := 21) (v := (0)) hC dX5_delete_20 rfl rfl ?_
      exact g_iret hC hR dX5_delete_21 (by omega) (by omega) (⟨_, rfl, by rw [mo_delete, ← hw, gd1 h1]; exact ⟨rfl, hM2⟩⟩)
  refine g_aload_n (q := 1) (i := 0) hC dX5_delete_0 rfl rfl rfl ?_
  refine g_aload_n (q := 2) (i := 0) hC dX5_delete_1 rfl rfl rfl ?_
  refine g_iload_n (q := 3) (i := 1) hC dX5_delete_2 rfl rfl rfl ?_
  refine g_ci (q := 6) (g_runV hC kv_X5_139 md_X5_isFile (c_M_isFile _ hC.fl M _ φ m ad rf x S hM hB) (ci := 5) rfl hM.1 dX5_delete_3 (by decide) (by decide) (by omega) (by omega) rfl rfl (Nat.le_of_ble_eq_true rfl)) rfl (fun r σ ⟨e1, e2⟩ => ?_) (fun _ _ h9 => False.elim h9)
  subst e1 e2
  refine g_if_eq (tgt := 13) (q := 9) hC dX5_delete_6 (by decide) rfl (fun c_6 => ?_) (fun c_6 => ?_)
  · refine g_iconst (q := 14) (v := (1)) hC dX5_delete_13 rfl rfl ?_
    exact join 1 (by rw [rf_delete, if_neg (by rw [bI_0.mp c_6]; decide)])
  · refine g_iconst (q := 10) (v := (0)) hC dX5_delete_9 rfl rfl ?_
    refine g_goto (tgt := 14) hC dX5_delete_10 (by decide) ?_
    exact join 0 (by rw [rf_delete, if_pos (bI_n.mp c_6)])
