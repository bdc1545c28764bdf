/-! ===== the model: moveProject ===== -/
set_option maxRecDepth 100000 in
set_option maxHeartbeats 4000000 in
theorem c_M_moveProject (l : Launch) (hfl : l.stackTraces = false) (M : gMT) (σ : gS) (φ : gS) (m : Nat) (ad : Nat → Nat) (rf x : Int32) (S : gSt) (hM : Mod M φ σ m ad rf S) (hB : SB S) (hL : SL S) : Con l M yX5_moveProject (.code yX5_moveProject cX5_moveProject 7 (Option.some FieldType.int)) 5 0 0 [.ref m, .int x] σ (rI (mP M φ m ad (mo_moveProject S x))) (nX) := by
  refine g_con hfl (by decide) (lv := [(0, .ref m), (1, .int x)]) rfl rfl (Nat.le_of_ble_eq_true rfl) (fun X hX hC hR htb => ?_)
  have hB0 := hB
  obtain ⟨b1, b2, b3, b4, b5, b6, b7, b8⟩ := hB
  have join : ∀ w : Int32, w = rf_moveProject S x → G X M 7 (gQ X M 0 0 (rI (mP M φ m ad (mo_moveProject S x))) nX) 0 0 σ 26 [(0, .ref m), (1, .int x)] [.int w, .ref m] := by
    intro w hw
    refine g_ci (q := 29) (g_runV hC kv_X5_67 md_X5_refused (c_M_refused _ hC.fl M _ φ m ad rf w S hM) (ci := 5) rfl hM.1 dX5_moveProject_26 (by decide) (by decide) (by omega) (by omega) rfl rfl (Nat.le_of_ble_eq_true rfl)) rfl (fun r σ2 ⟨e1, hM2⟩ => ?_) (fun _ _ h9 => False.elim h9)
    subst e1
    refine g_if_eq (tgt := 34) (q := 32) hC dX5_moveProject_29 (by decide) rfl (fun c_29 => ?_) (fun c_29 => ?_)
    · have h0 := rf0.mp c_29
      subst h0
      obtain ⟨h8, h9⟩ := rf2 hw
      obtain ⟨p, hp, ex⟩ := isP_nI hB0 (Bool.not_eq_false _ ▸ h8)
      have ec : x.toNatClampNeg = p := by rw [ex, nI_clamp (by omega)]
      rw [ec] at h9
      obtain ⟨t, ht, hp0, hwt, hc2, hall⟩ := canM_f hB0 hL hp (Bool.not_eq_false _ ▸ h9)
      have eT : mo_moveProject S x = (0, mvT S p) := by
        rw [mo_moveProject, ← hw, gd0 rfl, ec]
      rw [eT]
      clear eT hw
      have hlp := b6 p hp
      have hl1 := hL p hp hp0
      have ht9 := fnd_lt ht
      subst ex
      have fin : ∀ (n : Int32) (S2 : gSt) (σ3 : gS) (lv : List (Nat × Value)), SB S2 → gL lv 0 = some (.ref m) → gL lv 4 = some (.int n) → Mod M φ σ3 m ad 0 S2 → mvT S p = (n, lkS S2) → G X M 7 (gQ X M 0 0 (rI (mP M φ m ad (0, mvT S p))) nX) 0 0 σ3 166 lv [] := by
        intro n S2 σ3 lv hB2 g0 g4 hM3 he
        refine g_aload_n (q := 167) (i := 0) hC dX5_moveProject_166 rfl g0 rfl ?_
        refine g_cv (q := 170) (g_runV hC kv_X5_103 md_X5_look (c_M_look _ hC.fl M _ φ m ad 0 S2 hM3 hB2) (ci := 5) rfl hM3.1 dX5_moveProject_167 (by decide) (by decide) (by omega) (by omega) rfl rfl (Nat.le_of_ble_eq_true rfl)) rfl (fun σ6 hM6 => ?_) (fun _ _ h9 => False.elim h9)
        refine g_iload (q := 172) (i := 4) hC dX5_moveProject_170 g4 rfl ?_
        exact g_iret hC hR dX5_moveProject_172 (by omega) (by omega) (⟨_, rfl, by rw [he]; exact ⟨rfl, hM6⟩⟩)
      have loop2 : ∀ (d9 i : Nat) (σ3 : gS), sameM S p = false → i + d9 = S.1 0 2 → Mod M φ σ3 m ad 0 (mvL S p (S.1 4 p - 1) i) → G X M 7 (gQ X M 0 0 (rI (mP M φ m ad (0, mvT S p))) nX) 0 0 σ3 126 [(6, .int (nI i)), (5, .int (nI (msk S p (S.1 0 2)))), (4, .int (nI (cntW S p i))), (3, .int 0), (2, .int (nI (S.1 4 p - 1))), (0, .ref m), (1, .int (nI p))] [] := by
        intro d9
        induction d9 with
        | zero =>
          intro i σ3 hs h1 hM3
          obtain ⟨f1, f2, f3⟩ := mvL_f hB0 hall i (by omega)
          have e2 := f3 0 2 (by decide)
          refine g_iload (q := 128) (i := 6) hC dX5_moveProject_126 rfl rfl ?_
          refine g_aload_n (q := 129) (i := 0) hC dX5_moveProject_128 rfl rfl rfl ?_
          refine g_getf (q := 132) (v := .int (nI ((mvL S p (S.1 4 p - 1) i).1 0 2))) hC kg_X5_16 dX5_moveProject_129 hM3.1 rfl rfl ?_
          refine g_icmp_ge (tgt := 166) (q := 135) hC dX5_moveProject_132 (by decide) rfl (fun c_132 => ?_) (fun c_132 => ?_)
          · exact fin (nI (cntW S p i)) _ _ _ f1 rfl rfl hM3 (by rw [mvT, if_neg (by rw [hs]; decide), show i = S.1 0 2 by omega])
          · exact absurd (nI_le (by omega) (by omega)) c_132
        | succ d9 ih =>
          intro i σ3 hs h1 hM3
          obtain ⟨f1, f2, f3⟩ := mvL_f hB0 hall i (by omega)
          have e2 := f3 0 2 (by decide)
          have hml := msk_lt S p (S.1 0 2)
          have hml2 : 2 ^ (S.1 0 2) ≤ 2 ^ 21 := Nat.pow_le_pow_right (by decide) b2
          have em : msk S p (S.1 0 2) / 2 ^ i % 2 ^ 1 = msk S p (S.1 0 2) / 2 ^ i % 2 := rfl
          have hbit := msk_b (S := S) (p := p) (i := i) (n := S.1 0 2) (by omega)
          have hlt2 : msk S p (S.1 0 2) / 2 ^ i % 2 < 2 := Nat.mod_lt _ (by decide)
          refine g_iload (q := 128) (i := 6) hC dX5_moveProject_126 rfl rfl ?_
          refine g_aload_n (q := 129) (i := 0) hC dX5_moveProject_128 rfl rfl rfl ?_
          refine g_getf (q := 132) (v := .int (nI ((mvL S p (S.1 4 p - 1) i).1 0 2))) hC kg_X5_16 dX5_moveProject_129 hM3.1 rfl rfl ?_
          refine g_icmp_ge (tgt := 166) (q := 135) hC dX5_moveProject_132 (by decide) rfl (fun c_132 => ?_) (fun c_132 => ?_)
          · exact absurd c_132 (nI_ge (by omega) (by omega))
          · refine g_iload_n (q := 136) (i := 3) hC dX5_moveProject_135 rfl rfl rfl ?_
            refine g_if_ne (tgt := 166) (q := 139) hC dX5_moveProject_136 (by decide) rfl (fun c_136 => ?_) (fun c_136 => ?_)
            · exact absurd rfl c_136
            · refine g_iload (q := 141) (i := 5) hC dX5_moveProject_139 rfl rfl ?_
              refine g_iload (q := 143) (i := 6) hC dX5_moveProject_141 rfl rfl ?_
              refine g_ishr (q := 144) (v := (nI (msk S p (S.1 0 2) / 2 ^ i))) hC dX5_moveProject_143 (pk_shrN (by omega) _ _ (s_l i (by omega))) rfl ?_
              refine g_iconst (q := 145) (v := nI 1) hC dX5_moveProject_144 rfl rfl ?_
              refine g_iand (q := 146) (v := (nI (msk S p (S.1 0 2) / 2 ^ i % 2 ^ 1))) hC dX5_moveProject_145 (pk_andN (by have := Nat.div_le_self (msk S p (S.1 0 2)) (2 ^ i); omega) 1 (by decide)) rfl ?_
              refine g_iconst (q := 147) (v := nI 1) hC dX5_moveProject_146 rfl rfl ?_
              refine g_icmp_ne (tgt := 160) (q := 150) hC dX5_moveProject_147 (by decide) rfl (fun c_147 => ?_) (fun c_147 => ?_)
              · have e0 : ¬ wIn S i p = true := fun z => c_147 (by rw [em, hbit.mpr z])
                refine g_iinc (q := 163) (i := 6) (v := (nI (i + 1))) hC dX5_moveProject_160 rfl (nI_1 _) rfl ?_
                refine g_goto (tgt := 126) hC dX5_moveProject_163 (by decide) ?_
                refine g_sub (lv0 := [(6, .int (nI (i + 1))), (5, .int (nI (msk S p (S.1 0 2)))), (4, .int (nI (cntW S p i))), (3, .int 0), (2, .int (nI (S.1 4 p - 1))), (0, .ref m), (1, .int (nI p))]) ⟨rfl, rfl, rfl, rfl, rfl, rfl, rfl, trivial⟩ ?_
                have h := ih (i + 1) σ3 hs (by omega) (by rw [mvL, if_neg e0]; exact hM3)
                rw [show cntW S p (i + 1) = cntW S p i by rw [cntW, if_neg e0]; rfl] at h
                exact h
              · have e0 : wIn S i p = true := hbit.mp (by
                  have h := (nI_eq (by omega) (by omega)).mp c_147
                  omega)
                obtain ⟨g1, g2⟩ := hall i (by omega) e0
                have e5 := f2 i (Nat.le_refl _)
                have e6 := f3 0 1 (by decide)
                refine g_aload_n (q := 151) (i := 0) hC dX5_moveProject_150 rfl rfl rfl ?_
                refine g_iload (q := 153) (i := 6) hC dX5_moveProject_151 rfl rfl ?_
                refine g_iload_n (q := 154) (i := 2) hC dX5_moveProject_153 rfl rfl rfl ?_
                refine g_cv (q := 157) (g_runV hC kv_X5_99 md_X5_lead (c_M_lead _ hC.fl M _ φ m i (S.1 4 p - 1) ad 0 (mvL S p (S.1 4 p - 1) i) hM3 f1 (by omega) (by omega) (by omega)) (ci := 5) rfl hM3.1 dX5_moveProject_154 (by decide) (by decide) (by omega) (by omega) rfl rfl (Nat.le_of_ble_eq_true rfl)) rfl (fun σ4 hM4 => ?_) (fun _ _ h9 => False.elim h9)
                refine g_iinc (q := 160) (i := 4) (v := (nI ((cntW S p i) + 1))) hC dX5_moveProject_157 rfl (nI_1 _) rfl ?_
                refine g_iinc (q := 163) (i := 6) (v := (nI (i + 1))) hC dX5_moveProject_160 rfl (nI_1 _) rfl ?_
                refine g_goto (tgt := 126) hC dX5_moveProject_163 (by decide) ?_
                refine g_sub (lv0 := [(6, .int (nI (i + 1))), (5, .int (nI (msk S p (S.1 0 2)))), (4, .int (nI (cntW S p i + 1))), (3, .int 0), (2, .int (nI (S.1 4 p - 1))), (0, .ref m), (1, .int (nI p))]) ⟨rfl, rfl, rfl, rfl, rfl, rfl, rfl, trivial⟩ ?_
                have h := ih (i + 1) σ4 hs (by omega) (by rw [mvL, if_pos e0]; exact hM4)
                rw [show cntW S p (i + 1) = cntW S p i + 1 by rw [cntW, if_pos e0]] at h
                exact h
      have loop1 : ∀ (d9 i : Nat) (b : Bool), b = sameM S p → i + d9 = S.1 0 2 → G X M 7 (gQ X M 0 0 (rI (mP M φ m ad (0, mvT S p))) nX) 0 0 σ2 85 [(6, .int (nI i)), (5, .int (nI (msk S p i))), (4, .int (nI 0)), (3, .int (bI b)), (2, .int (nI (S.1 4 p - 1))), (0, .ref m), (1, .int (nI p))] [] := by
        intro d9
        induction d9 with
        | zero =>
          intro i b hb h1
          refine g_iload (q := 87) (i := 6) hC dX5_moveProject_85 rfl rfl ?_
          refine g_aload_n (q := 88) (i := 0) hC dX5_moveProject_87 rfl rfl rfl ?_
          refine g_getf (q := 91) (v := .int (nI (S.1 0 2))) hC kg_X5_16 dX5_moveProject_88 hM2.1 rfl rfl ?_
          refine g_icmp_ge (tgt := 123) (q := 94) hC dX5_moveProject_91 (by decide) rfl (fun c_91 => ?_) (fun c_91 => ?_)
          · cases b with
            | true =>
              refine g_sub (lv0 := [(6, .int (nI i)), (5, .int (nI (msk S p i))), (4, .int (nI 0)), (3, .int 1), (2, .int (nI (S.1 4 p - 1))), (0, .ref m), (1, .int (nI p))]) ⟨rfl, rfl, rfl, rfl, rfl, rfl, rfl, trivial⟩ ?_
              refine g_iconst (q := 124) (v := nI 0) hC dX5_moveProject_123 rfl rfl ?_
              refine g_istore (q := 126) (i := 6) hC dX5_moveProject_124 (by decide) rfl ?_
              refine g_iload (q := 128) (i := 6) hC dX5_moveProject_126 rfl rfl ?_
              refine g_aload_n (q := 129) (i := 0) hC dX5_moveProject_128 rfl rfl rfl ?_
              refine g_getf (q := 132) (v := .int (nI (S.1 0 2))) hC kg_X5_16 dX5_moveProject_129 hM2.1 rfl rfl ?_
              refine g_icmp_ge (tgt := 166) (q := 135) hC dX5_moveProject_132 (by decide) rfl (fun c_132 => ?_) (fun c_132 => ?_)
              · exact fin 0 S _ _ hB0 rfl rfl hM2 (by rw [mvT, if_pos hb.symm])
              · refine g_iload_n (q := 136) (i := 3) hC dX5_moveProject_135 rfl rfl rfl ?_
                refine g_if_ne (tgt := 166) (q := 139) hC dX5_moveProject_136 (by decide) rfl (fun c_136 => ?_) (fun c_136 => ?_)
                · exact fin 0 S _ _ hB0 rfl rfl hM2 (by rw [mvT, if_pos hb.symm])
                · exact absurd c_136 (by decide)
            | false =>
              refine g_sub (lv0 := [(6, .int (nI i)), (5, .int (nI (msk S p i))), (4, .int (nI 0)), (3, .int 0), (2, .int (nI (S.1 4 p - 1))), (0, .ref m), (1, .int (nI p))]) ⟨rfl, rfl, rfl, rfl, rfl, rfl, rfl, trivial⟩ ?_
              refine g_iconst (q := 124) (v := nI 0) hC dX5_moveProject_123 rfl rfl ?_
              refine g_istore (q := 126) (i := 6) hC dX5_moveProject_124 (by decide) rfl ?_
              rw [show i = S.1 0 2 by omega]
              refine g_sub (lv0 := [(6, .int (nI 0)), (5, .int (nI (msk S p (S.1 0 2)))), (4, .int (nI (cntW S p 0))), (3, .int 0), (2, .int (nI (S.1 4 p - 1))), (0, .ref m), (1, .int (nI p))]) ⟨rfl, rfl, rfl, rfl, rfl, rfl, rfl, trivial⟩ ?_
              exact loop2 _ 0 _ hb.symm (Nat.zero_add _) hM2
          · exact absurd (nI_le (by omega) (by omega)) c_91
        | succ d9 ih =>
          intro i b hb h1
          have hml := msk_lt S p i
          have tail : ∀ v : Nat, v = (if wIn S i p = true then 2 ^ i else 0) → G X M 7 (gQ X M 0 0 (rI (mP M φ m ad (0, mvT S p))) nX) 0 0 σ2 114 [(6, .int (nI i)), (5, .int (nI (msk S p i))), (4, .int (nI 0)), (3, .int (bI b)), (2, .int (nI (S.1 4 p - 1))), (0, .ref m), (1, .int (nI p))] [.int (nI v), .int (nI (msk S p i))] := by
            intro v hv
            refine g_ior (q := 115) (v := (nI (msk S p (i + 1)))) hC dX5_moveProject_114 (by rw [fa_or, msk, hv]) rfl ?_
            refine g_istore (q := 117) (i := 5) hC dX5_moveProject_115 (by decide) rfl ?_
            refine g_iinc (q := 120) (i := 6) (v := (nI (i + 1))) hC dX5_moveProject_117 rfl (nI_1 _) rfl ?_
            refine g_goto (tgt := 85) hC dX5_moveProject_120 (by decide) ?_
            refine g_sub (lv0 := [(6, .int (nI (i + 1))), (5, .int (nI (msk S p (i + 1)))), (4, .int (nI 0)), (3, .int (bI b)), (2, .int (nI (S.1 4 p - 1))), (0, .ref m), (1, .int (nI p))]) ⟨rfl, rfl, rfl, rfl, rfl, rfl, rfl, trivial⟩ ?_
            exact ih (i + 1) b hb (by omega)
          refine g_iload (q := 87) (i := 6) hC dX5_moveProject_85 rfl rfl ?_
          refine g_aload_n (q := 88) (i := 0) hC dX5_moveProject_87 rfl rfl rfl ?_
          refine g_getf (q := 91) (v := .int (nI (S.1 0 2))) hC kg_X5_16 dX5_moveProject_88 hM2.1 rfl rfl ?_
          refine g_icmp_ge (tgt := 123) (q := 94) hC dX5_moveProject_91 (by decide) rfl (fun c_91 => ?_) (fun c_91 => ?_)
          · exact absurd c_91 (nI_ge (by omega) (by omega))
          · refine g_iload (q := 96) (i := 5) hC dX5_moveProject_94 rfl rfl ?_
            refine g_aload_n (q := 97) (i := 0) hC dX5_moveProject_96 rfl rfl rfl ?_
            refine g_iload (q := 99) (i := 6) hC dX5_moveProject_97 rfl rfl ?_
            refine g_iload_n (q := 100) (i := 1) hC dX5_moveProject_99 rfl rfl rfl ?_
            refine g_ci (q := 103) (g_runV hC kv_X5_82 md_X5_isWithin (c_M_isWithin _ hC.fl M _ φ m i p ad 0 S hM2 hB0 (by omega) hp) (ci := 5) rfl hM2.1 dX5_moveProject_100 (by decide) (by decide) (by omega) (by omega) rfl rfl (Nat.le_of_ble_eq_true rfl)) rfl (fun r σ ⟨e1, e2⟩ => ?_) (fun _ _ h9 => False.elim h9)
            subst e1 e2
            refine g_if_eq (tgt := 113) (q := 106) hC dX5_moveProject_103 (by decide) rfl (fun c_103 => ?_) (fun c_103 => ?_)
            · refine g_iconst (q := 114) (v := nI 0) hC dX5_moveProject_113 rfl rfl ?_
              exact tail 0 (by rw [if_neg (by rw [bI_0.mp c_103]; decide)])
            · refine g_iconst (q := 107) (v := nI 1) hC dX5_moveProject_106 rfl rfl ?_
              refine g_iload (q := 109) (i := 6) hC dX5_moveProject_107 rfl rfl ?_
              refine g_ishl (q := 110) (v := (nI (1 * 2 ^ i))) hC dX5_moveProject_109 (pk_shlN _ _ (s_l i (by omega)) (by have : 2 ^ i ≤ 2 ^ 21 := Nat.pow_le_pow_right (by decide) (by omega); omega)) rfl ?_
              refine g_goto (tgt := 114) hC dX5_moveProject_110 (by decide) ?_
              rw [Nat.one_mul]
              exact tail (2 ^ i) (by rw [if_pos (bI_n.mp c_103)])
      have st3 : ∀ b : Bool, b = sameM S p → G X M 7 (gQ X M 0 0 (rI (mP M φ m ad (0, mvT S p))) nX) 0 0 σ2 75 [(2, .int (nI (S.1 4 p - 1))), (0, .ref m), (1, .int (nI p))] [.int (bI b)] := by
        intro b hb
        refine g_istore_n (q := 76) (i := 3) hC dX5_moveProject_75 rfl (by decide) rfl ?_
        refine g_iconst (q := 77) (v := nI 0) hC dX5_moveProject_76 rfl rfl ?_
        refine g_istore (q := 79) (i := 4) hC dX5_moveProject_77 (by decide) rfl ?_
        refine g_iconst (q := 80) (v := nI 0) hC dX5_moveProject_79 rfl rfl ?_
        refine g_istore (q := 82) (i := 5) hC dX5_moveProject_80 (by decide) rfl ?_
        refine g_iconst (q := 83) (v := nI 0) hC dX5_moveProject_82 rfl rfl ?_
        refine g_istore (q := 85) (i := 6) hC dX5_moveProject_83 (by decide) rfl ?_
        refine g_sub (lv0 := [(6, .int (nI 0)), (5, .int (nI (msk S p 0))), (4, .int (nI 0)), (3, .int (bI b)), (2, .int (nI (S.1 4 p - 1))), (0, .ref m), (1, .int (nI p))]) ⟨rfl, rfl, rfl, rfl, rfl, rfl, rfl, trivial⟩ ?_
        exact loop1 _ 0 b hb (Nat.zero_add _)
      refine g_aload_n (q := 35) (i := 0) hC dX5_moveProject_34 rfl rfl rfl ?_
      refine g_getf (q := 38) hC kg_X5_23 dX5_moveProject_35 hM2.1 rfl rfl ?_
      refine g_iload_n (q := 39) (i := 1) hC dX5_moveProject_38 rfl rfl rfl ?_
      refine g_iald (q := 40) (v := nI (S.1 4 p)) hC dX5_moveProject_39 hM2.a4 (vp_in_nI (by omega) (by omega)) (by rw [nI_clamp (by omega)] <;> rfl) rfl ?_
      refine g_iconst (q := 41) (v := nI 1) hC dX5_moveProject_40 rfl rfl ?_
      refine g_isub (q := 42) (v := (nI ((S.1 4 p) - 1))) hC dX5_moveProject_41 (pk_sub (by omega)) rfl ?_
      refine g_istore_n (q := 43) (i := 2) hC dX5_moveProject_42 rfl (by decide) rfl ?_
      refine g_aload_n (q := 44) (i := 0) hC dX5_moveProject_43 rfl rfl rfl ?_
      refine g_aload_n (q := 45) (i := 0) hC dX5_moveProject_44 rfl rfl rfl ?_
      refine g_aload_n (q := 46) (i := 0) hC dX5_moveProject_45 rfl rfl rfl ?_
      refine g_getf (q := 49) (v := .int (nI (S.1 0 1))) hC kg_X5_64 dX5_moveProject_46 hM2.1 rfl rfl ?_
      refine g_ci (q := 52) (g_runV hC kv_X5_75 md_X5_find (c_M_find _ hC.fl M _ φ m (S.1 0 1) ad 0 S hM2 hB0 b1) (ci := 5) rfl hM2.1 dX5_moveProject_49 (by decide) (by decide) (by omega) (by omega) rfl rfl (Nat.le_of_ble_eq_true rfl)) rfl (fun r σ ⟨e1, e2⟩ => ?_) (fun _ _ h9 => False.elim h9)
      subst e1 e2
      rw [ht, show oI (some t) = nI t from rfl]
      refine g_aload_n (q := 53) (i := 0) hC dX5_moveProject_52 rfl rfl rfl ?_
      refine g_getf (q := 56) hC kg_X5_20 dX5_moveProject_53 hM2.1 rfl rfl ?_
      refine g_bipush (q := 58) (v := nI 8) hC dX5_moveProject_56 rfl rfl ?_
      refine g_iload_n (q := 59) (i := 1) hC dX5_moveProject_58 rfl rfl rfl ?_
      refine g_imul (q := 60) (v := (nI (8 * p))) hC dX5_moveProject_59 (pk_mul _ _) rfl ?_
      refine g_iload_n (q := 61) (i := 2) hC dX5_moveProject_60 rfl rfl rfl ?_
      refine g_iadd (q := 62) (v := (nI ((8 * p) + (S.1 4 p - 1)))) hC dX5_moveProject_61 (nI_add _ _) rfl ?_
      refine g_cald (q := 63) (v := S.2.1 3 ((8 * p) + (S.1 4 p - 1))) hC dX5_moveProject_62 hM2.a3 (vp_in_nI (by omega) (by omega)) (by rw [nI_clamp (by omega)] <;> rfl) rfl ?_
      refine g_ci (q := 66) (g_runV hC kv_X5_86 md_X5_child (c_M_child _ hC.fl M _ φ m t ad 0 _ S hM2 hB0 ht9) (ci := 5) rfl hM2.1 dX5_moveProject_63 (by decide) (by decide) (by omega) (by omega) rfl rfl (Nat.le_of_ble_eq_true rfl)) rfl (fun r σ ⟨e1, e2⟩ => ?_) (fun _ _ h9 => False.elim h9)
      subst e1 e2
      have eS : sameM S p = decide (chd S t (S.2.1 3 (8 * p + (S.1 4 p - 1))) = some p) := by rw [sameM, ht]
      cases e9 : chd S t (S.2.1 3 (8 * p + (S.1 4 p - 1))) with
      | none =>
        rw [e9] at eS
        refine g_iload_n (q := 67) (i := 1) hC dX5_moveProject_66 rfl rfl rfl ?_
        refine g_icmp_ne (tgt := 74) (q := 70) hC dX5_moveProject_67 (by decide) rfl (fun c_67 => ?_) (fun c_67 => ?_)
        · refine g_iconst (q := 75) (v := (0)) hC dX5_moveProject_74 rfl rfl ?_
          exact st3 false (by rw [eS]; rfl)
        · exact absurd c_67 (fun z => by
            have h := nI_pos' (n := p) (by omega)
            rw [← z] at h
            exact absurd h (by decide))
      | some q9 =>
        have hq9 := chd_lt e9
        rw [e9] at eS
        refine g_iload_n (q := 67) (i := 1) hC dX5_moveProject_66 rfl rfl rfl ?_
        refine g_icmp_ne (tgt := 74) (q := 70) hC dX5_moveProject_67 (by decide) rfl (fun c_67 => ?_) (fun c_67 => ?_)
        · have ne : ¬ q9 = p := fun z => c_67 (by rw [z]; rfl)
          refine g_iconst (q := 75) (v := (0)) hC dX5_moveProject_74 rfl rfl ?_
          exact st3 false (by rw [eS]; exact (decide_eq_false (fun z => ne (Option.some.inj z))).symm)
        · have e := (nI_eq (a := q9) (by omega) (by omega)).mp c_67
          refine g_iconst (q := 71) (v := (1)) hC dX5_moveProject_70 rfl rfl ?_
          refine g_goto (tgt := 75) hC dX5_moveProject_71 (by decide) ?_
          exact st3 true (by rw [eS]; exact (decide_eq_true (by rw [e])).symm)
    · have h1 : ¬ w = 0 := fun z => c_29 (rf0.mpr z)
      refine g_iconst (q := 33) (v := (0)) hC dX5_moveProject_32 rfl rfl ?_
      exact g_iret hC hR dX5_moveProject_33 (by omega) (by omega) (⟨_, rfl, by rw [mo_moveProject, ← hw, gd1 h1]; exact ⟨rfl, hM2⟩⟩)
  refine g_aload_n (q := 1) (i := 0) hC dX5_moveProject_0 rfl rfl rfl ?_
  refine g_aload_n (q := 2) (i := 0) hC dX5_moveProject_1 rfl rfl rfl ?_
  refine g_iload_n (q := 3) (i := 1) hC dX5_moveProject_2 rfl rfl rfl ?_
  refine g_ci (q := 6) (g_runV hC kv_X5_93 md_X5_isProject (c_M_isProject _ hC.fl M _ φ m ad rf x S hM) (ci := 5) rfl hM.1 dX5_moveProject_3 (by decide) (by decide) (by omega) (by omega) rfl rfl (Nat.le_of_ble_eq_true rfl)) rfl (fun r σ ⟨e1, e2⟩ => ?_) (fun _ _ h9 => False.elim h9)
  subst e1 e2
  refine g_if_ne (tgt := 13) (q := 9) hC dX5_moveProject_6 (by decide) rfl (fun c_6 => ?_) (fun c_6 => ?_)
  · have g1 : isP S x = true := bI_n.mp c_6
    obtain ⟨p, hp, ex⟩ := isP_nI hB0 g1
    have ec : x.toNatClampNeg = p := by rw [ex, nI_clamp (by omega)]
    have eF : rf_moveProject S x = (if canM S p = false then 2 else 0) := by rw [rf_moveProject, if_neg (by rw [g1]; decide), ec]
    rw [eF] at join
    subst ex
    refine g_aload_n (q := 14) (i := 0) hC dX5_moveProject_13 rfl rfl rfl ?_
    refine g_iload_n (q := 15) (i := 1) hC dX5_moveProject_14 rfl rfl rfl ?_
    refine g_ci (q := 18) (g_runV hC kv_X5_96 md_X5_canMove (c_M_canMove _ hC.fl M _ φ m p ad rf S hM hB0 hL hp) (ci := 5) rfl hM.1 dX5_moveProject_15 (by decide) (by decide) (by omega) (by omega) rfl rfl (Nat.le_of_ble_eq_true rfl)) rfl (fun r σ ⟨e1, e2⟩ => ?_) (fun _ _ h9 => False.elim h9)
    subst e1 e2
    refine g_if_eq (tgt := 25) (q := 21) hC dX5_moveProject_18 (by decide) rfl (fun c_18 => ?_) (fun c_18 => ?_)
    · refine g_iconst (q := 26) (v := (2)) hC dX5_moveProject_25 rfl rfl ?_
      exact join 2 (by rw [if_pos (bI_0.mp c_18)])
    · refine g_iconst (q := 22) (v := (0)) hC dX5_moveProject_21 rfl rfl ?_
      refine g_goto (tgt := 26) hC dX5_moveProject_22 (by decide) ?_
      exact join 0 (by rw [if_neg (by rw [bI_n.mp c_18]; decide)])
  · have g1 : isP S x = false := bI_0.mp c_6
    refine g_iconst (q := 10) (v := (1)) hC dX5_moveProject_9 rfl rfl ?_
    refine g_goto (tgt := 26) hC dX5_moveProject_10 (by decide) ?_
    exact join 1 (by rw [rf_moveProject, if_pos g1])
