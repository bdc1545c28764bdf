/-! ===== the model: room ===== -/
def lfO (S : gSt) (a : Nat) : Int32 := if S.2.1 13 a = -1 then -1 else S.2.1 13 a - sumA S a (S.1 0 3)
def lfM (S : gSt) (a : Nat) : Int32 := if ggn S a = true ∨ (¬ S.2.1 13 a = -1 ∧ lfO S a < 0) then 0 else lfO S a
def rmM (S : gSt) (o p : Nat) : Nat → Nat → Int32 → Int32
  | 0, _, m => m
  | d + 1, j, m => match askd S o p j with
    | none => m
    | some a => rmM S o p d (j + 1) (rmU m (lfM S a))
def mo_room (S : gSt) (x : Int32) : Int32 × Int32 × gSt := gd (rf_delete S x) 0 S (rmM S (S.1 5 x.toNatClampNeg) (S.1 6 x.toNatClampNeg) 12 0 (-1), S)
set_option maxRecDepth 100000 in
set_option maxHeartbeats 4000000 in
theorem c_M_room (l : Launch) (hfl : l.stackTraces = false) (M : gMT) (σ : gS) (φ : gS) (m : Nat) (ad : Nat → Nat) (rf x : Int32) (S : gSt) (hM : Mod M φ σ m ad rf S) (hB : SB S) : Con l M yX5_room (.code yX5_room cX5_room 6 (Option.some FieldType.int)) 5 0 0 [.ref m, .int x] σ (rI (mP M φ m ad (mo_room S x))) (nX) := by
  refine g_con hfl (by decide) (lv := [(0, .ref m), (1, .int x)]) rfl rfl (Nat.le_of_ble_eq_true rfl) (fun X hX hC hR htb => ?_)
  have b3 := hB.2.2.1
  have b7 := hB.2.2.2.2.2.2.1
  have join : ∀ w : Int32, w = rf_delete S x → G X M 6 (gQ X M 0 0 (rI (mP M φ m ad (mo_room S x))) nX) 0 0 σ 14 [(0, .ref m), (1, .int x)] [.int w, .ref m] := by
    intro w hw
    refine g_ci (q := 17) (g_runV hC kv_X5_67 md_X5_refused (c_M_refused _ hC.fl M _ φ m ad rf w S hM) (ci := 5) rfl hM.1 dX5_room_14 (by decide) (by decide) (by omega) (by omega) rfl rfl (Nat.le_of_ble_eq_true rfl)) rfl (fun r σ2 ⟨e1, hM2⟩ => ?_) (fun _ _ h9 => False.elim h9)
    subst e1
    refine g_if_eq (tgt := 22) (q := 20) hC dX5_room_17 (by decide) rfl (fun c_17 => ?_) (fun c_17 => ?_)
    · have h0 := rf0.mp c_17
      subst h0
      obtain ⟨f, hf, ex, -, ec⟩ := isF_nI hB (rf1' hw)
      obtain ⟨ho, hp⟩ := b7 f hf
      have b6 := hB.2.2.2.2.2.1 _ hp
      have eT : mo_room S x = (0, rmM S (S.1 5 f) (S.1 6 f) 12 0 (-1), S) := by
        rw [mo_room, ← hw, gd0 rfl, ec]
      rw [eT]
      clear eT hw
      subst ex
      have hask : ∀ j a, askd S (S.1 5 f) (S.1 6 f) j = some a → a < 100 := fun j a h => by
        have := askd_lt ho h
        have := hB.2.1
        omega
      have loop : ∀ (d9 j : Nat) (v : Int32), j + d9 = 12 → rmM S (S.1 5 f) (S.1 6 f) 12 0 (-1) = rmM S (S.1 5 f) (S.1 6 f) d9 j v → G X M 6 (gQ X M 0 0 (rI (mP M φ m ad (0, rmM S (S.1 5 f) (S.1 6 f) 12 0 (-1), S))) nX) 0 0 σ2 26 [(3, .int (nI j)), (2, .int v), (0, .ref m), (1, .int (nI f))] [] := by
        intro d9
        induction d9 with
        | zero =>
          intro j v h1 h2
          have e9 : askd S (S.1 5 f) (S.1 6 f) j = none := askd_far (by omega)
          refine g_iload_n (q := 27) (i := 3) hC dX5_room_26 rfl rfl rfl ?_
          refine g_iconst (q := 28) (v := nI 2) hC dX5_room_27 rfl rfl ?_
          refine g_icmp_lt (tgt := 52) (q := 31) hC dX5_room_28 (by decide) rfl (fun c_28 => ?_) (fun c_28 => ?_)
          · exact absurd c_28 (nI_nlt (show 2 ≤ j by omega) (by omega))
          · refine g_aload_n (q := 32) (i := 0) hC dX5_room_31 rfl rfl rfl ?_
            refine g_aload_n (q := 33) (i := 0) hC dX5_room_32 rfl rfl rfl ?_
            refine g_getf (q := 36) hC kg_X5_27 dX5_room_33 hM2.1 rfl rfl ?_
            refine g_iload_n (q := 37) (i := 1) hC dX5_room_36 rfl rfl rfl ?_
            refine g_iald (q := 38) (v := nI (S.1 5 f)) hC dX5_room_37 hM2.a5 (vp_in_nI (by omega) (by omega)) (by rw [nI_clamp (by omega)] <;> rfl) rfl ?_
            refine g_aload_n (q := 39) (i := 0) hC dX5_room_38 rfl rfl rfl ?_
            refine g_getf (q := 42) hC kg_X5_30 dX5_room_39 hM2.1 rfl rfl ?_
            refine g_iload_n (q := 43) (i := 1) hC dX5_room_42 rfl rfl rfl ?_
            refine g_iald (q := 44) (v := nI (S.1 6 f)) hC dX5_room_43 hM2.a6 (vp_in_nI (by omega) (by omega)) (by rw [nI_clamp (by omega)] <;> rfl) rfl ?_
            refine g_iload_n (q := 45) (i := 3) hC dX5_room_44 rfl rfl rfl ?_
            refine g_ci (q := 48) (g_runV hC kv_X5_125 md_X5_asked (c_M_asked _ hC.fl M _ φ m (S.1 5 f) (S.1 6 f) j ad 0 S hM2 hB ho hp (by omega)) (ci := 5) rfl hM2.1 dX5_room_45 (by decide) (by decide) (by omega) (by omega) rfl rfl (Nat.le_of_ble_eq_true rfl)) rfl (fun r σ2 ⟨e1, e2⟩ => ?_) (fun _ _ h9 => False.elim h9)
            subst e1 e2
            refine g_iconst (q := 49) (v := (-1)) hC dX5_room_48 rfl rfl ?_
            refine g_icmp_eq (tgt := 173) (q := 52) hC dX5_room_49 (by decide) rfl (fun c_49 => ?_) (fun c_49 => ?_)
            · refine g_iload_n (q := 174) (i := 2) hC dX5_room_173 rfl rfl rfl ?_
              exact g_iret hC hR dX5_room_174 (by omega) (by omega) (⟨_, rfl, ⟨by rw [h2]; rfl, hM2⟩⟩)
            · exact absurd (by rw [e9]; rfl) c_49
        | succ d9 ih =>
          intro j v h1 h2
          have body : ∀ a, askd S (S.1 5 f) (S.1 6 f) j = some a → G X M 6 (gQ X M 0 0 (rI (mP M φ m ad (0, rmM S (S.1 5 f) (S.1 6 f) 12 0 (-1), S))) nX) 0 0 σ2 52 [(3, .int (nI j)), (2, .int v), (0, .ref m), (1, .int (nI f))] [] := by
            intro a ha
            have ha9 : a < 9 + S.1 0 2 := askd_lt ho ha
            have b2 := hB.2.1
            have e0 : rmM S (S.1 5 f) (S.1 6 f) (d9 + 1) j v = rmM S (S.1 5 f) (S.1 6 f) d9 (j + 1) (rmU v (lfM S a)) := by rw [rmM, ha]
            have tl3 : ∀ w : Int32, w = rmU v (lfM S a) → G X M 6 (gQ X M 0 0 (rI (mP M φ m ad (0, rmM S (S.1 5 f) (S.1 6 f) 12 0 (-1), S))) nX) 0 0 σ2 166 [(5, .int (lfM S a)), (4, .int (nI a)), (3, .int (nI j)), (2, .int v), (0, .ref m), (1, .int (nI f))] [.int w] := by
              intro w hw
              refine g_istore_n (q := 167) (i := 2) hC dX5_room_166 rfl (by decide) rfl ?_
              refine g_iinc (q := 170) (i := 3) (v := (nI (j + 1))) hC dX5_room_167 rfl (nI_1 _) rfl ?_
              refine g_goto (tgt := 26) hC dX5_room_170 (by decide) ?_
              rw [hw]
              refine g_sub (lv0 := [(3, .int (nI (j + 1))), (2, .int (rmU v (lfM S a))), (0, .ref m), (1, .int (nI f))]) ⟨rfl, rfl, rfl, rfl, trivial⟩ ?_
              exact ih (j + 1) (rmU v (lfM S a)) (by omega) (by rw [h2, e0])
            have tl2 : ∀ w : Int32, w = lfM S a → G X M 6 (gQ X M 0 0 (rI (mP M φ m ad (0, rmM S (S.1 5 f) (S.1 6 f) 12 0 (-1), S))) nX) 0 0 σ2 137 [(5, .int (lfO S a)), (4, .int (nI a)), (3, .int (nI j)), (2, .int v), (0, .ref m), (1, .int (nI f))] [.int w] := by
              intro w hw
              rw [hw]
              refine g_istore (q := 139) (i := 5) hC dX5_room_137 (by decide) rfl ?_
              refine g_sub (lv0 := [(5, .int (lfM S a)), (4, .int (nI a)), (3, .int (nI j)), (2, .int v), (0, .ref m), (1, .int (nI f))]) ⟨rfl, rfl, rfl, rfl, rfl, rfl, trivial⟩ ?_
              refine g_iload (q := 141) (i := 5) hC dX5_room_139 rfl rfl ?_
              refine g_iconst (q := 142) (v := (-1)) hC dX5_room_141 rfl rfl ?_
              refine g_icmp_ne (tgt := 149) (q := 145) hC dX5_room_142 (by decide) rfl (fun c_142 => ?_) (fun c_142 => ?_)
              · refine g_iload_n (q := 150) (i := 2) hC dX5_room_149 rfl rfl rfl ?_
                refine g_iconst (q := 151) (v := (-1)) hC dX5_room_150 rfl rfl ?_
                refine g_icmp_eq (tgt := 160) (q := 154) hC dX5_room_151 (by decide) rfl (fun c_151 => ?_) (fun c_151 => ?_)
                · refine g_iload (q := 162) (i := 5) hC dX5_room_160 rfl rfl ?_
                  refine g_goto (tgt := 166) hC dX5_room_162 (by decide) ?_
                  exact tl3 (lfM S a) (by rw [rmU, if_pos ⟨c_142, Or.inl c_151⟩])
                · refine g_iload (q := 156) (i := 5) hC dX5_room_154 rfl rfl ?_
                  refine g_iload_n (q := 157) (i := 2) hC dX5_room_156 rfl rfl rfl ?_
                  refine g_icmp_ge (tgt := 165) (q := 160) hC dX5_room_157 (by decide) rfl (fun c_157 => ?_) (fun c_157 => ?_)
                  · refine g_iload_n (q := 166) (i := 2) hC dX5_room_165 rfl rfl rfl ?_
                    exact tl3 v (by rw [rmU, if_neg (fun z => z.2.elim c_151 (Int32.not_lt.mpr c_157))])
                  · refine g_iload (q := 162) (i := 5) hC dX5_room_160 rfl rfl ?_
                    refine g_goto (tgt := 166) hC dX5_room_162 (by decide) ?_
                    exact tl3 (lfM S a) (by rw [rmU, if_pos ⟨c_142, Or.inr (Int32.not_le.mp c_157)⟩])
              · refine g_iload_n (q := 146) (i := 2) hC dX5_room_145 rfl rfl rfl ?_
                refine g_goto (tgt := 166) hC dX5_room_146 (by decide) ?_
                exact tl3 v (by rw [rmU, if_neg (fun z => z.1 c_142)])
            have tl1 : ∀ w : Int32, w = lfO S a → G X M 6 (gQ X M 0 0 (rI (mP M φ m ad (0, rmM S (S.1 5 f) (S.1 6 f) 12 0 (-1), S))) nX) 0 0 σ2 104 [(4, .int (nI a)), (3, .int (nI j)), (2, .int v), (0, .ref m), (1, .int (nI f))] [.int w] := by
              intro w hw
              rw [hw]
              refine g_istore (q := 106) (i := 5) hC dX5_room_104 (by decide) rfl ?_
              refine g_aload_n (q := 107) (i := 0) hC dX5_room_106 rfl rfl rfl ?_
              refine g_iload (q := 109) (i := 4) hC dX5_room_107 rfl rfl ?_
              refine g_ci (q := 112) (g_runV hC kv_X5_129 md_X5_isGraceGone (c_M_isGraceGone _ hC.fl M _ φ m a ad 0 S hM2 (by omega)) (ci := 5) rfl hM2.1 dX5_room_109 (by decide) (by decide) (by omega) (by omega) rfl rfl (Nat.le_of_ble_eq_true rfl)) rfl (fun r σ2 ⟨e1, e2⟩ => ?_) (fun _ _ h9 => False.elim h9)
              subst e1 e2
              refine g_if_ne (tgt := 131) (q := 115) hC dX5_room_112 (by decide) rfl (fun c_112 => ?_) (fun c_112 => ?_)
              · refine g_iconst (q := 132) (v := (0)) hC dX5_room_131 rfl rfl ?_
                refine g_goto (tgt := 137) hC dX5_room_132 (by decide) ?_
                exact tl2 0 (by rw [lfM, if_pos (Or.inl (bI_n.mp c_112))])
              · have hg : ¬ ggn S a = true := fun z => by rw [bI_0.mp c_112] at z; cases z
                refine g_aload_n (q := 116) (i := 0) hC dX5_room_115 rfl rfl rfl ?_
                refine g_getf (q := 119) hC kg_X5_52 dX5_room_116 hM2.1 rfl rfl ?_
                refine g_iload (q := 121) (i := 4) hC dX5_room_119 rfl rfl ?_
                refine g_iald (q := 122) (v := S.2.1 13 a) hC dX5_room_121 hM2.a13 (vp_in_nI (by omega) (by omega)) (by rw [nI_clamp (by omega)] <;> rfl) rfl ?_
                refine g_iconst (q := 123) (v := (-1)) hC dX5_room_122 rfl rfl ?_
                refine g_icmp_eq (tgt := 135) (q := 126) hC dX5_room_123 (by decide) rfl (fun c_123 => ?_) (fun c_123 => ?_)
                · refine g_iload (q := 137) (i := 5) hC dX5_room_135 rfl rfl ?_
                  exact tl2 (lfO S a) (by rw [lfM, if_neg (fun z => z.elim hg (fun y => y.1 c_123))])
                · refine g_iload (q := 128) (i := 5) hC dX5_room_126 rfl rfl ?_
                  refine g_if_ge (tgt := 135) (q := 131) hC dX5_room_128 (by decide) rfl (fun c_128 => ?_) (fun c_128 => ?_)
                  · refine g_iload (q := 137) (i := 5) hC dX5_room_135 rfl rfl ?_
                    exact tl2 (lfO S a) (by rw [lfM, if_neg (fun z => z.elim hg (fun y => absurd y.2 (Int32.not_lt.mpr c_128)))])
                  · refine g_iconst (q := 132) (v := (0)) hC dX5_room_131 rfl rfl ?_
                    refine g_goto (tgt := 137) hC dX5_room_132 (by decide) ?_
                    exact tl2 0 (by rw [lfM, if_pos (Or.inr ⟨c_123, Int32.not_le.mp c_128⟩)])
            refine g_aload_n (q := 53) (i := 0) hC dX5_room_52 rfl rfl rfl ?_
            refine g_aload_n (q := 54) (i := 0) hC dX5_room_53 rfl rfl rfl ?_
            refine g_getf (q := 57) hC kg_X5_27 dX5_room_54 hM2.1 rfl rfl ?_
            refine g_iload_n (q := 58) (i := 1) hC dX5_room_57 rfl rfl rfl ?_
            refine g_iald (q := 59) (v := nI (S.1 5 f)) hC dX5_room_58 hM2.a5 (vp_in_nI (by omega) (by omega)) (by rw [nI_clamp (by omega)] <;> rfl) rfl ?_
            refine g_aload_n (q := 60) (i := 0) hC dX5_room_59 rfl rfl rfl ?_
            refine g_getf (q := 63) hC kg_X5_30 dX5_room_60 hM2.1 rfl rfl ?_
            refine g_iload_n (q := 64) (i := 1) hC dX5_room_63 rfl rfl rfl ?_
            refine g_iald (q := 65) (v := nI (S.1 6 f)) hC dX5_room_64 hM2.a6 (vp_in_nI (by omega) (by omega)) (by rw [nI_clamp (by omega)] <;> rfl) rfl ?_
            refine g_iload_n (q := 66) (i := 3) hC dX5_room_65 rfl rfl rfl ?_
            refine g_ci (q := 69) (g_runV hC kv_X5_125 md_X5_asked (c_M_asked _ hC.fl M _ φ m (S.1 5 f) (S.1 6 f) j ad 0 S hM2 hB ho hp (by omega)) (ci := 5) rfl hM2.1 dX5_room_66 (by decide) (by decide) (by omega) (by omega) rfl rfl (Nat.le_of_ble_eq_true rfl)) rfl (fun r σ2 ⟨e1, e2⟩ => ?_) (fun _ _ h9 => False.elim h9)
            subst e1 e2
            rw [ha, show oI (some a) = nI a from rfl]
            refine g_istore (q := 71) (i := 4) hC dX5_room_69 (by decide) rfl ?_
            refine g_aload_n (q := 72) (i := 0) hC dX5_room_71 rfl rfl rfl ?_
            refine g_getf (q := 75) hC kg_X5_52 dX5_room_72 hM2.1 rfl rfl ?_
            refine g_iload (q := 77) (i := 4) hC dX5_room_75 rfl rfl ?_
            refine g_iald (q := 78) (v := S.2.1 13 a) hC dX5_room_77 hM2.a13 (vp_in_nI (by omega) (by omega)) (by rw [nI_clamp (by omega)] <;> rfl) rfl ?_
            refine g_iconst (q := 79) (v := (-1)) hC dX5_room_78 rfl rfl ?_
            refine g_icmp_ne (tgt := 86) (q := 82) hC dX5_room_79 (by decide) rfl (fun c_79 => ?_) (fun c_79 => ?_)
            · refine g_aload_n (q := 87) (i := 0) hC dX5_room_86 rfl rfl rfl ?_
              refine g_getf (q := 90) hC kg_X5_52 dX5_room_87 hM2.1 rfl rfl ?_
              refine g_iload (q := 92) (i := 4) hC dX5_room_90 rfl rfl ?_
              refine g_iald (q := 93) (v := S.2.1 13 a) hC dX5_room_92 hM2.a13 (vp_in_nI (by omega) (by omega)) (by rw [nI_clamp (by omega)] <;> rfl) rfl ?_
              refine g_aload_n (q := 94) (i := 0) hC dX5_room_93 rfl rfl rfl ?_
              refine g_iload (q := 96) (i := 4) hC dX5_room_94 rfl rfl ?_
              refine g_aload_n (q := 97) (i := 0) hC dX5_room_96 rfl rfl rfl ?_
              refine g_getf (q := 100) (v := .int (nI (S.1 0 3))) hC kg_X5_115 dX5_room_97 hM2.1 rfl rfl ?_
              refine g_ci (q := 103) (g_runV hC kv_X5_118 md_X5_sum (c_M_sum _ hC.fl M _ φ m a (S.1 0 3) ad 0 S hM2 hB ha9 (Nat.le_refl _)) (ci := 5) rfl hM2.1 dX5_room_100 (by decide) (by decide) (by omega) (by omega) rfl rfl (Nat.le_of_ble_eq_true rfl)) rfl (fun r σ2 ⟨e1, e2⟩ => ?_) (fun _ _ h9 => False.elim h9)
              subst e1 e2
              refine g_isub (q := 104) hC dX5_room_103 rfl rfl ?_
              refine g_sub (lv0 := [(4, .int (nI a)), (3, .int (nI j)), (2, .int v), (0, .ref m), (1, .int (nI f))]) ⟨rfl, rfl, rfl, rfl, rfl, trivial⟩ ?_
              exact tl1 _ (by rw [lfO, if_neg c_79])
            · refine g_iconst (q := 83) (v := (-1)) hC dX5_room_82 rfl rfl ?_
              refine g_goto (tgt := 104) hC dX5_room_83 (by decide) ?_
              refine g_sub (lv0 := [(4, .int (nI a)), (3, .int (nI j)), (2, .int v), (0, .ref m), (1, .int (nI f))]) ⟨rfl, rfl, rfl, rfl, rfl, trivial⟩ ?_
              exact tl1 (-1) (by rw [lfO, if_pos c_79])
          refine g_iload_n (q := 27) (i := 3) hC dX5_room_26 rfl rfl rfl ?_
          refine g_iconst (q := 28) (v := nI 2) hC dX5_room_27 rfl rfl ?_
          refine g_icmp_lt (tgt := 52) (q := 31) hC dX5_room_28 (by decide) rfl (fun c_28 => ?_) (fun c_28 => ?_)
          · obtain ⟨a, ha⟩ := askd_2 (S := S) (o := S.1 5 f) (p := S.1 6 f) ((nI_ltI (by omega) (by omega)).mp c_28)
            exact body a ha
          · refine g_aload_n (q := 32) (i := 0) hC dX5_room_31 rfl rfl rfl ?_
            refine g_aload_n (q := 33) (i := 0) hC dX5_room_32 rfl rfl rfl ?_
            refine g_getf (q := 36) hC kg_X5_27 dX5_room_33 hM2.1 rfl rfl ?_
            refine g_iload_n (q := 37) (i := 1) hC dX5_room_36 rfl rfl rfl ?_
            refine g_iald (q := 38) (v := nI (S.1 5 f)) hC dX5_room_37 hM2.a5 (vp_in_nI (by omega) (by omega)) (by rw [nI_clamp (by omega)] <;> rfl) rfl ?_
            refine g_aload_n (q := 39) (i := 0) hC dX5_room_38 rfl rfl rfl ?_
            refine g_getf (q := 42) hC kg_X5_30 dX5_room_39 hM2.1 rfl rfl ?_
            refine g_iload_n (q := 43) (i := 1) hC dX5_room_42 rfl rfl rfl ?_
            refine g_iald (q := 44) (v := nI (S.1 6 f)) hC dX5_room_43 hM2.a6 (vp_in_nI (by omega) (by omega)) (by rw [nI_clamp (by omega)] <;> rfl) rfl ?_
            refine g_iload_n (q := 45) (i := 3) hC dX5_room_44 rfl rfl rfl ?_
            refine g_ci (q := 48) (g_runV hC kv_X5_125 md_X5_asked (c_M_asked _ hC.fl M _ φ m (S.1 5 f) (S.1 6 f) j ad 0 S hM2 hB ho hp (by omega)) (ci := 5) rfl hM2.1 dX5_room_45 (by decide) (by decide) (by omega) (by omega) rfl rfl (Nat.le_of_ble_eq_true rfl)) rfl (fun r σ2 ⟨e1, e2⟩ => ?_) (fun _ _ h9 => False.elim h9)
            subst e1 e2
            refine g_iconst (q := 49) (v := (-1)) hC dX5_room_48 rfl rfl ?_
            refine g_icmp_eq (tgt := 173) (q := 52) hC dX5_room_49 (by decide) rfl (fun c_49 => ?_) (fun c_49 => ?_)
            · have e9 := (oI_none (hask j)).mp c_49
              refine g_iload_n (q := 174) (i := 2) hC dX5_room_173 rfl rfl rfl ?_
              exact g_iret hC hR dX5_room_174 (by omega) (by omega) (⟨_, rfl, ⟨by rw [h2, rmM, e9], hM2⟩⟩)
            · cases ha : askd S (S.1 5 f) (S.1 6 f) j with
              | none => exact absurd (by rw [ha]; rfl) c_49
              | some a => exact body a ha
      refine g_iconst (q := 23) (v := (-1)) hC dX5_room_22 rfl rfl ?_
      refine g_istore_n (q := 24) (i := 2) hC dX5_room_23 rfl (by decide) rfl ?_
      refine g_iconst (q := 25) (v := (0)) hC dX5_room_24 rfl rfl ?_
      refine g_istore_n (q := 26) (i := 3) hC dX5_room_25 rfl (by decide) rfl ?_
      refine g_sub (lv0 := [(3, .int (nI 0)), (2, .int (-1)), (0, .ref m), (1, .int (nI f))]) ⟨rfl, rfl, rfl, rfl, trivial⟩ ?_
      exact loop 12 0 (-1) (by omega) rfl
    · have h1 : ¬ w = 0 := fun z => c_17 (rf0.mpr z)
      refine g_iconst (q := 21) (v := nI 0) hC dX5_room_20 rfl rfl ?_
      exact g_iret hC hR dX5_room_21 (by omega) (by omega) (⟨_, rfl, by rw [mo_room, ← hw, gd1 h1]; exact ⟨rfl, hM2⟩⟩)
  refine g_aload_n (q := 1) (i := 0) hC dX5_room_0 rfl rfl rfl ?_
  refine g_aload_n (q := 2) (i := 0) hC dX5_room_1 rfl rfl rfl ?_
  refine g_iload_n (q := 3) (i := 1) hC dX5_room_2 rfl rfl rfl ?_
  refine g_ci (q := 6) (g_runV hC kv_X5_139 md_X5_isFile (c_M_isFile _ hC.fl M _ φ m ad rf x S hM hB) (ci := 5) rfl hM.1 dX5_room_3 (by decide) (by decide) (by omega) (by omega) rfl rfl (Nat.le_of_ble_eq_true rfl)) rfl (fun r σ ⟨e1, e2⟩ => ?_) (fun _ _ h9 => False.elim h9)
  subst e1 e2
  refine g_if_eq (tgt := 13) (q := 9) hC dX5_room_6 (by decide) rfl (fun c_6 => ?_) (fun c_6 => ?_)
  · refine g_iconst (q := 14) (v := (1)) hC dX5_room_13 rfl rfl ?_
    exact join 1 (by rw [rf_delete, bI_0.mp c_6]; rfl)
  · refine g_iconst (q := 10) (v := (0)) hC dX5_room_9 rfl rfl ?_
    refine g_goto (tgt := 14) hC dX5_room_10 (by decide) ?_
    exact join 0 (by rw [rf_delete, bI_n.mp c_6]; rfl)
