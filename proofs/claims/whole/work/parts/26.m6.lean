/-! ===== the model: barring ===== -/
def brH (S : gSt) (b : Int32) (a : Nat) : Bool := decide (0 < b) && (ggn S a || (!decide (S.2.1 13 a = -1) && decide (0 < lg_cmp ((sumA S a (S.1 0 3)).toInt64 + b.toInt64) (S.2.1 13 a).toInt64)))
def brF (S : gSt) (mr : Int32) (a : Nat) : Bool := decide (0 < mr) && (!decide (S.2.1 14 a = -1) && decide (S.2.1 14 a < nI (cntF S a (S.1 0 3)) + mr))
def brr (S : gSt) (o p : Nat) (b mr : Int32) : Nat → Nat → Option Nat
  | 0, _ => none
  | d + 1, j => match askd S o p j with
    | none => none
    | some a => if (brH S b a || brF S mr a) = true then some j else brr S o p b mr d (j + 1)
theorem askd_2 {S : gSt} {o p j : Nat} (h : j < 2) : ∃ a, askd S o p j = some a := by
  unfold askd
  by_cases h0 : j = 0
  · exact ⟨_, if_pos h0⟩
  · rw [if_neg h0]
    exact ⟨_, if_pos (by omega)⟩
theorem oI_none {o : Option Nat} (hb : ∀ a, o = some a → a < 100) : oI o = -1 ↔ o = none := by
  cases o with
  | none => exact ⟨fun _ => rfl, fun _ => rfl⟩
  | some a =>
    refine ⟨fun z => ?_, fun z => by cases z⟩
    have h := nI_pos' (n := a) (by have := hb a rfl; omega)
    rw [show oI (some a) = nI a from rfl] at z
    rw [z] at h
    exact absurd h (by decide)
set_option maxRecDepth 100000 in
set_option maxHeartbeats 4000000 in
theorem c_M_barring (l : Launch) (hfl : l.stackTraces = false) (M : gMT) (σ : gS) (φ : gS) (m o p : Nat) (ad : Nat → Nat) (rf b mr : Int32) (S : gSt) (hM : Mod M φ σ m ad rf S) (hB : SB S) (ho : o < 6) (hp : p < S.1 0 2) : Con l M yX5_barring (.code yX5_barring cX5_barring 9 (Option.some FieldType.int)) 4 0 0 [.ref m, .int (nI o), .int (nI p), .int b, .int mr] σ (rI (pI σ (oI (brr S o p b mr 12 0)))) (nX) := by
  refine g_con hfl (by decide) (lv := [(0, .ref m), (1, .int (nI o)), (2, .int (nI p)), (3, .int b), (4, .int mr)]) rfl rfl (Nat.le_of_ble_eq_true rfl) (fun X hX hC hR htb => ?_)
  have hB0 := hB
  obtain ⟨b1, b2, b3, b4, b5, b6, b7, b8⟩ := hB
  have hlp := b6 p hp
  have hask : ∀ j a, askd S o p j = some a → a < 100 := fun j a h => by
    have := askd_lt ho h
    omega
  have loop : ∀ (d9 j : Nat), j + d9 = 12 → brr S o p b mr 12 0 = brr S o p b mr d9 j → G X M 9 (gQ X M 0 0 (rI (pI σ (oI (brr S o p b mr 12 0)))) nX) 0 0 σ 3 [(5, .int (nI j)), (0, .ref m), (1, .int (nI o)), (2, .int (nI p)), (3, .int b), (4, .int mr)] [] := by
    intro d9
    induction d9 with
    | zero =>
      intro j h1 h2
      have e9 : askd S o p j = none := askd_far (by omega)
      refine g_iload (q := 5) (i := 5) hC dX5_barring_3 rfl rfl ?_
      refine g_iconst (q := 6) (v := nI 2) hC dX5_barring_5 rfl rfl ?_
      refine g_icmp_lt (tgt := 21) (q := 9) hC dX5_barring_6 (by decide) rfl (fun c_6 => ?_) (fun c_6 => ?_)
      · exact absurd c_6 (nI_nlt (show 2 ≤ j by omega) (by omega))
      · refine g_aload_n (q := 10) (i := 0) hC dX5_barring_9 rfl rfl rfl ?_
        refine g_iload_n (q := 11) (i := 1) hC dX5_barring_10 rfl rfl rfl ?_
        refine g_iload_n (q := 12) (i := 2) hC dX5_barring_11 rfl rfl rfl ?_
        refine g_iload (q := 14) (i := 5) hC dX5_barring_12 rfl rfl ?_
        refine g_ci (q := 17) (g_runV hC kv_X5_125 md_X5_asked (c_M_asked _ hC.fl M _ φ m o p j ad rf S hM hB0 ho hp (by omega)) (ci := 5) rfl hM.1 dX5_barring_14 (by decide) (by decide) (by omega) (by omega) rfl rfl (Nat.le_of_ble_eq_true rfl)) rfl (fun r σ ⟨e1, e2⟩ => ?_) (fun _ _ h9 => False.elim h9)
        subst e1 e2
        refine g_iconst (q := 18) (v := (-1)) hC dX5_barring_17 rfl rfl ?_
        refine g_icmp_eq (tgt := 149) (q := 21) hC dX5_barring_18 (by decide) rfl (fun c_18 => ?_) (fun c_18 => ?_)
        · refine g_iconst (q := 150) (v := (-1)) hC dX5_barring_149 rfl rfl ?_
          exact g_iret hC hR dX5_barring_150 (by omega) (by omega) (⟨_, rfl, by rw [h2]; rfl, rfl⟩)
        · exact absurd (by rw [e9]; rfl) c_18
    | succ d9 ih =>
      intro j h1 h2
      have body : ∀ a, askd S o p j = some a → G X M 9 (gQ X M 0 0 (rI (pI σ (oI (brr S o p b mr 12 0)))) nX) 0 0 σ 21 [(5, .int (nI j)), (0, .ref m), (1, .int (nI o)), (2, .int (nI p)), (3, .int b), (4, .int mr)] [] := by
        intro a ha
        have ha9 : a < 9 + S.1 0 2 := askd_lt ho ha
        have e0 : brr S o p b mr (d9 + 1) j = (if (brH S b a || brF S mr a) = true then some j else brr S o p b mr d9 (j + 1)) := by
          rw [brr, ha]
        have tl2 : ∀ (v1 v2 : Bool) (w : Int32), v1 = brH S b a → v2 = brF S mr a → G X M 9 (gQ X M 0 0 (rI (pI σ (oI (brr S o p b mr 12 0)))) nX) 0 0 σ 128 [(7, .int (bI v1)), (6, .int (nI a)), (5, .int (nI j)), (0, .ref m), (1, .int (nI o)), (2, .int (nI p)), (3, .int b), (4, .int mr)] [.int (bI v2)] := by
          intro v1 v2 w hv1 hv2
          refine g_istore (q := 130) (i := 8) hC dX5_barring_128 (by decide) rfl ?_
          refine g_iload (q := 132) (i := 7) hC dX5_barring_130 rfl rfl ?_
          refine g_if_ne (tgt := 140) (q := 135) hC dX5_barring_132 (by decide) rfl (fun c_132 => ?_) (fun c_132 => ?_)
          · refine g_iload (q := 142) (i := 5) hC dX5_barring_140 rfl rfl ?_
            exact g_iret hC hR dX5_barring_142 (by omega) (by omega) (⟨_, rfl, by rw [h2, e0, if_pos (by rw [← hv1, bI_n.mp c_132]; rfl)]; rfl, rfl⟩)
          · refine g_iload (q := 137) (i := 8) hC dX5_barring_135 rfl rfl ?_
            refine g_if_eq (tgt := 143) (q := 140) hC dX5_barring_137 (by decide) rfl (fun c_137 => ?_) (fun c_137 => ?_)
            · refine g_iinc (q := 146) (i := 5) (v := (nI (j + 1))) hC dX5_barring_143 rfl (nI_1 _) rfl ?_
              refine g_goto (tgt := 3) hC dX5_barring_146 (by decide) ?_
              refine g_sub (lv0 := [(5, .int (nI (j + 1))), (0, .ref m), (1, .int (nI o)), (2, .int (nI p)), (3, .int b), (4, .int mr)]) ⟨rfl, rfl, rfl, rfl, rfl, rfl, trivial⟩ ?_
              exact ih (j + 1) (by omega) (by rw [h2, e0, if_neg (by rw [← hv1, ← hv2, bI_0.mp c_132, bI_0.mp c_137]; decide)])
            · refine g_iload (q := 142) (i := 5) hC dX5_barring_140 rfl rfl ?_
              exact g_iret hC hR dX5_barring_142 (by omega) (by omega) (⟨_, rfl, by rw [h2, e0, if_pos (by rw [← hv2, bI_n.mp c_137, Bool.or_true])]; rfl, rfl⟩)
        have tl1 : ∀ v1 : Bool, v1 = brH S b a → G X M 9 (gQ X M 0 0 (rI (pI σ (oI (brr S o p b mr 12 0)))) nX) 0 0 σ 86 [(6, .int (nI a)), (5, .int (nI j)), (0, .ref m), (1, .int (nI o)), (2, .int (nI p)), (3, .int b), (4, .int mr)] [.int (bI v1)] := by
          intro v1 hv1
          refine g_istore (q := 88) (i := 7) hC dX5_barring_86 (by decide) rfl ?_
          refine g_iload (q := 90) (i := 4) hC dX5_barring_88 rfl rfl ?_
          refine g_if_le (tgt := 127) (q := 93) hC dX5_barring_90 (by decide) rfl (fun c_90 => ?_) (fun c_90 => ?_)
          · refine g_iconst (q := 128) (v := (0)) hC dX5_barring_127 rfl rfl ?_
            exact tl2 v1 false 0 hv1 (by rw [brF, decide_eq_false (Int32.not_lt.mpr c_90)]; rfl)
          · have g0 : decide (0 < mr) = true := decide_eq_true (Int32.not_le.mp c_90)
            refine g_aload_n (q := 94) (i := 0) hC dX5_barring_93 rfl rfl rfl ?_
            refine g_getf (q := 97) hC kg_X5_55 dX5_barring_94 hM.1 rfl rfl ?_
            refine g_iload (q := 99) (i := 6) hC dX5_barring_97 rfl rfl ?_
            refine g_iald (q := 100) (v := S.2.1 14 a) hC dX5_barring_99 hM.a14 (vp_in_nI (by omega) (by omega)) (by rw [nI_clamp (by omega)]) rfl ?_
            refine g_iconst (q := 101) (v := (-1)) hC dX5_barring_100 rfl rfl ?_
            refine g_icmp_eq (tgt := 127) (q := 104) hC dX5_barring_101 (by decide) rfl (fun c_101 => ?_) (fun c_101 => ?_)
            · refine g_iconst (q := 128) (v := (0)) hC dX5_barring_127 rfl rfl ?_
              exact tl2 v1 false 0 hv1 (by rw [brF, decide_eq_true c_101]; simp)
            · refine g_aload_n (q := 105) (i := 0) hC dX5_barring_104 rfl rfl rfl ?_
              refine g_iload (q := 107) (i := 6) hC dX5_barring_105 rfl rfl ?_
              refine g_ci (q := 110) (g_runV hC kv_X5_132 md_X5_countFiles (c_M_countFiles _ hC.fl M _ φ m a ad rf S hM hB0 ha9) (ci := 5) rfl hM.1 dX5_barring_107 (by decide) (by decide) (by omega) (by omega) rfl rfl (Nat.le_of_ble_eq_true rfl)) rfl (fun r σ ⟨e1, e2⟩ => ?_) (fun _ _ h9 => False.elim h9)
              subst e1 e2
              refine g_iload (q := 112) (i := 4) hC dX5_barring_110 rfl rfl ?_
              refine g_iadd (q := 113) hC dX5_barring_112 rfl rfl ?_
              refine g_aload_n (q := 114) (i := 0) hC dX5_barring_113 rfl rfl rfl ?_
              refine g_getf (q := 117) hC kg_X5_55 dX5_barring_114 hM.1 rfl rfl ?_
              refine g_iload (q := 119) (i := 6) hC dX5_barring_117 rfl rfl ?_
              refine g_iald (q := 120) (v := S.2.1 14 a) hC dX5_barring_119 hM.a14 (vp_in_nI (by omega) (by omega)) (by rw [nI_clamp (by omega)]) rfl ?_
              refine g_icmp_le (tgt := 127) (q := 123) hC dX5_barring_120 (by decide) rfl (fun c_120 => ?_) (fun c_120 => ?_)
              · refine g_iconst (q := 128) (v := (0)) hC dX5_barring_127 rfl rfl ?_
                exact tl2 v1 false 0 hv1 (by rw [brF, decide_eq_false (Int32.not_lt.mpr c_120)]; simp)
              · refine g_iconst (q := 124) (v := (1)) hC dX5_barring_123 rfl rfl ?_
                refine g_goto (tgt := 128) hC dX5_barring_124 (by decide) ?_
                exact tl2 v1 true 0 hv1 (by rw [brF, g0, decide_eq_false c_101, decide_eq_true (Int32.not_le.mp c_120)]; rfl)
        refine g_aload_n (q := 22) (i := 0) hC dX5_barring_21 rfl rfl rfl ?_
        refine g_iload_n (q := 23) (i := 1) hC dX5_barring_22 rfl rfl rfl ?_
        refine g_iload_n (q := 24) (i := 2) hC dX5_barring_23 rfl rfl rfl ?_
        refine g_iload (q := 26) (i := 5) hC dX5_barring_24 rfl rfl ?_
        refine g_ci (q := 29) (g_runV hC kv_X5_125 md_X5_asked (c_M_asked _ hC.fl M _ φ m o p j ad rf S hM hB0 ho hp (by omega)) (ci := 5) rfl hM.1 dX5_barring_26 (by decide) (by decide) (by omega) (by omega) rfl rfl (Nat.le_of_ble_eq_true rfl)) rfl (fun r σ ⟨e1, e2⟩ => ?_) (fun _ _ h9 => False.elim h9)
        subst e1 e2
        rw [ha, show oI (some a) = nI a from rfl]
        refine g_istore (q := 31) (i := 6) hC dX5_barring_29 (by decide) rfl ?_
        refine g_iload_n (q := 32) (i := 3) hC dX5_barring_31 rfl rfl rfl ?_
        refine g_if_le (tgt := 85) (q := 35) hC dX5_barring_32 (by decide) rfl (fun c_32 => ?_) (fun c_32 => ?_)
        · refine g_iconst (q := 86) (v := (0)) hC dX5_barring_85 rfl rfl ?_
          refine g_sub (lv0 := [(6, .int (nI a)), (5, .int (nI j)), (0, .ref m), (1, .int (nI o)), (2, .int (nI p)), (3, .int b), (4, .int mr)]) ⟨rfl, rfl, rfl, rfl, rfl, rfl, rfl, trivial⟩ ?_
          exact tl1 false (by rw [brH, decide_eq_false (Int32.not_lt.mpr c_32)]; rfl)
        · have g0 : decide (0 < b) = true := decide_eq_true (Int32.not_le.mp c_32)
          refine g_aload_n (q := 36) (i := 0) hC dX5_barring_35 rfl rfl rfl ?_
          refine g_iload (q := 38) (i := 6) hC dX5_barring_36 rfl rfl ?_
          refine g_ci (q := 41) (g_runV hC kv_X5_129 md_X5_isGraceGone (c_M_isGraceGone _ hC.fl M _ φ m a ad rf S hM (by omega)) (ci := 5) rfl hM.1 dX5_barring_38 (by decide) (by decide) (by omega) (by omega) rfl rfl (Nat.le_of_ble_eq_true rfl)) rfl (fun r σ ⟨e1, e2⟩ => ?_) (fun _ _ h9 => False.elim h9)
          subst e1 e2
          refine g_if_ne (tgt := 81) (q := 44) hC dX5_barring_41 (by decide) rfl (fun c_41 => ?_) (fun c_41 => ?_)
          · refine g_iconst (q := 82) (v := (1)) hC dX5_barring_81 rfl rfl ?_
            refine g_goto (tgt := 86) hC dX5_barring_82 (by decide) ?_
            refine g_sub (lv0 := [(6, .int (nI a)), (5, .int (nI j)), (0, .ref m), (1, .int (nI o)), (2, .int (nI p)), (3, .int b), (4, .int mr)]) ⟨rfl, rfl, rfl, rfl, rfl, rfl, rfl, trivial⟩ ?_
            exact tl1 true (by rw [brH, g0, bI_n.mp c_41]; rfl)
          · refine g_aload_n (q := 45) (i := 0) hC dX5_barring_44 rfl rfl rfl ?_
            refine g_getf (q := 48) hC kg_X5_52 dX5_barring_45 hM.1 rfl rfl ?_
            refine g_iload (q := 50) (i := 6) hC dX5_barring_48 rfl rfl ?_
            refine g_iald (q := 51) (v := S.2.1 13 a) hC dX5_barring_50 hM.a13 (vp_in_nI (by omega) (by omega)) (by rw [nI_clamp (by omega)]) rfl ?_
            refine g_iconst (q := 52) (v := (-1)) hC dX5_barring_51 rfl rfl ?_
            refine g_icmp_eq (tgt := 85) (q := 55) hC dX5_barring_52 (by decide) rfl (fun c_52 => ?_) (fun c_52 => ?_)
            · refine g_iconst (q := 86) (v := (0)) hC dX5_barring_85 rfl rfl ?_
              refine g_sub (lv0 := [(6, .int (nI a)), (5, .int (nI j)), (0, .ref m), (1, .int (nI o)), (2, .int (nI p)), (3, .int b), (4, .int mr)]) ⟨rfl, rfl, rfl, rfl, rfl, rfl, rfl, trivial⟩ ?_
              exact tl1 false (by rw [brH, bI_0.mp c_41, decide_eq_true c_52]; simp)
            · refine g_aload_n (q := 56) (i := 0) hC dX5_barring_55 rfl rfl rfl ?_
              refine g_iload (q := 58) (i := 6) hC dX5_barring_56 rfl rfl ?_
              refine g_aload_n (q := 59) (i := 0) hC dX5_barring_58 rfl rfl rfl ?_
              refine g_getf (q := 62) hC kg_X5_115 dX5_barring_59 hM.1 rfl rfl ?_
              refine g_ci (q := 65) (g_runV hC kv_X5_118 md_X5_sum (c_M_sum _ hC.fl M _ φ m a (S.1 0 3) ad rf S hM hB0 ha9 (Nat.le_refl _)) (ci := 5) rfl hM.1 dX5_barring_62 (by decide) (by decide) (by omega) (by omega) rfl rfl (Nat.le_of_ble_eq_true rfl)) rfl (fun r σ ⟨e1, e2⟩ => ?_) (fun _ _ h9 => False.elim h9)
              subst e1 e2
              refine g_i2l (q := 66) hC dX5_barring_65 rfl rfl ?_
              refine g_iload_n (q := 67) (i := 3) hC dX5_barring_66 rfl rfl rfl ?_
              refine g_i2l (q := 68) hC dX5_barring_67 rfl rfl ?_
              refine g_ladd (q := 69) hC dX5_barring_68 rfl rfl ?_
              refine g_aload_n (q := 70) (i := 0) hC dX5_barring_69 rfl rfl rfl ?_
              refine g_getf (q := 73) hC kg_X5_52 dX5_barring_70 hM.1 rfl rfl ?_
              refine g_iload (q := 75) (i := 6) hC dX5_barring_73 rfl rfl ?_
              refine g_iald (q := 76) (v := S.2.1 13 a) hC dX5_barring_75 hM.a13 (vp_in_nI (by omega) (by omega)) (by rw [nI_clamp (by omega)]) rfl ?_
              refine g_i2l (q := 77) hC dX5_barring_76 rfl rfl ?_
              refine g_lcmp (q := 78) hC dX5_barring_77 rfl rfl ?_
              refine g_if_le (tgt := 85) (q := 81) hC dX5_barring_78 (by decide) rfl (fun c_78 => ?_) (fun c_78 => ?_)
              · refine g_iconst (q := 86) (v := (0)) hC dX5_barring_85 rfl rfl ?_
                refine g_sub (lv0 := [(6, .int (nI a)), (5, .int (nI j)), (0, .ref m), (1, .int (nI o)), (2, .int (nI p)), (3, .int b), (4, .int mr)]) ⟨rfl, rfl, rfl, rfl, rfl, rfl, rfl, trivial⟩ ?_
                exact tl1 false (by rw [brH, bI_0.mp c_41, decide_eq_false (Int32.not_lt.mpr c_78)]; simp)
              · refine g_iconst (q := 82) (v := (1)) hC dX5_barring_81 rfl rfl ?_
                refine g_goto (tgt := 86) hC dX5_barring_82 (by decide) ?_
                refine g_sub (lv0 := [(6, .int (nI a)), (5, .int (nI j)), (0, .ref m), (1, .int (nI o)), (2, .int (nI p)), (3, .int b), (4, .int mr)]) ⟨rfl, rfl, rfl, rfl, rfl, rfl, rfl, trivial⟩ ?_
                exact tl1 true (by rw [brH, g0, decide_eq_false c_52, decide_eq_true (Int32.not_le.mp c_78)]; simp)
      refine g_iload (q := 5) (i := 5) hC dX5_barring_3 rfl rfl ?_
      refine g_iconst (q := 6) (v := nI 2) hC dX5_barring_5 rfl rfl ?_
      refine g_icmp_lt (tgt := 21) (q := 9) hC dX5_barring_6 (by decide) rfl (fun c_6 => ?_) (fun c_6 => ?_)
      · obtain ⟨a, ha⟩ := askd_2 (S := S) (o := o) (p := p) ((nI_ltI (by omega) (by omega)).mp c_6)
        exact body a ha
      · refine g_aload_n (q := 10) (i := 0) hC dX5_barring_9 rfl rfl rfl ?_
        refine g_iload_n (q := 11) (i := 1) hC dX5_barring_10 rfl rfl rfl ?_
        refine g_iload_n (q := 12) (i := 2) hC dX5_barring_11 rfl rfl rfl ?_
        refine g_iload (q := 14) (i := 5) hC dX5_barring_12 rfl rfl ?_
        refine g_ci (q := 17) (g_runV hC kv_X5_125 md_X5_asked (c_M_asked _ hC.fl M _ φ m o p j ad rf S hM hB0 ho hp (by omega)) (ci := 5) rfl hM.1 dX5_barring_14 (by decide) (by decide) (by omega) (by omega) rfl rfl (Nat.le_of_ble_eq_true rfl)) rfl (fun r σ ⟨e1, e2⟩ => ?_) (fun _ _ h9 => False.elim h9)
        subst e1 e2
        refine g_iconst (q := 18) (v := (-1)) hC dX5_barring_17 rfl rfl ?_
        refine g_icmp_eq (tgt := 149) (q := 21) hC dX5_barring_18 (by decide) rfl (fun c_18 => ?_) (fun c_18 => ?_)
        · have e9 := (oI_none (hask j)).mp c_18
          refine g_iconst (q := 150) (v := (-1)) hC dX5_barring_149 rfl rfl ?_
          exact g_iret hC hR dX5_barring_150 (by omega) (by omega) (⟨_, rfl, by rw [h2, brr, e9]; rfl, rfl⟩)
        · cases ha : askd S o p j with
          | none => exact absurd (by rw [ha]; rfl) c_18
          | some a => exact body a ha
  refine g_iconst (q := 1) (v := nI 0) hC dX5_barring_0 rfl rfl ?_
  refine g_istore (q := 3) (i := 5) hC dX5_barring_1 (by decide) rfl ?_
  refine g_sub (lv0 := [(5, .int (nI 0)), (0, .ref m), (1, .int (nI o)), (2, .int (nI p)), (3, .int b), (4, .int mr)]) ⟨rfl, rfl, rfl, rfl, rfl, rfl, trivial⟩ ?_
  exact loop 12 0 (by omega) rfl
