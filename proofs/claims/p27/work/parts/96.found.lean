/-! ===== the law: isFound (by wip/p27/gen_found.py) ===== -/
section FN
variable {n : Nat} {ρ S : gSt}
theorem rcN_v : ∀ (k : Nat) (ρ : gSt), ρ.1 0 6 ≤ ρ.1 10 4 → (rcN ρ k).1 0 6 = min (ρ.1 0 6 + k) (ρ.1 10 4) ∧ (rcN ρ k).2.2 = ρ.2.2 := by
  intro k
  induction k with
  | zero =>
    intro ρ h
    refine ⟨?_, rfl⟩
    show ρ.1 0 6 = min (ρ.1 0 6 + 0) (ρ.1 10 4)
    omega
  | succ k ih =>
    intro ρ h
    unfold rcN
    split
    · rename_i z
      have e1 : (sN (tkS ρ (ρ.1 0 6)) 0 6 (ρ.1 0 6 + 1)).1 0 6 = ρ.1 0 6 + 1 := up2_self (tkS ρ (ρ.1 0 6)).1 0 6 _
      have e2 : (sN (tkS ρ (ρ.1 0 6)) 0 6 (ρ.1 0 6 + 1)).1 10 4 = ρ.1 10 4 := by
        show up2 (tkS ρ (ρ.1 0 6)).1 0 6 (ρ.1 0 6 + 1) 10 4 = _
        rw [up2_ne _ _ (Or.inl (by decide)), tkS_1]
      have e3 : (sN (tkS ρ (ρ.1 0 6)) 0 6 (ρ.1 0 6 + 1)).2.2 = ρ.2.2 := tkS_2 _
      obtain ⟨g1, g2⟩ := ih (sN (tkS ρ (ρ.1 0 6)) 0 6 (ρ.1 0 6 + 1)) (by rw [e1, e2]; omega)
      refine ⟨?_, g2.trans e3⟩
      rw [g1, e1, e2]
      omega
    · refine ⟨?_, rfl⟩
      omega
/-- a recount that goes on: t files taken of c -/
def Tk (ρ : gSt) (t c : Nat) : Prop := ρ.2.2 0 5 = true ∧ ρ.1 0 6 = t ∧ ρ.1 10 4 = c
theorem tk_0 : Tk (lo_beginRecount ρ).2.2 0 (ρ.1 10 4) := by
  refine ⟨?_, ?_, k_begin.1.2.2⟩
  · show (bgN (bg0 ρ) _).2.2 0 5 = true
    rw [bgN_2]
    exact up2_self ρ.2.2 0 5 true
  · show (bgN (bg0 ρ) _).1 0 6 = 0
    rw [bgN_1]
    exact up2_self ρ.1 0 6 0
theorem tk_s (hw : RW ρ) {t c s : Nat} (h : Tk ρ t c) (hs : 1 ≤ s ∧ s ≤ 40) : lo_recount ρ (nI s) = ("", nI (c - min (t + s) c), rcN ρ s) ∧ Tk (rcN ρ s) (min (t + s) c) c := by
  obtain ⟨h1, h2, h3⟩ := h
  have w6 := hw.2.2.2.2.2.1
  obtain ⟨g1, g2⟩ := rcN_v s ρ w6
  rw [h2, h3] at g1
  have g3 : (rcN ρ s).1 10 4 = c := (k_rcN s ρ).1.2.2.trans h3
  refine ⟨?_, by rw [g2]; exact h1, g1, g3⟩
  unfold lo_recount
  rw [if_neg (fun z => ?_), if_neg (by rw [h1]; decide), nI_clamp (by omega), g1, g3]
  rcases z with z | z
  · exact absurd z (nI_nlt (a := s) (b := 1) (by omega) (by omega))
  · exact absurd z (nI_nlt (a := 40) (b := s) (by omega) (by omega))
theorem ct_v {kd x : Int32} {a : Nat} (hb : ρ.2.2 0 5 = true) (ha : acl ρ kd x = some a) : lo_counted ρ kd x = ("", ρ.2.1 6 a, ρ) := by
  unfold lo_counted
  rw [if_neg (by rw [ha]; exact fun z => nomatch z), if_neg (by rw [hb]; decide)]
  exact lo_acc_s ha
theorem ct_u0 (hR : Rel n ρ S) {t c a : Nat} (h : Tk ρ t c) (ha : a < 9 + ρ.1 10 3) : ρ.2.1 6 a = usum ρ a t := by
  have h9 := (hR.2.2.2.2.1 a ha).2.2 h.1
  rw [h.2.1] at h9
  exact h9
theorem ct_eq (hR : Rel n ρ S) {c a : Nat} (h : Tk ρ c c) (ha : a < 9 + ρ.1 10 3) : ρ.2.1 6 a = ρ.2.1 4 a := by
  rw [ct_u0 hR h ha, (hR.2.2.2.2.1 a ha).1, h.2.2]
end FN
set_option maxRecDepth 100000 in
set_option maxHeartbeats 4000000 in
theorem c_isFound (l : Launch) (hfl : l.stackTraces = false) (M : gMT) (σ : gS) (φ : gS) (a0 n : Nat) (ρ : gSt) (x : Nat) (hx : x < 2 ^ 31) (hst : St M φ a0 ρ σ) (hI : Iv n ρ) : Con l M yL_isFound (.code yL_isFound cL_isFound 8 (Option.some FieldType.boolean)) 14 3300 40600 [.ref a0, .int (nI x)] σ (rI fun r σ2 => r = 1 ∧ ∃ ρ', St M φ a0 ρ' σ2) (nX) := by
  refine g_con hfl (by decide) (lv := [(0, .ref a0), (1, .int (nI x))]) rfl rfl (Nat.le_of_ble_eq_true rfl) (fun X hX hC hR htb => ?_)
  have last : ∀ (ρ : gSt) (n c : Nat), Iv n ρ → Tk ρ c c → ∀ (kx nx : Nat) (σ : gS) (lv : List (Nat × Value)), kx ≤ 3202 → nx ≤ 40012 → gL lv 3 = some (.int 1) → gL lv 0 = some (.ref a0) → St M φ a0 ρ σ → G X M 8 (gQ X M 3300 40600 (rI fun r σ2 => r = 1 ∧ ∃ ρ', St M φ a0 ρ' σ2) nX) kx nx σ 82 lv [] := by
    intro ρ n c hI hT kx nx σ lv hk9 hs9 g3 g0 hst
    have hw := hI.w
    obtain ⟨⟨S, hQ, hz⟩, hl⟩ := hI
    have w2 := hw.1.2.1
    have inner : ∀ (kd en bs : Nat), kd < 3 → bs + en ≤ 9 + ρ.1 10 3 → (∀ k, k < en → acl ρ (nI kd) (nI k) = some (bs + k)) → (∀ (σ : gS) (lv : List (Nat × Value)), gL lv 5 = some (.int (nI kd)) → gL lv 3 = some (.int 1) → gL lv 0 = some (.ref a0) → St M φ a0 ρ σ → G X M 8 (gQ X M 3300 40600 (rI fun r σ2 => r = 1 ∧ ∃ ρ', St M φ a0 ρ' σ2) nX) (3202 + 3 * (bs + en)) (40012 + 18 * (bs + en)) σ 166 lv []) → ∀ (d9 k : Nat) (σ : gS), k + d9 = en → St M φ a0 ρ σ → G X M 8 (gQ X M 3300 40600 (rI fun r σ2 => r = 1 ∧ ∃ ρ', St M φ a0 ρ' σ2) nX) (3202 + 3 * (bs + k)) (40012 + 18 * (bs + k)) σ 124 [(7, .int (nI k)), (6, .int (nI en)), (5, .int (nI kd)), (3, .int 1), (0, .ref a0)] [] := by
      intro kd en bs hkd hbs hac hnx d9
      induction d9 with
      | zero =>
        intro k σ h1 hst
        refine g_iload (q := 126) (i := 7) hC dL_isFound_124 rfl rfl ?_
        refine g_iload (q := 128) (i := 6) hC dL_isFound_126 rfl rfl ?_
        obtain rfl : k = en := by omega
        refine g_icmp_ge (tgt := 166) (q := 131) hC dL_isFound_128 (by decide) rfl (fun _ => ?_) (fun c9 => absurd (nI_le (by omega) (by omega)) c9)
        exact hnx σ _ rfl rfl rfl hst
      | succ d9 ih =>
        intro k σ h1 hst
        refine g_iload (q := 126) (i := 7) hC dL_isFound_124 rfl rfl ?_
        refine g_iload (q := 128) (i := 6) hC dL_isFound_126 rfl rfl ?_
        refine g_icmp_ge (tgt := 166) (q := 131) hC dL_isFound_128 (by decide) rfl (fun c9 => absurd c9 (nI_ge (by omega) (by omega))) (fun _ => ?_)
        refine g_iload_n (q := 132) (i := 3) hC dL_isFound_131 rfl rfl rfl ?_
        refine g_if_eq (tgt := 166) (q := 135) hC dL_isFound_132 (by decide) rfl (fun c9 => absurd c9 (by decide)) (fun _ => ?_)
        have ha := hac k (by omega)
        refine g_aload_n (q := 136) (i := 0) hC dL_isFound_135 rfl rfl rfl ?_
        refine g_iload (q := 138) (i := 5) hC dL_isFound_136 rfl rfl ?_
        refine g_iload (q := 140) (i := 7) hC dL_isFound_138 rfl rfl ?_
        refine g_ci (q := 143) (g_runSH hC ks_L_144 md_L_counted (con_v (s_counted hC.fl (nI kd) (nI k) hst hw) (ct_v hT.1 ha)) dL_isFound_140 (by decide) (by decide) (by omega) (by omega) rfl rfl (Nat.le_of_ble_eq_true rfl)) rfl (fun r σ ⟨e9, hst⟩ => ?_) (fun _ _ h9 => False.elim h9)
        subst e9
        refine g_aload_n (q := 144) (i := 0) hC dL_isFound_143 rfl rfl rfl ?_
        refine g_iload (q := 146) (i := 5) hC dL_isFound_144 rfl rfl ?_
        refine g_iload (q := 148) (i := 7) hC dL_isFound_146 rfl rfl ?_
        refine g_ci (q := 151) (g_runSH hC ks_L_129 md_L_used (con_v (s_used hC.fl (nI kd) (nI k) hst hw) (lo_acc_s ha)) dL_isFound_148 (by decide) (by decide) (by omega) (by omega) rfl rfl (Nat.le_of_ble_eq_true rfl)) rfl (fun r σ ⟨e9, hst⟩ => ?_) (fun _ _ h9 => False.elim h9)
        subst e9
        refine g_icmp_ne (tgt := 158) (q := 154) hC dL_isFound_151 (by decide) rfl (fun c9 => absurd (ct_eq hQ hT (by omega)) c9) (fun _ => ?_)
        refine g_iconst (q := 155) (v := 1) hC dL_isFound_154 rfl rfl ?_
        refine g_goto (tgt := 159) hC dL_isFound_155 (by decide) ?_
        refine g_istore_n (q := 160) (i := 3) hC dL_isFound_159 rfl (by decide) rfl ?_
        refine g_iinc (q := 163) (i := 7) (v := (nI (k + 1))) hC dL_isFound_160 rfl (nI_1 _) rfl ?_
        refine g_goto (tgt := 124) hC dL_isFound_163 (by decide) ?_
        refine g_sub (lv0 := [(7, .int (nI (k + 1))), (6, .int (nI en)), (5, .int (nI kd)), (3, .int 1), (0, .ref a0)]) ⟨rfl, rfl, rfl, rfl, rfl, trivial⟩ ?_
        exact g_widen (by omega) (by omega) (ih (k + 1) σ (by omega) hst)
    have h3 : ∀ (kx nx : Nat) (σ : gS), kx ≤ 3202 + 3 * (9 + ρ.1 10 3) → nx ≤ 40012 + 18 * (9 + ρ.1 10 3) → St M φ a0 ρ σ → G X M 8 (gQ X M 3300 40600 (rI fun r σ2 => r = 1 ∧ ∃ ρ', St M φ a0 ρ' σ2) nX) kx nx σ 85 [(5, .int (nI 3)), (3, .int 1), (0, .ref a0)] [] := by
      intro kx nx σ hk hs hst
      refine g_iload (q := 87) (i := 5) hC dL_isFound_85 rfl rfl ?_
      refine g_iconst (q := 88) (v := nI 3) hC dL_isFound_87 rfl rfl ?_
      refine g_icmp_ge (tgt := 172) (q := 91) hC dL_isFound_88 (by decide) rfl (fun _ => ?_) (fun c9 => absurd (by decide) c9)
      refine g_iload_n (q := 173) (i := 3) hC dL_isFound_172 rfl rfl rfl ?_
      exact g_zret hC hR (rfl) dL_isFound_173 (by omega) (by omega) (⟨_, rfl, rfl, ρ, hst⟩)
    have h2 : ∀ (kx nx : Nat) (σ : gS), kx ≤ 3202 + 3 * 9 → nx ≤ 40012 + 18 * 9 → St M φ a0 ρ σ → G X M 8 (gQ X M 3300 40600 (rI fun r σ2 => r = 1 ∧ ∃ ρ', St M φ a0 ρ' σ2) nX) kx nx σ 85 [(5, .int (nI 2)), (3, .int 1), (0, .ref a0)] [] := by
      intro kx nx σ hk hs hst
      obtain ⟨A, hled⟩ := hst.led hw.1
      refine g_iload (q := 87) (i := 5) hC dL_isFound_85 rfl rfl ?_
      refine g_iconst (q := 88) (v := nI 3) hC dL_isFound_87 rfl rfl ?_
      refine g_icmp_ge (tgt := 172) (q := 91) hC dL_isFound_88 (by decide) rfl (fun c9 => absurd c9 (by decide)) (fun _ => ?_)
      refine g_iload_n (q := 92) (i := 3) hC dL_isFound_91 rfl rfl rfl ?_
      refine g_if_eq (tgt := 172) (q := 95) hC dL_isFound_92 (by decide) rfl (fun c9 => absurd c9 (by decide)) (fun _ => ?_)
      refine g_iload (q := 97) (i := 5) hC dL_isFound_95 rfl rfl ?_
      refine g_if_ne (tgt := 105) (q := 100) hC dL_isFound_97 (by decide) rfl (fun _ => ?_) (fun c9 => absurd c9 (by decide))
      refine g_iload (q := 107) (i := 5) hC dL_isFound_105 rfl rfl ?_
      refine g_iconst (q := 108) (v := nI 1) hC dL_isFound_107 rfl rfl ?_
      refine g_icmp_ne (tgt := 115) (q := 111) hC dL_isFound_108 (by decide) rfl (fun _ => ?_) (fun c9 => absurd c9 (by decide))
      refine g_aload_n (q := 116) (i := 0) hC dL_isFound_115 rfl rfl rfl ?_
      refine g_ci (q := 119) (g_runV hC kv_L_86 md_X4_projects (t_projects hC.fl hst hw) (ci := 4) rfl hled dL_isFound_116 (by decide) (by decide) (by omega) (by omega) rfl rfl (Nat.le_of_ble_eq_true rfl)) rfl (fun r σ ⟨e9, hst⟩ => ?_) (fun _ _ h9 => False.elim h9)
      subst e9
      refine g_istore (q := 121) (i := 6) hC dL_isFound_119 (by decide) rfl ?_
      refine g_iconst (q := 122) (v := nI 0) hC dL_isFound_121 rfl rfl ?_
      refine g_istore (q := 124) (i := 7) hC dL_isFound_122 (by decide) rfl ?_
      refine g_sub (lv0 := [(7, .int (nI 0)), (6, .int (nI (ρ.1 10 3))), (5, .int (nI 2)), (3, .int 1), (0, .ref a0)]) ⟨rfl, rfl, rfl, rfl, rfl, trivial⟩ ?_
      refine g_widen (by omega) (by omega) (inner 2 (ρ.1 10 3) 9 (by decide) (by omega) (fun k hk => acl_2s hw.1 hk) (fun σ lv g5 g3 g0 hst => ?_) (ρ.1 10 3) 0 σ (Nat.zero_add _) hst)
      refine g_iinc (q := 169) (i := 5) (v := (nI 3)) hC dL_isFound_166 g5 (nI_1 _) rfl ?_
      refine g_goto (tgt := 85) hC dL_isFound_169 (by decide) ?_
      refine g_sub (lv0 := [(5, .int (nI 3)), (3, .int 1), (0, .ref a0)]) ⟨rfl, g3, g0, trivial⟩ ?_
      exact h3 _ _ σ (by omega) (by omega) hst
    have h1 : ∀ (kx nx : Nat) (σ : gS), kx ≤ 3202 + 3 * 6 → nx ≤ 40012 + 18 * 6 → St M φ a0 ρ σ → G X M 8 (gQ X M 3300 40600 (rI fun r σ2 => r = 1 ∧ ∃ ρ', St M φ a0 ρ' σ2) nX) kx nx σ 85 [(5, .int (nI 1)), (3, .int 1), (0, .ref a0)] [] := by
      intro kx nx σ hk hs hst
      obtain ⟨A, hled⟩ := hst.led hw.1
      refine g_iload (q := 87) (i := 5) hC dL_isFound_85 rfl rfl ?_
      refine g_iconst (q := 88) (v := nI 3) hC dL_isFound_87 rfl rfl ?_
      refine g_icmp_ge (tgt := 172) (q := 91) hC dL_isFound_88 (by decide) rfl (fun c9 => absurd c9 (by decide)) (fun _ => ?_)
      refine g_iload_n (q := 92) (i := 3) hC dL_isFound_91 rfl rfl rfl ?_
      refine g_if_eq (tgt := 172) (q := 95) hC dL_isFound_92 (by decide) rfl (fun c9 => absurd c9 (by decide)) (fun _ => ?_)
      refine g_iload (q := 97) (i := 5) hC dL_isFound_95 rfl rfl ?_
      refine g_if_ne (tgt := 105) (q := 100) hC dL_isFound_97 (by decide) rfl (fun _ => ?_) (fun c9 => absurd c9 (by decide))
      refine g_iload (q := 107) (i := 5) hC dL_isFound_105 rfl rfl ?_
      refine g_iconst (q := 108) (v := nI 1) hC dL_isFound_107 rfl rfl ?_
      refine g_icmp_ne (tgt := 115) (q := 111) hC dL_isFound_108 (by decide) rfl (fun c9 => absurd (by decide) c9) (fun _ => ?_)
      refine g_iconst (q := 112) (v := nI 3) hC dL_isFound_111 rfl rfl ?_
      refine g_goto (tgt := 119) hC dL_isFound_112 (by decide) ?_
      refine g_istore (q := 121) (i := 6) hC dL_isFound_119 (by decide) rfl ?_
      refine g_iconst (q := 122) (v := nI 0) hC dL_isFound_121 rfl rfl ?_
      refine g_istore (q := 124) (i := 7) hC dL_isFound_122 (by decide) rfl ?_
      refine g_sub (lv0 := [(7, .int (nI 0)), (6, .int (nI (3))), (5, .int (nI 1)), (3, .int 1), (0, .ref a0)]) ⟨rfl, rfl, rfl, rfl, rfl, trivial⟩ ?_
      refine g_widen (by omega) (by omega) (inner 1 (3) 6 (by decide) (by omega) (fun k hk => acl_1s hk) (fun σ lv g5 g3 g0 hst => ?_) (3) 0 σ (Nat.zero_add _) hst)
      refine g_iinc (q := 169) (i := 5) (v := (nI 2)) hC dL_isFound_166 g5 (nI_1 _) rfl ?_
      refine g_goto (tgt := 85) hC dL_isFound_169 (by decide) ?_
      refine g_sub (lv0 := [(5, .int (nI 2)), (3, .int 1), (0, .ref a0)]) ⟨rfl, g3, g0, trivial⟩ ?_
      exact h2 _ _ σ (by omega) (by omega) hst
    have h0 : ∀ (kx nx : Nat) (σ : gS), kx ≤ 3202 + 3 * 0 → nx ≤ 40012 + 18 * 0 → St M φ a0 ρ σ → G X M 8 (gQ X M 3300 40600 (rI fun r σ2 => r = 1 ∧ ∃ ρ', St M φ a0 ρ' σ2) nX) kx nx σ 85 [(5, .int (nI 0)), (3, .int 1), (0, .ref a0)] [] := by
      intro kx nx σ hk hs hst
      obtain ⟨A, hled⟩ := hst.led hw.1
      refine g_iload (q := 87) (i := 5) hC dL_isFound_85 rfl rfl ?_
      refine g_iconst (q := 88) (v := nI 3) hC dL_isFound_87 rfl rfl ?_
      refine g_icmp_ge (tgt := 172) (q := 91) hC dL_isFound_88 (by decide) rfl (fun c9 => absurd c9 (by decide)) (fun _ => ?_)
      refine g_iload_n (q := 92) (i := 3) hC dL_isFound_91 rfl rfl rfl ?_
      refine g_if_eq (tgt := 172) (q := 95) hC dL_isFound_92 (by decide) rfl (fun c9 => absurd c9 (by decide)) (fun _ => ?_)
      refine g_iload (q := 97) (i := 5) hC dL_isFound_95 rfl rfl ?_
      refine g_if_ne (tgt := 105) (q := 100) hC dL_isFound_97 (by decide) rfl (fun c9 => absurd (by decide) c9) (fun _ => ?_)
      refine g_bipush (q := 102) (v := nI 6) hC dL_isFound_100 rfl rfl ?_
      refine g_goto (tgt := 119) hC dL_isFound_102 (by decide) ?_
      refine g_istore (q := 121) (i := 6) hC dL_isFound_119 (by decide) rfl ?_
      refine g_iconst (q := 122) (v := nI 0) hC dL_isFound_121 rfl rfl ?_
      refine g_istore (q := 124) (i := 7) hC dL_isFound_122 (by decide) rfl ?_
      refine g_sub (lv0 := [(7, .int (nI 0)), (6, .int (nI (6))), (5, .int (nI 0)), (3, .int 1), (0, .ref a0)]) ⟨rfl, rfl, rfl, rfl, rfl, trivial⟩ ?_
      refine g_widen (by omega) (by omega) (inner 0 (6) 0 (by decide) (by omega) (fun k hk => by rw [Nat.zero_add]; exact acl_0s hk) (fun σ lv g5 g3 g0 hst => ?_) (6) 0 σ (Nat.zero_add _) hst)
      refine g_iinc (q := 169) (i := 5) (v := (nI 1)) hC dL_isFound_166 g5 (nI_1 _) rfl ?_
      refine g_goto (tgt := 85) hC dL_isFound_169 (by decide) ?_
      refine g_sub (lv0 := [(5, .int (nI 1)), (3, .int 1), (0, .ref a0)]) ⟨rfl, g3, g0, trivial⟩ ?_
      exact h1 _ _ σ (by omega) (by omega) hst
    refine g_iconst (q := 83) (v := nI 0) hC dL_isFound_82 rfl rfl ?_
    refine g_istore (q := 85) (i := 5) hC dL_isFound_83 (by decide) rfl ?_
    refine g_sub (lv0 := [(5, .int (nI 0)), (3, .int 1), (0, .ref a0)]) ⟨rfl, g3, g0, trivial⟩ ?_
    exact h0 _ _ σ (by omega) (by omega) hst
  have loop : ∀ (d9 : Nat) (ρ : gSt) (n t c : Nat), c ≤ t + d9 → t ≤ c → c ≤ 40 → Iv n ρ → Tk ρ t c → ∀ (σ : gS), St M φ a0 ρ σ → G X M 8 (gQ X M 3300 40600 (rI fun r σ2 => r = 1 ∧ ∃ ρ', St M φ a0 ρ' σ2) nX) (2 + 80 * t) (12 + 1000 * t) σ 23 [(4, .int (nI (c - t))), (3, .int 1), (0, .ref a0), (1, .int (nI x))] [] := by
    intro d9
    induction d9 with
    | zero =>
      intro ρ n t c h1 h2 h40 hI hT σ hst
      refine g_iload (q := 25) (i := 4) hC dL_isFound_23 rfl rfl ?_
      obtain rfl : t = c := by omega
      refine g_if_le (tgt := 82) (q := 28) hC dL_isFound_25 (by decide) rfl (fun _ => ?_) (fun c9 => absurd (by rw [Nat.sub_self]; decide) c9)
      exact last ρ n t hI hT _ _ σ _ (by omega) (by omega) rfl rfl hst
    | succ d9 ih =>
      intro ρ n t c h1 h2 h40 hI hT σ hst
      refine g_iload (q := 25) (i := 4) hC dL_isFound_23 rfl rfl ?_
      by_cases z : t = c
      · subst z
        refine g_if_le (tgt := 82) (q := 28) hC dL_isFound_25 (by decide) rfl (fun _ => ?_) (fun c9 => absurd (by rw [Nat.sub_self]; decide) c9)
        exact last ρ n t hI hT _ _ σ _ (by omega) (by omega) rfl rfl hst
      · refine g_if_le (tgt := 82) (q := 28) hC dL_isFound_25 (by decide) rfl (fun c9 => absurd c9 (nI_nle (by omega) (by omega))) (fun _ => ?_)
        refine g_iload_n (q := 29) (i := 3) hC dL_isFound_28 rfl rfl rfl ?_
        refine g_if_eq (tgt := 82) (q := 32) hC dL_isFound_29 (by decide) rfl (fun c9 => absurd c9 (by decide)) (fun _ => ?_)
        obtain ⟨g1, g2⟩ := tk_s hI.w.1 (s := 1 + x % 7) hT (by omega)
        have hI2 := iv_recount hI (nI (1 + x % 7))
        rw [g1, nx_ok rfl] at hI2
        refine g_iconst (q := 33) (v := nI 1) hC dL_isFound_32 rfl rfl ?_
        refine g_iload_n (q := 34) (i := 1) hC dL_isFound_33 rfl rfl rfl ?_
        refine g_bipush (q := 36) (v := nI 7) hC dL_isFound_34 rfl rfl ?_
        refine g_irem (q := 37) (v := (nI (x % 7))) hC dL_isFound_36 (by decide) (pk_rem (by omega) (by omega) (by omega)) rfl ?_
        refine g_iadd (q := 38) (v := (nI (1 + (x % 7)))) hC dL_isFound_37 (nI_add _ _) rfl ?_
        refine g_istore (q := 40) (i := 5) hC dL_isFound_38 (by decide) rfl ?_
        refine g_aload_n (q := 41) (i := 0) hC dL_isFound_40 rfl rfl rfl ?_
        refine g_iload (q := 43) (i := 5) hC dL_isFound_41 rfl rfl ?_
        refine g_ci (q := 46) (g_runSH hC ks_L_141 md_L_recounts (con_v (s_recounts hC.fl (nI (1 + x % 7)) hst hI.w) g1) dL_isFound_43 (by decide) (by decide) (by omega) (by omega) rfl rfl (Nat.le_of_ble_eq_true rfl)) rfl (fun r σ ⟨e9, hst⟩ => ?_) (fun _ _ h9 => False.elim h9)
        subst e9
        have back : ∀ (σ : gS) (v9 : Nat), v9 = c - min (t + (1 + x % 7)) c → St M φ a0 (rcN ρ (1 + x % 7)) σ → G X M 8 (gQ X M 3300 40600 (rI fun r σ2 => r = 1 ∧ ∃ ρ', St M φ a0 ρ' σ2) nX) (2 + 80 * t + 80) (12 + 1000 * t + 1000) σ 66 [(6, .int (nI (c - min (t + (1 + x % 7)) c))), (5, .int (nI (1 + x % 7))), (4, .int (nI (c - t))), (3, .int 1), (0, .ref a0), (1, .int (nI x))] [.int (nI v9), .int (nI (c - min (t + (1 + x % 7)) c))] := by
          intro σ v9 e9 hst
          subst e9
          refine g_icmp_ne (tgt := 73) (q := 69) hC dL_isFound_66 (by decide) rfl (fun c9 => absurd rfl c9) (fun _ => ?_)
          refine g_iconst (q := 70) (v := 1) hC dL_isFound_69 rfl rfl ?_
          refine g_goto (tgt := 74) hC dL_isFound_70 (by decide) ?_
          refine g_istore_n (q := 75) (i := 3) hC dL_isFound_74 rfl (by decide) rfl ?_
          refine g_iload (q := 77) (i := 6) hC dL_isFound_75 rfl rfl ?_
          refine g_istore (q := 79) (i := 4) hC dL_isFound_77 (by decide) rfl ?_
          refine g_goto (tgt := 23) hC dL_isFound_79 (by decide) ?_
          refine g_sub (lv0 := [(4, .int (nI (c - min (t + (1 + x % 7)) c))), (3, .int 1), (0, .ref a0), (1, .int (nI x))]) ⟨rfl, rfl, rfl, rfl, trivial⟩ ?_
          exact g_widen (by omega) (by omega) (ih (rcN ρ (1 + x % 7)) (n + 1) (min (t + (1 + x % 7)) c) c (by omega) (by omega) h40 hI2 g2 σ hst)
        refine g_istore (q := 48) (i := 6) hC dL_isFound_46 (by decide) rfl ?_
        refine g_iload (q := 50) (i := 6) hC dL_isFound_48 rfl rfl ?_
        refine g_iload (q := 52) (i := 4) hC dL_isFound_50 rfl rfl ?_
        refine g_iload (q := 54) (i := 5) hC dL_isFound_52 rfl rfl ?_
        refine g_icmp_le (tgt := 65) (q := 57) hC dL_isFound_54 (by decide) rfl (fun c9 => ?_) (fun c9 => ?_)
        · have hle : c - t ≤ 1 + x % 7 := (nI_leI (by omega) (by omega)).mp c9
          refine g_iconst (q := 66) (v := nI 0) hC dL_isFound_65 rfl rfl ?_
          refine g_sub (lv0 := [(6, .int (nI (c - min (t + (1 + x % 7)) c))), (5, .int (nI (1 + x % 7))), (4, .int (nI (c - t))), (3, .int 1), (0, .ref a0), (1, .int (nI x))]) ⟨rfl, rfl, rfl, rfl, rfl, rfl, trivial⟩ ?_
          exact back σ 0 (by omega) hst
        · have hle : ¬ c - t ≤ 1 + x % 7 := fun y => c9 (nI_le y (by omega))
          refine g_iload (q := 59) (i := 4) hC dL_isFound_57 rfl rfl ?_
          refine g_iload (q := 61) (i := 5) hC dL_isFound_59 rfl rfl ?_
          refine g_isub (q := 62) (v := nI (c - t - (1 + x % 7))) hC dL_isFound_61 (pk_sub (by omega)) rfl ?_
          refine g_goto (tgt := 66) hC dL_isFound_62 (by decide) ?_
          refine g_sub (lv0 := [(6, .int (nI (c - min (t + (1 + x % 7)) c))), (5, .int (nI (1 + x % 7))), (4, .int (nI (c - t))), (3, .int 1), (0, .ref a0), (1, .int (nI x))]) ⟨rfl, rfl, rfl, rfl, rfl, rfl, trivial⟩ ?_
          exact back σ _ (by omega) hst
  have hw := hI.w
  have w3 := hw.1.2.2.1
  obtain ⟨A, hled⟩ := hst.led hw.1
  have hI2 := iv_beginRecount hI
  rw [nx_ok (L := lo_beginRecount ρ) rfl] at hI2
  have hT := tk_0 (ρ := ρ)
  refine g_aload_n (q := 1) (i := 0) hC dL_isFound_0 rfl rfl rfl ?_
  refine g_ci (q := 4) (g_runV hC kv_L_159 md_X4_beginRecount (s_beginRecount hC.fl hst hw) (ci := 4) rfl hled dL_isFound_1 (by decide) (by decide) (by omega) (by omega) rfl rfl (Nat.le_of_ble_eq_true rfl)) rfl (fun r σ ⟨e9, hst⟩ => ?_) (fun _ _ h9 => False.elim h9)
  have e9 : _ = nI (ρ.1 10 4) := e9
  subst e9
  generalize (lo_beginRecount ρ).2.2 = ρ1 at hI2 hT hst
  have w1 := hI2.w.1.2.1
  refine g_istore_n (q := 5) (i := 2) hC dL_isFound_4 rfl (by decide) rfl ?_
  refine g_aload_n (q := 6) (i := 0) hC dL_isFound_5 rfl rfl rfl ?_
  refine g_iconst (q := 7) (v := nI 2) hC dL_isFound_6 rfl rfl ?_
  refine g_iconst (q := 8) (v := nI 0) hC dL_isFound_7 rfl rfl ?_
  refine g_ci (q := 11) (g_runSH hC ks_L_144 md_L_counted (con_v (s_counted hC.fl (nI 2) (nI 0) hst hI2.w) (ct_v hT.1 (acl_2s hI2.w.1 (by omega)))) dL_isFound_8 (by decide) (by decide) (by omega) (by omega) rfl rfl (Nat.le_of_ble_eq_true rfl)) rfl (fun r σ ⟨e9, hst⟩ => ?_) (fun _ _ h9 => False.elim h9)
  subst e9
  have e0 : ρ1.2.1 6 (9 + 0) = 0 := by
    obtain ⟨⟨S, hQ, -⟩, -⟩ := hI2
    rw [ct_u0 hQ hT (by omega)]
    rfl
  refine g_if_ne (tgt := 18) (q := 14) hC dL_isFound_11 (by decide) rfl (fun c9 => absurd e0 c9) (fun _ => ?_)
  refine g_iconst (q := 15) (v := 1) hC dL_isFound_14 rfl rfl ?_
  refine g_goto (tgt := 19) hC dL_isFound_15 (by decide) ?_
  refine g_istore_n (q := 20) (i := 3) hC dL_isFound_19 rfl (by decide) rfl ?_
  refine g_iload_n (q := 21) (i := 2) hC dL_isFound_20 rfl rfl rfl ?_
  refine g_istore (q := 23) (i := 4) hC dL_isFound_21 (by decide) rfl ?_
  refine g_sub (lv0 := [(4, .int (nI (ρ.1 10 4 - 0))), (3, .int 1), (0, .ref a0), (1, .int (nI x))]) ⟨rfl, rfl, rfl, rfl, trivial⟩ ?_
  exact g_widen (by omega) (by omega) (loop (ρ.1 10 4) ρ1 (n + 1) 0 (ρ.1 10 4) (by omega) (Nat.zero_le _) (by omega) hI2 hT σ hst)
