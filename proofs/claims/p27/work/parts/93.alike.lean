/-! ===== the law: two ledgers beside one another; alike (by wip/p27/gen_alike.py) ===== -/
def S3 (σ σ1 σ2 ψ : gS) : Prop := (∀ x, (σ1 x = none ∨ σ2 x = none) ∧ (σ1 x = none ∨ ψ x = none) ∧ (σ2 x = none ∨ ψ x = none)) ∧ ∀ x, σ x = uni ψ (uni σ2 σ1) x
def J2 (M : gMT) (ψ : gS) (a b : Nat) (ρ ρ' : gSt) (σ : gS) : Prop := ∃ σ1 σ2 A1 W1 A2 W2, (A1 0 0 = a ∧ Raw M σ1 A1 ρ W1) ∧ (A2 0 0 = b ∧ Raw M σ2 A2 ρ' W2) ∧ S3 σ σ1 σ2 ψ
section J2S
variable {M : gMT} {ψ σ σ1 σ2 : gS} {a b : Nat} {ρ ρ' ρ1 : gSt} {l : Launch} {y : MethodName} {cw : Cond} {d mc ms : Nat} {av : List Value} {w : Int32}
theorem uni_n {φ τ : gS} {x : Nat} (h : φ x = none) : uni φ τ x = τ x := by
  unfold uni
  rw [h]
theorem uni_s {φ τ : gS} {x : Nat} {e : va_E} (h : φ x = some e) : uni φ τ x = some e := by
  unfold uni
  rw [h]
theorem S3.sym (h : S3 σ σ1 σ2 ψ) : S3 σ σ2 σ1 ψ := by
  obtain ⟨h1, h2⟩ := h
  refine ⟨fun x => ⟨(h1 x).1.symm, (h1 x).2.2, (h1 x).2.1⟩, fun x => ?_⟩
  rw [h2 x]
  cases hp : ψ x with
  | some e => rw [uni_s hp, uni_s hp]
  | none =>
    rw [uni_n hp, uni_n hp]
    cases h3 : σ1 x with
    | none =>
      rw [uni_n h3]
      cases h4 : σ2 x with
      | none => rw [uni_n h4, h3]
      | some e => rw [uni_s h4]
    | some e =>
      rw [uni_s h3]
      have h4 : σ2 x = none := (h1 x).1.resolve_left (by rw [h3]; exact fun z => nomatch z)
      rw [uni_n h4, h3]
theorem S3.sep (h : S3 σ σ1 σ2 ψ) : Sep σ σ1 (uni ψ σ2) := by
  obtain ⟨h1, h2⟩ := h
  intro x
  refine ⟨fun z => ?_, fun e z => ?_⟩
  · cases hp : ψ x with
    | some e => rw [uni_s hp] at z; cases z
    | none =>
      rw [uni_n hp] at z
      rw [h2 x, uni_n hp, uni_n z]
  · cases hp : ψ x with
    | some e2 =>
      rw [uni_s hp] at z
      cases z
      refine ⟨by rw [h2 x, uni_s hp], (h1 x).2.1.resolve_right (by rw [hp]; exact fun z => nomatch z)⟩
    | none =>
      rw [uni_n hp] at z
      refine ⟨by rw [h2 x, uni_n hp, uni_s z], (h1 x).1.resolve_right (by rw [z]; exact fun z => nomatch z)⟩
theorem S3.of (h0 : ∀ x, σ2 x = none ∨ ψ x = none) (h : Sep σ σ1 (uni ψ σ2)) : S3 σ σ1 σ2 ψ := by
  refine ⟨fun x => ?_, fun x => ?_⟩
  · refine ⟨?_, ?_, h0 x⟩
    · cases h2 : σ2 x with
      | none => exact Or.inr rfl
      | some e =>
        have hp : ψ x = none := (h0 x).resolve_left (by rw [h2]; exact fun z => nomatch z)
        exact Or.inl ((h x).2 e (by rw [uni_n hp, h2])).2
    · cases hp : ψ x with
      | none => exact Or.inr rfl
      | some e => exact Or.inl ((h x).2 e (by rw [uni_s hp])).2
  · cases hp : ψ x with
    | some e => rw [uni_s hp, ((h x).2 e (by rw [uni_s hp])).1]
    | none =>
      rw [uni_n hp]
      cases h2 : σ2 x with
      | none => rw [uni_n h2, (h x).1 (by rw [uni_n hp, h2])]
      | some e => rw [uni_s h2, ((h x).2 e (by rw [uni_n hp, h2])).1]
theorem J2.sym (h : J2 M ψ a b ρ ρ' σ) : J2 M ψ b a ρ' ρ σ := by
  obtain ⟨σ1, σ2, A1, W1, A2, W2, h1, h2, h3⟩ := h
  exact ⟨σ2, σ1, A2, W2, A1, W1, h2, h1, h3.sym⟩
theorem J2.one (h : J2 M ψ a b ρ ρ' σ) : ∃ φ, St M φ a ρ σ ∧ (∀ x e, ψ x = some e → φ x = some e) ∧ ∀ ρ1 σ', St M φ a ρ1 σ' → J2 M ψ a b ρ1 ρ' σ' := by
  obtain ⟨σ1, σ2, A1, W1, A2, W2, ⟨h1, h2⟩, h3, h4⟩ := h
  refine ⟨uni ψ σ2, ⟨σ1, A1, W1, h1, h2, h4.sep⟩, fun x e hx => uni_s hx, fun ρ1 σ' hst => ?_⟩
  obtain ⟨τ1, A, W, g1, g2, g3⟩ := hst
  exact ⟨τ1, σ2, A, W, A2, W2, ⟨g1, g2⟩, h3, S3.of (fun x => (h4.1 x).2.2) g3⟩
def jQ (M : gMT) (ψ : gS) (a b : Nat) (w : Int32) (ρ ρ' : gSt) : Int32 → gS → Prop := fun r σ2 => r = w ∧ J2 M ψ a b ρ ρ' σ2
theorem j_one (h : J2 M ψ a b ρ ρ' σ) (hc : ∀ φ, St M φ a ρ σ → (∀ x e, ψ x = some e → φ x = some e) → Con l M y cw d mc ms av σ (rI (sQ M φ a w ρ1)) nX) : Con l M y cw d mc ms av σ (rI (jQ M ψ a b w ρ1 ρ')) nX := by
  obtain ⟨φ, h1, h2, h3⟩ := h.one
  exact (hc φ h1 h2).mono (fun v τ ⟨r, e1, e2, e3⟩ => ⟨r, e1, e2, h3 _ _ e3⟩) (fun _ _ z => z)
theorem j_two (h : J2 M ψ a b ρ ρ' σ) (hc : ∀ φ, St M φ b ρ' σ → (∀ x e, ψ x = some e → φ x = some e) → Con l M y cw d mc ms av σ (rI (sQ M φ b w ρ1)) nX) : Con l M y cw d mc ms av σ (rI (jQ M ψ a b w ρ ρ1)) nX :=
  (j_one h.sym hc).mono (fun v τ ⟨r, e1, e2, e3⟩ => ⟨r, e1, e2, e3.sym⟩) (fun _ _ z => z)
theorem con_q {φ : gS} {L : lRes} (h : Con l M y cw d mc ms av σ (rI (sQ M φ a (wR L) (nx ρ L))) nX) (e : L.2.2 = ρ) : Con l M y cw d mc ms av σ (rI (sQ M φ a (wR L) ρ)) nX := by
  have e2 : nx ρ L = ρ := by
    unfold nx
    split
    · exact e
    · rfl
  rw [e2] at h
  exact h
theorem acc_2 {kd x : Int32} {g : Nat → Int32} : (lo_acc ρ kd x g).2.2 = ρ := by
  unfold lo_acc
  split <;> rfl
theorem ctd_2 {kd x : Int32} : (lo_counted ρ kd x).2.2 = ρ := by
  unfold lo_counted
  repeat' split
  all_goals first | rfl | exact acc_2
theorem ltr_2 {x y : Int32} : (lo_letterAt ρ x y).2.2 = ρ := by
  unfold lo_letterAt
  split <;> rfl
theorem J2.led1 (h : J2 M ψ a b ρ ρ' σ) (hW : RW ρ) : ∃ A : gAd, σ a = some (oB 4 (ledF A ρ)) := by
  obtain ⟨φ, h1, -⟩ := h.one
  exact h1.led hW
theorem J2.led2 (h : J2 M ψ a b ρ ρ' σ) (hW : RW ρ') : ∃ A : gAd, σ b = some (oB 4 (ledF A ρ')) := h.sym.led1 hW
end J2S
set_option maxRecDepth 100000 in
set_option maxHeartbeats 4000000 in
theorem c_alike (l : Launch) (hfl : l.stackTraces = false) (M : gMT) (σ : gS) (ψ : gS) (a b : Nat) (ρ : gSt) (hJ : J2 M ψ a b ρ ρ σ) (hw : RW ρ ∧ RE ρ) : Con l M yL_alike (.code yL_alike cL_alike 6 (Option.some FieldType.boolean)) 14 560 3360 [.ref a, .ref b] σ (rI (jQ M ψ a b 1 ρ ρ)) (nX) := by
  refine g_con hfl (by decide) (lv := [(0, .ref a), (1, .ref b)]) rfl rfl (Nat.le_of_ble_eq_true rfl) (fun X hX hC hR htb => ?_)
  have w2 := hw.1.2.1
  have lets : ∀ (d9 j : Nat) (σ : gS), j + d9 = ρ.1 10 3 → J2 M ψ a b ρ ρ σ → G X M 6 (gQ X M 560 3360 (rI (jQ M ψ a b 1 ρ ρ)) nX) (10 * (9 + ρ.1 10 3) + 12 * j) (60 * (9 + ρ.1 10 3) + 72 * j) σ 165 [(3, .int (nI j)), (2, .int 1), (0, .ref a), (1, .ref b)] [] := by
    intro d9
    induction d9 with
    | zero =>
      intro j σ h1 hJ
      obtain ⟨A, hled⟩ := hJ.led1 hw.1
      refine g_iload_n (q := 166) (i := 3) hC dL_alike_165 rfl rfl rfl ?_
      refine g_aload_n (q := 167) (i := 0) hC dL_alike_166 rfl rfl rfl ?_
      refine g_ci (q := 170) (g_runV hC kv_L_86 md_X4_projects (j_one hJ (fun φ h _ => t_projects hC.fl h hw)) (ci := 4) rfl hled dL_alike_167 (by decide) (by decide) (by omega) (by omega) rfl rfl (Nat.le_of_ble_eq_true rfl)) rfl (fun r σ ⟨e9, hJ⟩ => ?_) (fun _ _ h9 => False.elim h9)
      subst e9
      refine g_icmp_ge (tgt := 234) (q := 173) hC dL_alike_170 (by decide) rfl (fun _ => ?_) (fun c9 => absurd (nI_le (by omega) (by omega)) c9)
      refine g_iload_n (q := 235) (i := 2) hC dL_alike_234 rfl rfl rfl ?_
      exact g_zret hC hR (rfl) dL_alike_235 (by omega) (by omega) (⟨_, rfl, rfl, hJ⟩)
    | succ d9 ih =>
      intro j σ h1 hJ
      obtain ⟨A, hled⟩ := hJ.led1 hw.1
      refine g_iload_n (q := 166) (i := 3) hC dL_alike_165 rfl rfl rfl ?_
      refine g_aload_n (q := 167) (i := 0) hC dL_alike_166 rfl rfl rfl ?_
      refine g_ci (q := 170) (g_runV hC kv_L_86 md_X4_projects (j_one hJ (fun φ h _ => t_projects hC.fl h hw)) (ci := 4) rfl hled dL_alike_167 (by decide) (by decide) (by omega) (by omega) rfl rfl (Nat.le_of_ble_eq_true rfl)) rfl (fun r σ ⟨e9, hJ⟩ => ?_) (fun _ _ h9 => False.elim h9)
      subst e9
      refine g_icmp_ge (tgt := 234) (q := 173) hC dL_alike_170 (by decide) rfl (fun c9 => absurd c9 (nI_ge (by omega) (by omega))) (fun _ => ?_)
      refine g_iload_n (q := 174) (i := 2) hC dL_alike_173 rfl rfl rfl ?_
      refine g_if_eq (tgt := 234) (q := 177) hC dL_alike_174 (by decide) rfl (fun c9 => absurd c9 (by decide)) (fun _ => ?_)
      refine g_aload_n (q := 178) (i := 0) hC dL_alike_177 rfl rfl rfl ?_
      refine g_iload_n (q := 179) (i := 3) hC dL_alike_178 rfl rfl rfl ?_
      refine g_iconst (q := 180) (v := nI 0) hC dL_alike_179 rfl rfl ?_
      refine g_ci (q := 183) (g_runSH hC ks_L_99 md_L_letter (j_one hJ (fun φ h _ => con_q (s_letter hC.fl (nI j) (nI 0) h hw) ltr_2)) dL_alike_180 (by decide) (by decide) (by omega) (by omega) rfl rfl (Nat.le_of_ble_eq_true rfl)) rfl (fun r σ ⟨e9, hJ⟩ => ?_) (fun _ _ h9 => False.elim h9)
      subst e9
      refine g_aload_n (q := 184) (i := 1) hC dL_alike_183 rfl rfl rfl ?_
      refine g_iload_n (q := 185) (i := 3) hC dL_alike_184 rfl rfl rfl ?_
      refine g_iconst (q := 186) (v := nI 0) hC dL_alike_185 rfl rfl ?_
      refine g_ci (q := 189) (g_runSH hC ks_L_99 md_L_letter (j_two hJ (fun φ h _ => con_q (s_letter hC.fl (nI j) (nI 0) h hw) ltr_2)) dL_alike_186 (by decide) (by decide) (by omega) (by omega) rfl rfl (Nat.le_of_ble_eq_true rfl)) rfl (fun r σ ⟨e9, hJ⟩ => ?_) (fun _ _ h9 => False.elim h9)
      subst e9
      refine g_icmp_ne (tgt := 226) (q := 192) hC dL_alike_189 (by decide) rfl (fun c9 => absurd rfl c9) (fun _ => ?_)
      refine g_aload_n (q := 193) (i := 0) hC dL_alike_192 rfl rfl rfl ?_
      refine g_iload_n (q := 194) (i := 3) hC dL_alike_193 rfl rfl rfl ?_
      refine g_iconst (q := 195) (v := nI 1) hC dL_alike_194 rfl rfl ?_
      refine g_ci (q := 198) (g_runSH hC ks_L_99 md_L_letter (j_one hJ (fun φ h _ => con_q (s_letter hC.fl (nI j) (nI 1) h hw) ltr_2)) dL_alike_195 (by decide) (by decide) (by omega) (by omega) rfl rfl (Nat.le_of_ble_eq_true rfl)) rfl (fun r σ ⟨e9, hJ⟩ => ?_) (fun _ _ h9 => False.elim h9)
      subst e9
      refine g_aload_n (q := 199) (i := 1) hC dL_alike_198 rfl rfl rfl ?_
      refine g_iload_n (q := 200) (i := 3) hC dL_alike_199 rfl rfl rfl ?_
      refine g_iconst (q := 201) (v := nI 1) hC dL_alike_200 rfl rfl ?_
      refine g_ci (q := 204) (g_runSH hC ks_L_99 md_L_letter (j_two hJ (fun φ h _ => con_q (s_letter hC.fl (nI j) (nI 1) h hw) ltr_2)) dL_alike_201 (by decide) (by decide) (by omega) (by omega) rfl rfl (Nat.le_of_ble_eq_true rfl)) rfl (fun r σ ⟨e9, hJ⟩ => ?_) (fun _ _ h9 => False.elim h9)
      subst e9
      refine g_icmp_ne (tgt := 226) (q := 207) hC dL_alike_204 (by decide) rfl (fun c9 => absurd rfl c9) (fun _ => ?_)
      refine g_aload_n (q := 208) (i := 0) hC dL_alike_207 rfl rfl rfl ?_
      refine g_iload_n (q := 209) (i := 3) hC dL_alike_208 rfl rfl rfl ?_
      refine g_iconst (q := 210) (v := nI 2) hC dL_alike_209 rfl rfl ?_
      refine g_ci (q := 213) (g_runSH hC ks_L_99 md_L_letter (j_one hJ (fun φ h _ => con_q (s_letter hC.fl (nI j) (nI 2) h hw) ltr_2)) dL_alike_210 (by decide) (by decide) (by omega) (by omega) rfl rfl (Nat.le_of_ble_eq_true rfl)) rfl (fun r σ ⟨e9, hJ⟩ => ?_) (fun _ _ h9 => False.elim h9)
      subst e9
      refine g_aload_n (q := 214) (i := 1) hC dL_alike_213 rfl rfl rfl ?_
      refine g_iload_n (q := 215) (i := 3) hC dL_alike_214 rfl rfl rfl ?_
      refine g_iconst (q := 216) (v := nI 2) hC dL_alike_215 rfl rfl ?_
      refine g_ci (q := 219) (g_runSH hC ks_L_99 md_L_letter (j_two hJ (fun φ h _ => con_q (s_letter hC.fl (nI j) (nI 2) h hw) ltr_2)) dL_alike_216 (by decide) (by decide) (by omega) (by omega) rfl rfl (Nat.le_of_ble_eq_true rfl)) rfl (fun r σ ⟨e9, hJ⟩ => ?_) (fun _ _ h9 => False.elim h9)
      subst e9
      refine g_icmp_ne (tgt := 226) (q := 222) hC dL_alike_219 (by decide) rfl (fun c9 => absurd rfl c9) (fun _ => ?_)
      refine g_iconst (q := 223) (v := 1) hC dL_alike_222 rfl rfl ?_
      refine g_goto (tgt := 227) hC dL_alike_223 (by decide) ?_
      refine g_istore_n (q := 228) (i := 2) hC dL_alike_227 rfl (by decide) rfl ?_
      refine g_iinc (q := 231) (i := 3) (v := (nI (j + 1))) hC dL_alike_228 rfl (nI_1 _) rfl ?_
      refine g_goto (tgt := 165) hC dL_alike_231 (by decide) ?_
      refine g_sub (lv0 := [(3, .int (nI (j + 1))), (2, .int 1), (0, .ref a), (1, .ref b)]) ⟨rfl, rfl, rfl, rfl, trivial⟩ ?_
      exact g_widen (by omega) (by omega) (ih (j + 1) σ (by omega) hJ)
  have inner : ∀ (kd en bs : Nat), kd < 3 → bs + en ≤ 30 → (∀ (σ : gS) (lv : List (Nat × Value)), gL lv 3 = some (.int (nI kd)) → gL lv 2 = some (.int 1) → gL lv 0 = some (.ref a) → gL lv 1 = some (.ref b) → J2 M ψ a b ρ ρ σ → G X M 6 (gQ X M 560 3360 (rI (jQ M ψ a b 1 ρ ρ)) nX) (10 * (bs + en)) (60 * (bs + en)) σ 157 lv []) → ∀ (d9 k : Nat) (σ : gS), k + d9 = en → J2 M ψ a b ρ ρ σ → G X M 6 (gQ X M 560 3360 (rI (jQ M ψ a b 1 ρ ρ)) nX) (10 * (bs + k)) (60 * (bs + k)) σ 66 [(5, .int (nI k)), (4, .int (nI en)), (3, .int (nI kd)), (2, .int 1), (0, .ref a), (1, .ref b)] [] := by
    intro kd en bs hkd hbs hnx d9
    induction d9 with
    | zero =>
      intro k σ h1 hJ
      refine g_iload (q := 68) (i := 5) hC dL_alike_66 rfl rfl ?_
      refine g_iload (q := 70) (i := 4) hC dL_alike_68 rfl rfl ?_
      obtain rfl : k = en := by omega
      refine g_icmp_ge (tgt := 157) (q := 73) hC dL_alike_70 (by decide) rfl (fun _ => ?_) (fun c9 => absurd (nI_le (by omega) (by omega)) c9)
      exact hnx σ _ rfl rfl rfl rfl hJ
    | succ d9 ih =>
      intro k σ h1 hJ
      refine g_iload (q := 68) (i := 5) hC dL_alike_66 rfl rfl ?_
      refine g_iload (q := 70) (i := 4) hC dL_alike_68 rfl rfl ?_
      refine g_icmp_ge (tgt := 157) (q := 73) hC dL_alike_70 (by decide) rfl (fun c9 => absurd c9 (nI_ge (by omega) (by omega))) (fun _ => ?_)
      refine g_iload_n (q := 74) (i := 2) hC dL_alike_73 rfl rfl rfl ?_
      refine g_if_eq (tgt := 157) (q := 77) hC dL_alike_74 (by decide) rfl (fun c9 => absurd c9 (by decide)) (fun _ => ?_)
      refine g_aload_n (q := 78) (i := 0) hC dL_alike_77 rfl rfl rfl ?_
      refine g_iload_n (q := 79) (i := 3) hC dL_alike_78 rfl rfl rfl ?_
      refine g_iload (q := 81) (i := 5) hC dL_alike_79 rfl rfl ?_
      refine g_ci (q := 84) (g_runSH hC ks_L_129 md_L_used (j_one hJ (fun φ h _ => con_q (s_used hC.fl (nI kd) (nI k) h hw) acc_2)) dL_alike_81 (by decide) (by decide) (by omega) (by omega) rfl rfl (Nat.le_of_ble_eq_true rfl)) rfl (fun r σ ⟨e9, hJ⟩ => ?_) (fun _ _ h9 => False.elim h9)
      subst e9
      refine g_aload_n (q := 85) (i := 1) hC dL_alike_84 rfl rfl rfl ?_
      refine g_iload_n (q := 86) (i := 3) hC dL_alike_85 rfl rfl rfl ?_
      refine g_iload (q := 88) (i := 5) hC dL_alike_86 rfl rfl ?_
      refine g_ci (q := 91) (g_runSH hC ks_L_129 md_L_used (j_two hJ (fun φ h _ => con_q (s_used hC.fl (nI kd) (nI k) h hw) acc_2)) dL_alike_88 (by decide) (by decide) (by omega) (by omega) rfl rfl (Nat.le_of_ble_eq_true rfl)) rfl (fun r σ ⟨e9, hJ⟩ => ?_) (fun _ _ h9 => False.elim h9)
      subst e9
      refine g_icmp_ne (tgt := 149) (q := 94) hC dL_alike_91 (by decide) rfl (fun c9 => absurd rfl c9) (fun _ => ?_)
      refine g_aload_n (q := 95) (i := 0) hC dL_alike_94 rfl rfl rfl ?_
      refine g_iload_n (q := 96) (i := 3) hC dL_alike_95 rfl rfl rfl ?_
      refine g_iload (q := 98) (i := 5) hC dL_alike_96 rfl rfl ?_
      refine g_ci (q := 101) (g_runSH hC ks_L_131 md_L_files (j_one hJ (fun φ h _ => con_q (s_files hC.fl (nI kd) (nI k) h hw) acc_2)) dL_alike_98 (by decide) (by decide) (by omega) (by omega) rfl rfl (Nat.le_of_ble_eq_true rfl)) rfl (fun r σ ⟨e9, hJ⟩ => ?_) (fun _ _ h9 => False.elim h9)
      subst e9
      refine g_aload_n (q := 102) (i := 1) hC dL_alike_101 rfl rfl rfl ?_
      refine g_iload_n (q := 103) (i := 3) hC dL_alike_102 rfl rfl rfl ?_
      refine g_iload (q := 105) (i := 5) hC dL_alike_103 rfl rfl ?_
      refine g_ci (q := 108) (g_runSH hC ks_L_131 md_L_files (j_two hJ (fun φ h _ => con_q (s_files hC.fl (nI kd) (nI k) h hw) acc_2)) dL_alike_105 (by decide) (by decide) (by omega) (by omega) rfl rfl (Nat.le_of_ble_eq_true rfl)) rfl (fun r σ ⟨e9, hJ⟩ => ?_) (fun _ _ h9 => False.elim h9)
      subst e9
      refine g_icmp_ne (tgt := 149) (q := 111) hC dL_alike_108 (by decide) rfl (fun c9 => absurd rfl c9) (fun _ => ?_)
      refine g_aload_n (q := 112) (i := 0) hC dL_alike_111 rfl rfl rfl ?_
      refine g_iload_n (q := 113) (i := 3) hC dL_alike_112 rfl rfl rfl ?_
      refine g_iload (q := 115) (i := 5) hC dL_alike_113 rfl rfl ?_
      refine g_ci (q := 118) (g_runSH hC ks_L_137 md_L_grace (j_one hJ (fun φ h _ => con_q (s_grace hC.fl (nI kd) (nI k) h hw) acc_2)) dL_alike_115 (by decide) (by decide) (by omega) (by omega) rfl rfl (Nat.le_of_ble_eq_true rfl)) rfl (fun r σ ⟨e9, hJ⟩ => ?_) (fun _ _ h9 => False.elim h9)
      subst e9
      refine g_aload_n (q := 119) (i := 1) hC dL_alike_118 rfl rfl rfl ?_
      refine g_iload_n (q := 120) (i := 3) hC dL_alike_119 rfl rfl rfl ?_
      refine g_iload (q := 122) (i := 5) hC dL_alike_120 rfl rfl ?_
      refine g_ci (q := 125) (g_runSH hC ks_L_137 md_L_grace (j_two hJ (fun φ h _ => con_q (s_grace hC.fl (nI kd) (nI k) h hw) acc_2)) dL_alike_122 (by decide) (by decide) (by omega) (by omega) rfl rfl (Nat.le_of_ble_eq_true rfl)) rfl (fun r σ ⟨e9, hJ⟩ => ?_) (fun _ _ h9 => False.elim h9)
      subst e9
      refine g_icmp_ne (tgt := 149) (q := 128) hC dL_alike_125 (by decide) rfl (fun c9 => absurd rfl c9) (fun _ => ?_)
      refine g_aload_n (q := 129) (i := 0) hC dL_alike_128 rfl rfl rfl ?_
      refine g_iload_n (q := 130) (i := 3) hC dL_alike_129 rfl rfl rfl ?_
      refine g_iload (q := 132) (i := 5) hC dL_alike_130 rfl rfl ?_
      refine g_ci (q := 135) (g_runSH hC ks_L_144 md_L_counted (j_one hJ (fun φ h _ => con_q (s_counted hC.fl (nI kd) (nI k) h hw) ctd_2)) dL_alike_132 (by decide) (by decide) (by omega) (by omega) rfl rfl (Nat.le_of_ble_eq_true rfl)) rfl (fun r σ ⟨e9, hJ⟩ => ?_) (fun _ _ h9 => False.elim h9)
      subst e9
      refine g_aload_n (q := 136) (i := 1) hC dL_alike_135 rfl rfl rfl ?_
      refine g_iload_n (q := 137) (i := 3) hC dL_alike_136 rfl rfl rfl ?_
      refine g_iload (q := 139) (i := 5) hC dL_alike_137 rfl rfl ?_
      refine g_ci (q := 142) (g_runSH hC ks_L_144 md_L_counted (j_two hJ (fun φ h _ => con_q (s_counted hC.fl (nI kd) (nI k) h hw) ctd_2)) dL_alike_139 (by decide) (by decide) (by omega) (by omega) rfl rfl (Nat.le_of_ble_eq_true rfl)) rfl (fun r σ ⟨e9, hJ⟩ => ?_) (fun _ _ h9 => False.elim h9)
      subst e9
      refine g_icmp_ne (tgt := 149) (q := 145) hC dL_alike_142 (by decide) rfl (fun c9 => absurd rfl c9) (fun _ => ?_)
      refine g_iconst (q := 146) (v := 1) hC dL_alike_145 rfl rfl ?_
      refine g_goto (tgt := 150) hC dL_alike_146 (by decide) ?_
      refine g_istore_n (q := 151) (i := 2) hC dL_alike_150 rfl (by decide) rfl ?_
      refine g_iinc (q := 154) (i := 5) (v := (nI (k + 1))) hC dL_alike_151 rfl (nI_1 _) rfl ?_
      refine g_goto (tgt := 66) hC dL_alike_154 (by decide) ?_
      refine g_sub (lv0 := [(5, .int (nI (k + 1))), (4, .int (nI en)), (3, .int (nI kd)), (2, .int 1), (0, .ref a), (1, .ref b)]) ⟨rfl, rfl, rfl, rfl, rfl, rfl, trivial⟩ ?_
      exact g_widen (by omega) (by omega) (ih (k + 1) σ (by omega) hJ)
  have h3 : ∀ (kx nx : Nat) (σ : gS), kx ≤ 10 * (9 + ρ.1 10 3) → nx ≤ 60 * (9 + ρ.1 10 3) → J2 M ψ a b ρ ρ σ → G X M 6 (gQ X M 560 3360 (rI (jQ M ψ a b 1 ρ ρ)) nX) kx nx σ 30 [(3, .int (nI 3)), (2, .int 1), (0, .ref a), (1, .ref b)] [] := by
    intro kx nx σ hk hs hJ
    refine g_iload_n (q := 31) (i := 3) hC dL_alike_30 rfl rfl rfl ?_
    refine g_iconst (q := 32) (v := nI 3) hC dL_alike_31 rfl rfl ?_
    refine g_icmp_ge (tgt := 163) (q := 35) hC dL_alike_32 (by decide) rfl (fun _ => ?_) (fun c9 => absurd (by decide) c9)
    refine g_iconst (q := 164) (v := nI 0) hC dL_alike_163 rfl rfl ?_
    refine g_istore_n (q := 165) (i := 3) hC dL_alike_164 rfl (by decide) rfl ?_
    refine g_sub (lv0 := [(3, .int (nI 0)), (2, .int 1), (0, .ref a), (1, .ref b)]) ⟨rfl, rfl, rfl, rfl, trivial⟩ ?_
    exact g_widen (by omega) (by omega) (lets _ 0 σ (Nat.zero_add _) hJ)
  have h2 : ∀ (kx nx : Nat) (σ : gS), kx ≤ 90 → nx ≤ 540 → J2 M ψ a b ρ ρ σ → G X M 6 (gQ X M 560 3360 (rI (jQ M ψ a b 1 ρ ρ)) nX) kx nx σ 30 [(3, .int (nI 2)), (2, .int 1), (0, .ref a), (1, .ref b)] [] := by
    intro kx nx σ hk hs hJ
    obtain ⟨A, hled⟩ := hJ.led1 hw.1
    refine g_iload_n (q := 31) (i := 3) hC dL_alike_30 rfl rfl rfl ?_
    refine g_iconst (q := 32) (v := nI 3) hC dL_alike_31 rfl rfl ?_
    refine g_icmp_ge (tgt := 163) (q := 35) hC dL_alike_32 (by decide) rfl (fun c9 => absurd c9 (by decide)) (fun _ => ?_)
    refine g_iload_n (q := 36) (i := 2) hC dL_alike_35 rfl rfl rfl ?_
    refine g_if_eq (tgt := 163) (q := 39) hC dL_alike_36 (by decide) rfl (fun c9 => absurd c9 (by decide)) (fun _ => ?_)
    refine g_iload_n (q := 40) (i := 3) hC dL_alike_39 rfl rfl rfl ?_
    refine g_if_ne (tgt := 48) (q := 43) hC dL_alike_40 (by decide) rfl (fun _ => ?_) (fun c9 => absurd c9 (by decide))
    refine g_iload_n (q := 49) (i := 3) hC dL_alike_48 rfl rfl rfl ?_
    refine g_iconst (q := 50) (v := nI 1) hC dL_alike_49 rfl rfl ?_
    refine g_icmp_ne (tgt := 57) (q := 53) hC dL_alike_50 (by decide) rfl (fun _ => ?_) (fun c9 => absurd c9 (by decide))
    refine g_aload_n (q := 58) (i := 0) hC dL_alike_57 rfl rfl rfl ?_
    refine g_ci (q := 61) (g_runV hC kv_L_86 md_X4_projects (j_one hJ (fun φ h _ => t_projects hC.fl h hw)) (ci := 4) rfl hled dL_alike_58 (by decide) (by decide) (by omega) (by omega) rfl rfl (Nat.le_of_ble_eq_true rfl)) rfl (fun r σ ⟨e9, hJ⟩ => ?_) (fun _ _ h9 => False.elim h9)
    subst e9
    refine g_istore (q := 63) (i := 4) hC dL_alike_61 (by decide) rfl ?_
    refine g_iconst (q := 64) (v := nI 0) hC dL_alike_63 rfl rfl ?_
    refine g_istore (q := 66) (i := 5) hC dL_alike_64 (by decide) rfl ?_
    refine g_sub (lv0 := [(5, .int (nI 0)), (4, .int (nI (ρ.1 10 3))), (3, .int (nI 2)), (2, .int 1), (0, .ref a), (1, .ref b)]) ⟨rfl, rfl, rfl, rfl, rfl, rfl, trivial⟩ ?_
    refine g_widen (by omega) (by omega) (inner 2 (ρ.1 10 3) 9 (by decide) (by omega) (fun σ lv g3 g2 g0 g1 hJ => ?_) (ρ.1 10 3) 0 σ (Nat.zero_add _) hJ)
    refine g_iinc (q := 160) (i := 3) (v := (nI 3)) hC dL_alike_157 g3 (nI_1 _) rfl ?_
    refine g_goto (tgt := 30) hC dL_alike_160 (by decide) ?_
    refine g_sub (lv0 := [(3, .int (nI 3)), (2, .int 1), (0, .ref a), (1, .ref b)]) ⟨rfl, g2, g0, g1, trivial⟩ ?_
    exact h3 _ _ σ (by omega) (by omega) hJ
  have h1 : ∀ (kx nx : Nat) (σ : gS), kx ≤ 60 → nx ≤ 360 → J2 M ψ a b ρ ρ σ → G X M 6 (gQ X M 560 3360 (rI (jQ M ψ a b 1 ρ ρ)) nX) kx nx σ 30 [(3, .int (nI 1)), (2, .int 1), (0, .ref a), (1, .ref b)] [] := by
    intro kx nx σ hk hs hJ
    obtain ⟨A, hled⟩ := hJ.led1 hw.1
    refine g_iload_n (q := 31) (i := 3) hC dL_alike_30 rfl rfl rfl ?_
    refine g_iconst (q := 32) (v := nI 3) hC dL_alike_31 rfl rfl ?_
    refine g_icmp_ge (tgt := 163) (q := 35) hC dL_alike_32 (by decide) rfl (fun c9 => absurd c9 (by decide)) (fun _ => ?_)
    refine g_iload_n (q := 36) (i := 2) hC dL_alike_35 rfl rfl rfl ?_
    refine g_if_eq (tgt := 163) (q := 39) hC dL_alike_36 (by decide) rfl (fun c9 => absurd c9 (by decide)) (fun _ => ?_)
    refine g_iload_n (q := 40) (i := 3) hC dL_alike_39 rfl rfl rfl ?_
    refine g_if_ne (tgt := 48) (q := 43) hC dL_alike_40 (by decide) rfl (fun _ => ?_) (fun c9 => absurd c9 (by decide))
    refine g_iload_n (q := 49) (i := 3) hC dL_alike_48 rfl rfl rfl ?_
    refine g_iconst (q := 50) (v := nI 1) hC dL_alike_49 rfl rfl ?_
    refine g_icmp_ne (tgt := 57) (q := 53) hC dL_alike_50 (by decide) rfl (fun c9 => absurd (by decide) c9) (fun _ => ?_)
    refine g_iconst (q := 54) (v := nI 3) hC dL_alike_53 rfl rfl ?_
    refine g_goto (tgt := 61) hC dL_alike_54 (by decide) ?_
    refine g_istore (q := 63) (i := 4) hC dL_alike_61 (by decide) rfl ?_
    refine g_iconst (q := 64) (v := nI 0) hC dL_alike_63 rfl rfl ?_
    refine g_istore (q := 66) (i := 5) hC dL_alike_64 (by decide) rfl ?_
    refine g_sub (lv0 := [(5, .int (nI 0)), (4, .int (nI (3))), (3, .int (nI 1)), (2, .int 1), (0, .ref a), (1, .ref b)]) ⟨rfl, rfl, rfl, rfl, rfl, rfl, trivial⟩ ?_
    refine g_widen (by omega) (by omega) (inner 1 (3) 6 (by decide) (by omega) (fun σ lv g3 g2 g0 g1 hJ => ?_) (3) 0 σ (Nat.zero_add _) hJ)
    refine g_iinc (q := 160) (i := 3) (v := (nI 2)) hC dL_alike_157 g3 (nI_1 _) rfl ?_
    refine g_goto (tgt := 30) hC dL_alike_160 (by decide) ?_
    refine g_sub (lv0 := [(3, .int (nI 2)), (2, .int 1), (0, .ref a), (1, .ref b)]) ⟨rfl, g2, g0, g1, trivial⟩ ?_
    exact h2 _ _ σ (by omega) (by omega) hJ
  have h0 : ∀ (kx nx : Nat) (σ : gS), kx ≤ 0 → nx ≤ 0 → J2 M ψ a b ρ ρ σ → G X M 6 (gQ X M 560 3360 (rI (jQ M ψ a b 1 ρ ρ)) nX) kx nx σ 30 [(3, .int (nI 0)), (2, .int 1), (0, .ref a), (1, .ref b)] [] := by
    intro kx nx σ hk hs hJ
    obtain ⟨A, hled⟩ := hJ.led1 hw.1
    refine g_iload_n (q := 31) (i := 3) hC dL_alike_30 rfl rfl rfl ?_
    refine g_iconst (q := 32) (v := nI 3) hC dL_alike_31 rfl rfl ?_
    refine g_icmp_ge (tgt := 163) (q := 35) hC dL_alike_32 (by decide) rfl (fun c9 => absurd c9 (by decide)) (fun _ => ?_)
    refine g_iload_n (q := 36) (i := 2) hC dL_alike_35 rfl rfl rfl ?_
    refine g_if_eq (tgt := 163) (q := 39) hC dL_alike_36 (by decide) rfl (fun c9 => absurd c9 (by decide)) (fun _ => ?_)
    refine g_iload_n (q := 40) (i := 3) hC dL_alike_39 rfl rfl rfl ?_
    refine g_if_ne (tgt := 48) (q := 43) hC dL_alike_40 (by decide) rfl (fun c9 => absurd (by decide) c9) (fun _ => ?_)
    refine g_bipush (q := 45) (v := nI 6) hC dL_alike_43 rfl rfl ?_
    refine g_goto (tgt := 61) hC dL_alike_45 (by decide) ?_
    refine g_istore (q := 63) (i := 4) hC dL_alike_61 (by decide) rfl ?_
    refine g_iconst (q := 64) (v := nI 0) hC dL_alike_63 rfl rfl ?_
    refine g_istore (q := 66) (i := 5) hC dL_alike_64 (by decide) rfl ?_
    refine g_sub (lv0 := [(5, .int (nI 0)), (4, .int (nI (6))), (3, .int (nI 0)), (2, .int 1), (0, .ref a), (1, .ref b)]) ⟨rfl, rfl, rfl, rfl, rfl, rfl, trivial⟩ ?_
    refine g_widen (by omega) (by omega) (inner 0 (6) 0 (by decide) (by omega) (fun σ lv g3 g2 g0 g1 hJ => ?_) (6) 0 σ (Nat.zero_add _) hJ)
    refine g_iinc (q := 160) (i := 3) (v := (nI 1)) hC dL_alike_157 g3 (nI_1 _) rfl ?_
    refine g_goto (tgt := 30) hC dL_alike_160 (by decide) ?_
    refine g_sub (lv0 := [(3, .int (nI 1)), (2, .int 1), (0, .ref a), (1, .ref b)]) ⟨rfl, g2, g0, g1, trivial⟩ ?_
    exact h1 _ _ σ (by omega) (by omega) hJ
  obtain ⟨A1, hled1⟩ := hJ.led1 hw.1
  refine g_aload_n (q := 1) (i := 0) hC dL_alike_0 rfl rfl rfl ?_
  refine g_ci (q := 4) (g_runV hC kv_L_86 md_X4_projects (j_one hJ (fun φ h _ => t_projects hC.fl h hw)) (ci := 4) rfl hled1 dL_alike_1 (by decide) (by decide) (by omega) (by omega) rfl rfl (Nat.le_of_ble_eq_true rfl)) rfl (fun r σ ⟨e9, hJ⟩ => ?_) (fun _ _ h9 => False.elim h9)
  subst e9
  obtain ⟨A2, hled2⟩ := hJ.led2 hw.1
  refine g_aload_n (q := 5) (i := 1) hC dL_alike_4 rfl rfl rfl ?_
  refine g_ci (q := 8) (g_runV hC kv_L_86 md_X4_projects (j_two hJ (fun φ h _ => t_projects hC.fl h hw)) (ci := 4) rfl hled2 dL_alike_5 (by decide) (by decide) (by omega) (by omega) rfl rfl (Nat.le_of_ble_eq_true rfl)) rfl (fun r σ ⟨e9, hJ⟩ => ?_) (fun _ _ h9 => False.elim h9)
  subst e9
  refine g_icmp_ne (tgt := 26) (q := 11) hC dL_alike_8 (by decide) rfl (fun c9 => absurd rfl c9) (fun _ => ?_)
  obtain ⟨A3, hled3⟩ := hJ.led1 hw.1
  refine g_aload_n (q := 12) (i := 0) hC dL_alike_11 rfl rfl rfl ?_
  refine g_ci (q := 15) (g_runV hC kv_L_150 md_X4_findProject (j_one hJ (fun φ h _ => t_find hC.fl h hw)) (ci := 4) rfl hled3 dL_alike_12 (by decide) (by decide) (by omega) (by omega) rfl rfl (Nat.le_of_ble_eq_true rfl)) rfl (fun r σ ⟨e9, hJ⟩ => ?_) (fun _ _ h9 => False.elim h9)
  subst e9
  obtain ⟨A4, hled4⟩ := hJ.led2 hw.1
  refine g_aload_n (q := 16) (i := 1) hC dL_alike_15 rfl rfl rfl ?_
  refine g_ci (q := 19) (g_runV hC kv_L_150 md_X4_findProject (j_two hJ (fun φ h _ => t_find hC.fl h hw)) (ci := 4) rfl hled4 dL_alike_16 (by decide) (by decide) (by omega) (by omega) rfl rfl (Nat.le_of_ble_eq_true rfl)) rfl (fun r σ ⟨e9, hJ⟩ => ?_) (fun _ _ h9 => False.elim h9)
  subst e9
  refine g_icmp_ne (tgt := 26) (q := 22) hC dL_alike_19 (by decide) rfl (fun c9 => absurd rfl c9) (fun _ => ?_)
  refine g_iconst (q := 23) (v := 1) hC dL_alike_22 rfl rfl ?_
  refine g_goto (tgt := 27) hC dL_alike_23 (by decide) ?_
  refine g_istore_n (q := 28) (i := 2) hC dL_alike_27 rfl (by decide) rfl ?_
  refine g_iconst (q := 29) (v := nI 0) hC dL_alike_28 rfl rfl ?_
  refine g_istore_n (q := 30) (i := 3) hC dL_alike_29 rfl (by decide) rfl ?_
  refine g_sub (lv0 := [(3, .int (nI 0)), (2, .int 1), (0, .ref a), (1, .ref b)]) ⟨rfl, rfl, rfl, rfl, trivial⟩ ?_
  exact h0 _ _ σ (by omega) (by omega) hJ
