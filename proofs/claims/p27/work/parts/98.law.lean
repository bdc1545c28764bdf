/-! ===== the law: its loop (by wip/p27/gen_law2.py) ===== -/
def on1 (mb : Nat) (e : va_E) : gS := fun x => if x = mb then some e else none
section JL
variable {M : gMT} {ψ σ : gS} {a b mb : Nat} {e e' : va_E} {ρ ρ' ρ1 : gSt} {l : Launch} {y : MethodName} {cw : Cond} {d mc ms : Nat} {av : List Value}
theorem J2.m (h : J2 M (on1 mb e) a b ρ ρ' σ) : σ mb = some e := by
  obtain ⟨φ, h1, h2, -⟩ := h.one
  exact h1.oth (h2 mb e (if_pos rfl))
theorem J2.arr (h : J2 M (on1 mb e) a b ρ ρ' σ) : J2 M (on1 mb e') a b ρ ρ' (gUp σ mb e') := by
  obtain ⟨σ1, σ2, A1, W1, A2, W2, h1, h2, h3, h4⟩ := h
  have hm : on1 mb e mb = some e := if_pos rfl
  have n1 : σ1 mb = none := (h3 mb).2.1.resolve_right (by rw [hm]; exact fun z => nomatch z)
  have n2 : σ2 mb = none := (h3 mb).2.2.resolve_right (by rw [hm]; exact fun z => nomatch z)
  refine ⟨σ1, σ2, A1, W1, A2, W2, h1, h2, fun x => ⟨(h3 x).1, ?_, ?_⟩, fun x => ?_⟩
  · by_cases z : x = mb
    · rw [z]
      exact Or.inl n1
    · exact Or.inr (if_neg z)
  · by_cases z : x = mb
    · rw [z]
      exact Or.inl n2
    · exact Or.inr (if_neg z)
  · by_cases z : x = mb
    · rw [z, gUp_self, uni_s (show on1 mb e' mb = some e' from if_pos rfl)]
    · rw [gUp_ne _ _ z, h4 x, uni_n (show on1 mb e x = none from if_neg z), uni_n (show on1 mb e' x = none from if_neg z)]
theorem j_oneE (h : J2 M ψ a b ρ ρ' σ) (hc : ∀ φ, St M φ a ρ σ → Con l M y cw d mc ms av σ (rI fun r σ2 => r = 1 ∧ ∃ ρ1, St M φ a ρ1 σ2) nX) : Con l M y cw d mc ms av σ (rI fun r σ2 => r = 1 ∧ ∃ ρ1, J2 M ψ a b ρ1 ρ' σ2) nX := by
  obtain ⟨φ, h1, h2, h3⟩ := h.one
  exact (hc φ h1).mono (fun v τ ⟨r, e1, e2, ρ1, e3⟩ => ⟨r, e1, e2, ρ1, h3 _ _ e3⟩) (fun _ _ z => z)
theorem j_twoE (h : J2 M ψ a b ρ ρ' σ) (hc : ∀ φ, St M φ b ρ' σ → Con l M y cw d mc ms av σ (rI fun r σ2 => r = 1 ∧ ∃ ρ1, St M φ b ρ1 σ2) nX) : Con l M y cw d mc ms av σ (rI fun r σ2 => r = 1 ∧ ∃ ρ1, J2 M ψ a b ρ ρ1 σ2) nX :=
  (j_oneE h.sym hc).mono (fun v τ ⟨r, e1, e2, ρ1, e3⟩ => ⟨r, e1, e2, ρ1, e3.sym⟩) (fun _ _ z => z)
end JL
/-- behind k acts -/
def Jl (M : gMT) (a b mb k : Nat) (ρ : gSt) (m : Nat → Int32) (c : Nat) (σ : gS) : Prop := J2 M (on1 mb (aI M 2 40 m)) a b ρ ρ σ ∧ Iv k ρ ∧ Lm ρ m c
set_option maxRecDepth 100000 in
set_option maxHeartbeats 4000000 in
theorem law_fin {X : gX} {M : gMT} {Q : State → Prop} {a b mb T k c : Nat} {ρ : gSt} {m : Nat → Int32} {kx nx : Nat} {σ : gS} {lv : List (Nat × Value)} (hC : gOk X M RL code 12 1000 686501 7042194) (hL : gScL M ≤ 260) (hend : ∀ (k n9 : Nat) (σ : gS) (lv : List (Nat × Value)), k ≤ 686501 → n9 ≤ 7042194 → G X M 12 Q k n9 σ 325 lv []) (hk : kx ≤ 600000) (hn : nx ≤ 6000000) (hk6 : k ≤ 60) (hJ : Jl M a b mb k ρ m c σ) (g6 : gL lv 6 = some (.int 1)) (g2 : gL lv 2 = some (.ref b)) (g1 : gL lv 1 = some (.ref a)) (g0 : gL lv 0 = some (.ref (gScB M))) : G X M 12 Q kx nx σ 283 lv [] := by
  obtain ⟨hJ, hI, hm⟩ := hJ
  refine g_iload (q := 285) (i := 6) hC dL_law_283 g6 rfl ?_
  refine g_if_eq (tgt := 329) (q := 288) hC dL_law_285 (by decide) rfl (fun c9 => absurd c9 (by decide)) (fun _ => ?_)
  refine g_sub (lv0 := [(2, .ref b), (1, .ref a), (0, .ref (gScB M))]) ⟨g2, g1, g0, trivial⟩ ?_
  refine g_aload_n (q := 289) (i := 2) hC dL_law_288 rfl rfl rfl ?_
  refine g_ci (q := 292) (g_runS hC ks_L_182 md_L_holds (j_two hJ (fun φ h _ => c_holds _ hC.fl M _ φ b k ρ (by omega) h hI)) dL_law_289 (by decide) (by decide) (by omega) (by omega) rfl rfl (Nat.le_of_ble_eq_true rfl)) rfl (fun r σ ⟨e9, hJ⟩ => ?_) (fun _ _ h9 => False.elim h9)
  subst e9
  refine g_if_eq (tgt := 329) (q := 295) hC dL_law_292 (by decide) rfl (fun c9 => absurd c9 (by decide)) (fun _ => ?_)
  refine g_aload_n (q := 296) (i := 2) hC dL_law_295 rfl rfl rfl ?_
  refine g_aload_n (q := 297) (i := 0) hC dL_law_296 rfl rfl rfl ?_
  refine g_iconst (q := 298) (v := nI 0) hC dL_law_297 rfl rfl ?_
  refine g_ci (q := 301) (g_runS hC ks_L_167 md_L_drawn (c_drawn _ hC.fl M _ 0 (by decide) hL) dL_law_298 (by decide) (by decide) (by omega) (by omega) rfl rfl (Nat.le_of_ble_eq_true rfl)) rfl (fun r σ ⟨⟨x, hx, e9⟩, e8⟩ => ?_) (fun _ _ h9 => False.elim h9)
  subst e9
  subst e8
  refine g_bipush (q := 303) (v := nI 41) hC dL_law_301 rfl rfl ?_
  refine g_idiv (q := 304) (v := (nI (x / 41))) hC dL_law_303 (by decide) (pk_div (by omega) (by omega) (by omega)) rfl ?_
  refine g_ci (q := 307) (g_runS hC ks_L_186 md_L_isFound (j_twoE hJ (fun φ h => c_isFound _ hC.fl M _ φ b k ρ (x / 41) (by omega) h hI)) dL_law_304 (by decide) (by decide) (by omega) (by omega) rfl rfl (Nat.le_of_ble_eq_true rfl)) rfl (fun r σ ⟨e9, ρ2, hJ2⟩ => ?_) (fun _ _ h9 => False.elim h9)
  subst e9
  refine g_if_eq (tgt := 329) (q := 310) hC dL_law_307 (by decide) rfl (fun c9 => absurd c9 (by decide)) (fun _ => ?_)
  refine g_aload_n (q := 311) (i := 1) hC dL_law_310 rfl rfl rfl ?_
  refine g_aload_n (q := 312) (i := 0) hC dL_law_311 rfl rfl rfl ?_
  refine g_iconst (q := 313) (v := nI 0) hC dL_law_312 rfl rfl ?_
  refine g_ci (q := 316) (g_runS hC ks_L_167 md_L_drawn (c_drawn _ hC.fl M _ 0 (by decide) hL) dL_law_313 (by decide) (by decide) (by omega) (by omega) rfl rfl (Nat.le_of_ble_eq_true rfl)) rfl (fun r σ ⟨⟨x2, hx2, e9⟩, e8⟩ => ?_) (fun _ _ h9 => False.elim h9)
  subst e9
  subst e8
  refine g_bipush (q := 318) (v := nI 43) hC dL_law_316 rfl rfl ?_
  refine g_idiv (q := 319) (v := (nI (x2 / 43))) hC dL_law_318 (by decide) (pk_div (by omega) (by omega) (by omega)) rfl ?_
  refine g_ci (q := 322) (g_runS hC ks_L_186 md_L_isFound (j_oneE hJ2 (fun φ h => c_isFound _ hC.fl M _ φ a k ρ (x2 / 43) (by omega) h hI)) dL_law_319 (by decide) (by decide) (by omega) (by omega) rfl rfl (Nat.le_of_ble_eq_true rfl)) rfl (fun r σ ⟨e9, ρ3, hJ3⟩ => ?_) (fun _ _ h9 => False.elim h9)
  subst e9
  refine g_if_eq (tgt := 329) (q := 325) hC dL_law_322 (by decide) rfl (fun c9 => absurd c9 (by decide)) (fun _ => ?_)
  exact hend _ _ σ _ (by omega) (by omega)
set_option maxRecDepth 100000 in
set_option maxHeartbeats 4000000 in
theorem law_b {X : gX} {M : gMT} {Q : State → Prop} {a b mb T k c2 x : Nat} {ρ : gSt} {m : Nat → Int32} {kx nx : Nat} {σ : gS} (hC : gOk X M RL code 12 1000 686501 7042194) (hk6 : k < 60) (hx : x < 2 ^ 31) (hk : kx ≤ 200 + 6900 * k + 1290) (hn : nx ≤ 2000 + 76060 * k + 19200) (hJ : Jl M a b mb (k + 1) ρ m c2 σ) (nxt : ∀ (σ : gS), Jl M a b mb (k + 1) ρ m c2 σ → G X M 12 Q (200 + 6900 * (k + 1)) (2000 + 76060 * (k + 1)) σ 43 [(7, .int (nI (k + 1))), (6, .int 1), (5, .int (nI T)), (4, .int (nI c2)), (3, .ref mb), (2, .ref b), (1, .ref a), (0, .ref (gScB M))] []) : G X M 12 Q kx nx σ 229 [(4, .int (nI c2)), (6, .int 1), (8, .int (nI x)), (7, .int (nI k)), (5, .int (nI T)), (3, .ref mb), (2, .ref b), (1, .ref a), (0, .ref (gScB M))] [] := by
  obtain ⟨hJ, hI, hm⟩ := hJ
  have h270 : ∀ (kx nx : Nat) (σ : gS), kx ≤ 200 + 6900 * (k + 1) → nx ≤ 2000 + 76060 * (k + 1) → J2 M (on1 mb (aI M 2 40 m)) a b ρ ρ σ → G X M 12 Q kx nx σ 270 [(4, .int (nI c2)), (6, .int 1), (8, .int (nI x)), (7, .int (nI k)), (5, .int (nI T)), (3, .ref mb), (2, .ref b), (1, .ref a), (0, .ref (gScB M))] [] := by
    intro kx nx σ h1 h2 hJ
    refine g_iconst (q := 271) (v := 1) hC dL_law_270 rfl rfl ?_
    refine g_goto (tgt := 275) hC dL_law_271 (by decide) ?_
    refine g_istore (q := 277) (i := 6) hC dL_law_275 (by decide) rfl ?_
    refine g_iinc (q := 280) (i := 7) (v := (nI (k + 1))) hC dL_law_277 rfl (nI_1 _) rfl ?_
    refine g_goto (tgt := 43) hC dL_law_280 (by decide) ?_
    refine g_sub (lv0 := [(7, .int (nI (k + 1))), (6, .int 1), (5, .int (nI T)), (4, .int (nI c2)), (3, .ref mb), (2, .ref b), (1, .ref a), (0, .ref (gScB M))]) ⟨rfl, rfl, rfl, rfl, rfl, rfl, rfl, rfl, trivial⟩ ?_
    exact g_widen h1 h2 (nxt σ ⟨hJ, hI, hm⟩)
  refine g_iload (q := 231) (i := 6) hC dL_law_229 rfl rfl ?_
  refine g_if_eq (tgt := 274) (q := 234) hC dL_law_231 (by decide) rfl (fun c9 => absurd c9 (by decide)) (fun _ => ?_)
  refine g_aload_n (q := 235) (i := 2) hC dL_law_234 rfl rfl rfl ?_
  refine g_aload_n (q := 236) (i := 3) hC dL_law_235 rfl rfl rfl ?_
  refine g_iload (q := 238) (i := 8) hC dL_law_236 rfl rfl ?_
  refine g_sipush (q := 241) (v := nI 499) hC dL_law_238 rfl rfl ?_
  refine g_irem (q := 242) (v := (nI (x % 499))) hC dL_law_241 (by decide) (pk_rem (by omega) (by omega) (by omega)) rfl ?_
  refine g_ci (q := 245) (g_runS hC ks_L_174 md_L_refuses (j_two hJ (fun φ h hψ => c_refuses _ hC.fl M _ φ b mb ρ m (k + 1) (x % 499) (by omega) (by omega) h hI (hψ mb _ (if_pos rfl)) hm.1)) dL_law_242 (by decide) (by decide) (by omega) (by omega) rfl rfl (Nat.le_of_ble_eq_true rfl)) rfl (fun r σ ⟨e9, hJ⟩ => ?_) (fun _ _ h9 => False.elim h9)
  subst e9
  refine g_if_eq (tgt := 274) (q := 248) hC dL_law_245 (by decide) rfl (fun c9 => absurd c9 (by decide)) (fun _ => ?_)
  refine g_aload_n (q := 249) (i := 1) hC dL_law_248 rfl rfl rfl ?_
  refine g_aload_n (q := 250) (i := 2) hC dL_law_249 rfl rfl rfl ?_
  refine g_ci (q := 253) (g_runS hC ks_L_178 md_L_alike (c_alike _ hC.fl M _ (on1 mb (aI M 2 40 m)) a b ρ hJ hI.w) dL_law_250 (by decide) (by decide) (by omega) (by omega) rfl rfl (Nat.le_of_ble_eq_true rfl)) rfl (fun r σ ⟨e9, hJ⟩ => ?_) (fun _ _ h9 => False.elim h9)
  subst e9
  refine g_if_eq (tgt := 274) (q := 256) hC dL_law_253 (by decide) rfl (fun c9 => absurd c9 (by decide)) (fun _ => ?_)
  refine g_iload (q := 258) (i := 7) hC dL_law_256 rfl rfl ?_
  refine g_iconst (q := 259) (v := nI 4) hC dL_law_258 rfl rfl ?_
  refine g_irem (q := 260) (v := (nI (k % 4))) hC dL_law_259 (by decide) (pk_rem (by omega) (by omega) (by omega)) rfl ?_
  refine g_if_gt (tgt := 270) (q := 263) hC dL_law_260 (by decide) rfl (fun _ => h270 _ _ σ (by omega) (by omega) hJ) (fun _ => ?_)
  refine g_aload_n (q := 264) (i := 2) hC dL_law_263 rfl rfl rfl ?_
  refine g_ci (q := 267) (g_runS hC ks_L_182 md_L_holds (j_two hJ (fun φ h _ => c_holds _ hC.fl M _ φ b (k + 1) ρ (by omega) h hI)) dL_law_264 (by decide) (by decide) (by omega) (by omega) rfl rfl (Nat.le_of_ble_eq_true rfl)) rfl (fun r σ ⟨e9, hJ⟩ => ?_) (fun _ _ h9 => False.elim h9)
  subst e9
  refine g_if_eq (tgt := 274) (q := 270) hC dL_law_267 (by decide) rfl (fun c9 => absurd c9 (by decide)) (fun _ => ?_)
  exact h270 _ _ σ (by omega) (by omega) hJ
set_option maxRecDepth 100000 in
set_option maxHeartbeats 4000000 in
theorem law_m {X : gX} {M : gMT} {Q : State → Prop} {a b mb T k c x : Nat} {w : Int32} {ρ : gSt} {m : Nat → Int32} {kx nx : Nat} {σ : gS} (hC : gOk X M RL code 12 1000 686501 7042194) (hx : x < 2 ^ 31) (hc : c ≤ 40) (hc4 : mdB (x % 32) w = true → c < 40) (hJ : J2 M (on1 mb (aI M 2 40 m)) a b ρ ρ σ) (nxt : ∀ (σ : gS), J2 M (on1 mb (aI M 2 40 (m2F m c (x % 32) (x / 32) w))) a b ρ ρ σ → G X M 12 Q kx nx σ 229 [(4, .int (nI (c1F c (x % 32) w))), (6, .int 1), (8, .int (nI x)), (7, .int (nI k)), (5, .int (nI T)), (3, .ref mb), (2, .ref b), (1, .ref a), (0, .ref (gScB M))] []) : G X M 12 Q kx nx σ 112 [(10, .int (nI (x / 32))), (6, .int 1), (9, .int w), (8, .int (nI x)), (7, .int (nI k)), (5, .int (nI T)), (4, .int (nI c)), (3, .ref mb), (2, .ref b), (1, .ref a), (0, .ref (gScB M))] [] := by
  have e0 : (0 : Int32).toInt = 0 := by decide
  have h197 : ∀ (σ : gS), J2 M (on1 mb (aI M 2 40 (m1F m c (x % 32) w))) a b ρ ρ σ → G X M 12 Q kx nx σ 197 [(4, .int (nI (c1F c (x % 32) w))), (10, .int (nI (x / 32))), (6, .int 1), (9, .int w), (8, .int (nI x)), (7, .int (nI k)), (5, .int (nI T)), (3, .ref mb), (2, .ref b), (1, .ref a), (0, .ref (gScB M))] [] := by
    intro σ hJ
    have h229 : ∀ (σ : gS), J2 M (on1 mb (aI M 2 40 (m2F m c (x % 32) (x / 32) w))) a b ρ ρ σ → G X M 12 Q kx nx σ 229 [(4, .int (nI (c1F c (x % 32) w))), (10, .int (nI (x / 32))), (6, .int 1), (9, .int w), (8, .int (nI x)), (7, .int (nI k)), (5, .int (nI T)), (3, .ref mb), (2, .ref b), (1, .ref a), (0, .ref (gScB M))] [] := by
      intro σ hJ
      refine g_sub (lv0 := [(4, .int (nI (c1F c (x % 32) w))), (6, .int 1), (8, .int (nI x)), (7, .int (nI k)), (5, .int (nI T)), (3, .ref mb), (2, .ref b), (1, .ref a), (0, .ref (gScB M))]) ⟨rfl, rfl, rfl, rfl, rfl, rfl, rfl, rfl, rfl, trivial⟩ ?_
      exact nxt σ hJ
    have same : ¬ ((x % 32 = 19 ∧ x / 32 % 3 = 0) ∧ 0 ≤ w) → m2F m c (x % 32) (x / 32) w = m1F m c (x % 32) w := fun z => if_neg z
    refine g_iload (q := 199) (i := 8) hC dL_law_197 rfl rfl ?_
    refine g_bipush (q := 201) (v := nI 32) hC dL_law_199 rfl rfl ?_
    refine g_irem (q := 202) (v := (nI (x % 32))) hC dL_law_201 (by decide) (pk_rem (by omega) (by omega) (by omega)) rfl ?_
    refine g_bipush (q := 204) (v := nI 19) hC dL_law_202 rfl rfl ?_
    refine g_icmp_ne (tgt := 229) (q := 207) hC dL_law_204 (by decide) rfl (fun c9 => h229 σ (by rw [same (fun z => c9 (by rw [z.1.1]))]; exact hJ)) (fun c9 => ?_)
    have h19 : x % 32 = 19 := (nI_eq (by omega) (by omega)).mp c9
    refine g_iload (q := 209) (i := 10) hC dL_law_207 rfl rfl ?_
    refine g_iconst (q := 210) (v := nI 3) hC dL_law_209 rfl rfl ?_
    refine g_irem (q := 211) (v := (nI ((x / 32) % 3))) hC dL_law_210 (by decide) (pk_rem (by omega) (by omega) (by omega)) rfl ?_
    refine g_if_ne (tgt := 229) (q := 214) hC dL_law_211 (by decide) rfl (fun c8 => h229 σ (by rw [same (fun z => c8 (by rw [z.1.2]; rfl))]; exact hJ)) (fun c8 => ?_)
    have h3 : x / 32 % 3 = 0 := (nI_eq (by omega) (by omega)).mp c8
    refine g_iload (q := 216) (i := 9) hC dL_law_214 rfl rfl ?_
    refine g_if_lt (tgt := 229) (q := 219) hC dL_law_216 (by decide) rfl (fun c7 => h229 σ (by rw [same (fun z => Int32.not_lt.mpr z.2 c7)]; exact hJ)) (fun c7 => ?_)
    refine g_aload_n (q := 220) (i := 3) hC dL_law_219 rfl rfl rfl ?_
    refine g_iload (q := 222) (i := 10) hC dL_law_220 rfl rfl ?_
    refine g_iconst (q := 223) (v := nI 3) hC dL_law_222 rfl rfl ?_
    refine g_idiv (q := 224) (v := (nI ((x / 32) / 3))) hC dL_law_223 (by decide) (pk_div (by omega) (by omega) (by omega)) rfl ?_
    refine g_bipush (q := 226) (v := nI 10) hC dL_law_224 rfl rfl ?_
    refine g_irem (q := 227) (v := (nI (((x / 32) / 3) % 10))) hC dL_law_226 (by decide) (pk_rem (by omega) (by omega) (by omega)) rfl ?_
    refine g_iconst (q := 228) (v := nI 0) hC dL_law_227 rfl rfl ?_
    refine g_iast (q := 229) hC dL_law_228 hJ.m (vp_in_nI (by omega) (by omega)) rfl ?_
    refine h229 _ ?_
    have e2 : m2F m c (x % 32) (x / 32) w = up1 (m1F m c (x % 32) w) (x / 32 / 3 % 10) 0 := if_pos ⟨⟨h19, h3⟩, Int32.not_lt.mp c7⟩
    rw [e2, nI_clamp (by omega)]
    exact hJ.arr
  have h142 : ∀ (bm : Bool), bm = mdB (x % 32) w → G X M 12 Q kx nx σ 142 [(10, .int (nI (x / 32))), (6, .int 1), (9, .int w), (8, .int (nI x)), (7, .int (nI k)), (5, .int (nI T)), (4, .int (nI c)), (3, .ref mb), (2, .ref b), (1, .ref a), (0, .ref (gScB M))] [.int (bI bm)] := by
    intro bm hb
    refine g_istore (q := 144) (i := 11) hC dL_law_142 (by decide) rfl ?_
    refine g_aload_n (q := 145) (i := 3) hC dL_law_144 rfl rfl rfl ?_
    refine g_iload (q := 147) (i := 11) hC dL_law_145 rfl rfl ?_
    cases bm with
    | true =>
      have hb := hb.symm
      obtain ⟨g1, g2⟩ := m1_t (m := m) (c := c) hb
      have hc9 := hc4 hb
      refine g_if_eq (tgt := 155) (q := 150) hC dL_law_147 (by decide) rfl (fun c9 => absurd c9 (by decide)) (fun _ => ?_)
      refine g_iload (q := 152) (i := 4) hC dL_law_150 rfl rfl ?_
      refine g_goto (tgt := 157) hC dL_law_152 (by decide) ?_
      refine g_iload (q := 159) (i := 11) hC dL_law_157 rfl rfl ?_
      refine g_if_eq (tgt := 166) (q := 162) hC dL_law_159 (by decide) rfl (fun c9 => absurd c9 (by decide)) (fun _ => ?_)
      refine g_iconst (q := 163) (v := 1) hC dL_law_162 rfl rfl ?_
      refine g_goto (tgt := 181) hC dL_law_163 (by decide) ?_
      refine g_iast (q := 182) hC dL_law_181 hJ.m (vp_in_nI (by omega) (by omega)) rfl ?_
      refine g_iload (q := 184) (i := 4) hC dL_law_182 rfl rfl ?_
      refine g_iload (q := 186) (i := 11) hC dL_law_184 rfl rfl ?_
      refine g_if_eq (tgt := 193) (q := 189) hC dL_law_186 (by decide) rfl (fun c9 => absurd c9 (by decide)) (fun _ => ?_)
      refine g_iconst (q := 190) (v := nI 1) hC dL_law_189 rfl rfl ?_
      refine g_goto (tgt := 194) hC dL_law_190 (by decide) ?_
      refine g_iadd (q := 195) (v := nI (c1F c (x % 32) w)) hC dL_law_194 (by rw [g2]; exact nI_add _ _) rfl ?_
      refine g_istore (q := 197) (i := 4) hC dL_law_195 (by decide) rfl ?_
      refine g_sub (lv0 := [(4, .int (nI (c1F c (x % 32) w))), (10, .int (nI (x / 32))), (6, .int 1), (9, .int w), (8, .int (nI x)), (7, .int (nI k)), (5, .int (nI T)), (3, .ref mb), (2, .ref b), (1, .ref a), (0, .ref (gScB M))]) ⟨rfl, rfl, rfl, rfl, rfl, rfl, rfl, rfl, rfl, rfl, rfl, trivial⟩ ?_
      refine h197 _ ?_
      rw [g1, nI_clamp (by omega)]
      exact hJ.arr
    | false =>
      have hb := hb.symm
      obtain ⟨g1, g2⟩ := m1_f (m := m) (c := c) hb
      have h181 : ∀ v : Int32, v = (if 39 < c then m 39 else 0) → G X M 12 Q kx nx σ 181 ((11, .int (bI false)) :: [(10, .int (nI (x / 32))), (6, .int 1), (9, .int w), (8, .int (nI x)), (7, .int (nI k)), (5, .int (nI T)), (4, .int (nI c)), (3, .ref mb), (2, .ref b), (1, .ref a), (0, .ref (gScB M))]) [.int v, .int (nI 39), .ref mb] := by
        intro v hv
        subst hv
        refine g_iast (q := 182) hC dL_law_181 hJ.m (vp_in_nI (by omega) (by omega)) rfl ?_
        refine g_iload (q := 184) (i := 4) hC dL_law_182 rfl rfl ?_
        refine g_iload (q := 186) (i := 11) hC dL_law_184 rfl rfl ?_
        refine g_if_eq (tgt := 193) (q := 189) hC dL_law_186 (by decide) rfl (fun _ => ?_) (fun c9 => absurd rfl c9)
        refine g_iconst (q := 194) (v := nI 0) hC dL_law_193 rfl rfl ?_
        refine g_iadd (q := 195) (v := nI (c1F c (x % 32) w)) hC dL_law_194 (by rw [g2]; exact nI_add c 0) rfl ?_
        refine g_istore (q := 197) (i := 4) hC dL_law_195 (by decide) rfl ?_
        refine g_sub (lv0 := [(4, .int (nI (c1F c (x % 32) w))), (10, .int (nI (x / 32))), (6, .int 1), (9, .int w), (8, .int (nI x)), (7, .int (nI k)), (5, .int (nI T)), (3, .ref mb), (2, .ref b), (1, .ref a), (0, .ref (gScB M))]) ⟨rfl, rfl, rfl, rfl, rfl, rfl, rfl, rfl, rfl, rfl, rfl, trivial⟩ ?_
        refine h197 _ ?_
        rw [g1, nI_clamp (by omega)]
        exact hJ.arr
      refine g_if_eq (tgt := 155) (q := 150) hC dL_law_147 (by decide) rfl (fun _ => ?_) (fun c9 => absurd rfl c9)
      refine g_bipush (q := 157) (v := nI 39) hC dL_law_155 rfl rfl ?_
      refine g_iload (q := 159) (i := 11) hC dL_law_157 rfl rfl ?_
      refine g_if_eq (tgt := 166) (q := 162) hC dL_law_159 (by decide) rfl (fun _ => ?_) (fun c9 => absurd rfl c9)
      refine g_iload (q := 168) (i := 4) hC dL_law_166 rfl rfl ?_
      refine g_bipush (q := 170) (v := nI 39) hC dL_law_168 rfl rfl ?_
      refine g_icmp_le (tgt := 180) (q := 173) hC dL_law_170 (by decide) rfl (fun c9 => ?_) (fun c9 => ?_)
      · have hle : ¬ 39 < c := Nat.not_lt.mpr ((nI_leI (by omega) (by omega)).mp c9)
        refine g_iconst (q := 181) (v := 0) hC dL_law_180 rfl rfl ?_
        exact h181 _ (by rw [if_neg hle])
      · have hle : 39 < c := Nat.not_le.mp (fun z => c9 (nI_le z (by omega)))
        refine g_aload_n (q := 174) (i := 3) hC dL_law_173 rfl rfl rfl ?_
        refine g_bipush (q := 176) (v := nI 39) hC dL_law_174 rfl rfl ?_
        refine g_iald (q := 177) (v := m 39) hC dL_law_176 hJ.m (vp_in_nI (by omega) (by omega)) (congrArg m (nI_clamp (by omega))) rfl ?_
        refine g_goto (tgt := 181) hC dL_law_177 (by decide) ?_
        exact h181 _ (by rw [if_pos hle])
  refine g_iload (q := 114) (i := 8) hC dL_law_112 rfl rfl ?_
  refine g_bipush (q := 116) (v := nI 32) hC dL_law_114 rfl rfl ?_
  refine g_irem (q := 117) (v := (nI (x % 32))) hC dL_law_116 (by decide) (pk_rem (by omega) (by omega) (by omega)) rfl ?_
  refine g_bipush (q := 119) (v := nI 12) hC dL_law_117 rfl rfl ?_
  have no : (¬ (12 ≤ x % 32 ∧ x % 32 ≤ 14) ∨ ¬ 0 ≤ w) → G X M 12 Q kx nx σ 141 [(10, .int (nI (x / 32))), (6, .int 1), (9, .int w), (8, .int (nI x)), (7, .int (nI k)), (5, .int (nI T)), (4, .int (nI c)), (3, .ref mb), (2, .ref b), (1, .ref a), (0, .ref (gScB M))] [] := by
    intro z
    refine g_iconst (q := 142) (v := 0) hC dL_law_141 rfl rfl ?_
    refine h142 false ?_
    unfold mdB
    rcases z with z | z
    · rw [decide_eq_false z, Bool.false_and]
    · rw [decide_eq_false z, Bool.and_false]
  refine g_icmp_lt (tgt := 141) (q := 122) hC dL_law_119 (by decide) rfl (fun c9 => no (Or.inl (fun z => absurd c9 (nI_nlt z.1 (by omega))))) (fun c9 => ?_)
  have h12 : 12 ≤ x % 32 := Nat.not_lt.mp (fun z => c9 (nI_lt z (by omega)))
  refine g_iload (q := 124) (i := 8) hC dL_law_122 rfl rfl ?_
  refine g_bipush (q := 126) (v := nI 32) hC dL_law_124 rfl rfl ?_
  refine g_irem (q := 127) (v := (nI (x % 32))) hC dL_law_126 (by decide) (pk_rem (by omega) (by omega) (by omega)) rfl ?_
  refine g_bipush (q := 129) (v := nI 14) hC dL_law_127 rfl rfl ?_
  refine g_icmp_gt (tgt := 141) (q := 132) hC dL_law_129 (by decide) rfl (fun c8 => no (Or.inl (fun z => absurd c8 (nI_nlt z.2 (by omega))))) (fun c8 => ?_)
  have h14 : x % 32 ≤ 14 := Nat.not_lt.mp (fun z => c8 (nI_lt z (by omega)))
  refine g_iload (q := 134) (i := 9) hC dL_law_132 rfl rfl ?_
  refine g_if_lt (tgt := 141) (q := 137) hC dL_law_134 (by decide) rfl (fun c7 => no (Or.inr (Int32.not_le.mpr c7))) (fun c7 => ?_)
  refine g_iconst (q := 138) (v := 1) hC dL_law_137 rfl rfl ?_
  refine g_goto (tgt := 142) hC dL_law_138 (by decide) ?_
  refine h142 true ?_
  unfold mdB
  rw [decide_eq_true (⟨h12, h14⟩ : 12 ≤ x % 32 ∧ x % 32 ≤ 14), decide_eq_true (Int32.not_lt.mp c7)]
  rfl
set_option maxRecDepth 100000 in
set_option maxHeartbeats 4000000 in
theorem law_loop {X : gX} {M : gMT} {Q : State → Prop} {a b mb T : Nat} (hC : gOk X M RL code 12 1000 686501 7042194) (hL : gScL M ≤ 260) (hT : T ≤ 60) (hend : ∀ (k n9 : Nat) (σ : gS) (lv : List (Nat × Value)), k ≤ 686501 → n9 ≤ 7042194 → G X M 12 Q k n9 σ 325 lv []) : ∀ (d9 k : Nat) (σ : gS) (ρ : gSt) (m : Nat → Int32) (c : Nat), k + d9 = T → Jl M a b mb k ρ m c σ → G X M 12 Q (200 + 6900 * k) (2000 + 76060 * k) σ 43 [(7, .int (nI k)), (6, .int 1), (5, .int (nI T)), (4, .int (nI c)), (3, .ref mb), (2, .ref b), (1, .ref a), (0, .ref (gScB M))] [] := by
  intro d9
  induction d9 with
  | zero =>
    intro k σ ρ m c h1 hJl
    refine g_iload (q := 45) (i := 7) hC dL_law_43 rfl rfl ?_
    refine g_iload (q := 47) (i := 5) hC dL_law_45 rfl rfl ?_
    refine g_icmp_ge (tgt := 283) (q := 50) hC dL_law_47 (by decide) rfl (fun _ => ?_) (fun c9 => absurd (nI_le (by omega) (by omega)) c9)
    exact law_fin (T := T) hC hL hend (by omega) (by omega) (by omega) hJl rfl rfl rfl rfl
  | succ d9 ih =>
    intro k σ ρ m c h1 hJl
    refine g_iload (q := 45) (i := 7) hC dL_law_43 rfl rfl ?_
    refine g_iload (q := 47) (i := 5) hC dL_law_45 rfl rfl ?_
    refine g_icmp_ge (tgt := 283) (q := 50) hC dL_law_47 (by decide) rfl (fun c9 => absurd c9 (nI_ge (by omega) (by omega))) (fun _ => ?_)
    refine g_iload (q := 52) (i := 6) hC dL_law_50 rfl rfl ?_
    refine g_if_eq (tgt := 283) (q := 55) hC dL_law_52 (by decide) rfl (fun c9 => absurd c9 (by decide)) (fun _ => ?_)
    obtain ⟨hJ, hI, hm⟩ := hJl
    have hw := hI.w
    have w3 := hw.1.2.2.1
    have hmc := hm.2
    refine g_aload_n (q := 56) (i := 0) hC dL_law_55 rfl rfl rfl ?_
    refine g_iconst (q := 57) (v := nI 1) hC dL_law_56 rfl rfl ?_
    refine g_iload (q := 59) (i := 7) hC dL_law_57 rfl rfl ?_
    refine g_iadd (q := 60) (v := (nI (1 + k))) hC dL_law_59 (nI_add _ _) rfl ?_
    refine g_ci (q := 63) (g_runS hC ks_L_167 md_L_drawn (c_drawn _ hC.fl M _ (1 + k) (by omega) hL) dL_law_60 (by decide) (by decide) (by omega) (by omega) rfl rfl (Nat.le_of_ble_eq_true rfl)) rfl (fun r σ ⟨⟨x, hx, e9⟩, e8⟩ => ?_) (fun _ _ h9 => False.elim h9)
    subst e9
    subst e8
    refine g_istore (q := 65) (i := 8) hC dL_law_63 (by decide) rfl ?_
    refine g_aload_n (q := 66) (i := 1) hC dL_law_65 rfl rfl rfl ?_
    refine g_iload (q := 68) (i := 8) hC dL_law_66 rfl rfl ?_
    have hL9 := Lm_act hI (by omega) (v := x % 32) (y := x / 32) hm
    have hI9 := iv_act hI (by omega) x
    refine g_ci (q := 71) (g_runS hC ks_L_171 md_L_act (j_one hJ (fun φ h _ => c_act _ hC.fl M _ φ a ρ x hx h hw)) dL_law_68 (by decide) (by decide) (by omega) (by omega) rfl rfl (Nat.le_of_ble_eq_true rfl)) rfl (fun r σ ⟨e9, hJ⟩ => ?_) (fun _ _ h9 => False.elim h9)
    subst e9
    refine g_istore (q := 73) (i := 9) hC dL_law_71 (by decide) rfl ?_
    refine g_aload_n (q := 74) (i := 2) hC dL_law_73 rfl rfl rfl ?_
    refine g_aload_n (q := 75) (i := 3) hC dL_law_74 rfl rfl rfl ?_
    refine g_iload (q := 77) (i := 8) hC dL_law_75 rfl rfl ?_
    refine g_sipush (q := 80) (v := nI 9973) hC dL_law_77 rfl rfl ?_
    refine g_irem (q := 81) (v := (nI (x % 9973))) hC dL_law_80 (by decide) (pk_rem (by omega) (by omega) (by omega)) rfl ?_
    refine g_ci (q := 84) (g_runS hC ks_L_174 md_L_refuses (j_two hJ (fun φ h hψ => c_refuses _ hC.fl M _ φ b mb ρ m k (x % 9973) (by omega) (by omega) h hI (hψ mb _ (if_pos rfl)) hm.1)) dL_law_81 (by decide) (by decide) (by omega) (by omega) rfl rfl (Nat.le_of_ble_eq_true rfl)) rfl (fun r σ ⟨e9, hJ⟩ => ?_) (fun _ _ h9 => False.elim h9)
    subst e9
    refine g_if_eq (tgt := 102) (q := 87) hC dL_law_84 (by decide) rfl (fun c9 => absurd c9 (by decide)) (fun _ => ?_)
    refine g_aload_n (q := 88) (i := 2) hC dL_law_87 rfl rfl rfl ?_
    refine g_iload (q := 90) (i := 8) hC dL_law_88 rfl rfl ?_
    refine g_ci (q := 93) (g_runS hC ks_L_171 md_L_act (j_two hJ (fun φ h _ => c_act _ hC.fl M _ φ b ρ x hx h hw)) dL_law_90 (by decide) (by decide) (by omega) (by omega) rfl rfl (Nat.le_of_ble_eq_true rfl)) rfl (fun r σ ⟨e9, hJ⟩ => ?_) (fun _ _ h9 => False.elim h9)
    subst e9
    refine g_iload (q := 95) (i := 9) hC dL_law_93 rfl rfl ?_
    refine g_icmp_ne (tgt := 102) (q := 98) hC dL_law_95 (by decide) rfl (fun c9 => absurd rfl c9) (fun _ => ?_)
    refine g_iconst (q := 99) (v := 1) hC dL_law_98 rfl rfl ?_
    refine g_goto (tgt := 103) hC dL_law_99 (by decide) ?_
    refine g_istore (q := 105) (i := 6) hC dL_law_103 (by decide) rfl ?_
    refine g_iload (q := 107) (i := 8) hC dL_law_105 rfl rfl ?_
    refine g_bipush (q := 109) (v := nI 32) hC dL_law_107 rfl rfl ?_
    refine g_idiv (q := 110) (v := (nI (x / 32))) hC dL_law_109 (by decide) (pk_div (by omega) (by omega) (by omega)) rfl ?_
    refine g_istore (q := 112) (i := 10) hC dL_law_110 (by decide) rfl ?_
    refine g_sub (lv0 := [(10, .int (nI (x / 32))), (6, .int 1), (9, .int (wR (acL ρ x))), (8, .int (nI x)), (7, .int (nI k)), (5, .int (nI T)), (4, .int (nI c)), (3, .ref mb), (2, .ref b), (1, .ref a), (0, .ref (gScB M))]) ⟨rfl, rfl, rfl, rfl, rfl, rfl, rfl, rfl, rfl, rfl, rfl, trivial⟩ ?_
    refine law_m hC hx (by omega) hL9.2 hJ (fun σ hJ => ?_)
    exact law_b hC (by omega) hx (by omega) (by omega) ⟨hJ, hI9, hL9.1⟩ (fun σ hJ9 => ih (k + 1) σ _ _ _ (by omega) hJ9)
