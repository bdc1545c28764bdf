/-! ===== the law's 24 cases (by wip/whole/gen_loop.py) ===== -/
def cC (x : Int32) : Int32 := (x.toUInt32 % 65536).toInt32
set_option maxRecDepth 100000 in
set_option maxHeartbeats 4000000 in
theorem law_c0 {X : gX} {M : gMT} {Q : State → Prop} {b L : Nat} {sc : Nat → Int32} {a0 m o n : Nat} {σ : gS} (hx : LC X M b L sc) (hn : 6 * n + 6 ≤ L) (nx : nxt X M Q b a0 m o n) (hJ : Jn M a0 m o n σ) : G X M 7 Q (500 + 900 * n) (5000 + 13400 * n) σ 152 [(4, .int (nI (6 * n))), (3, .ref o), (2, .ref m), (1, .ref a0), (0, .ref b)] [] := by
  obtain ⟨hC, hX, hbl, hbA, hL⟩ := hx
  obtain ⟨A, ρ, W, ad, rf, S, f, hA, hr, h0, ho, hRel, hz⟩ := hJ
  subst hA
  have hW := hRel.1.1
  have hE := hRel.1.2.1
  have hB := hRel.SB
  have hSL := hRel.SL
  have hN := hRel.2.2.2.2.2.2.2.2
  have hn6 : n ≤ 600 := by omega
  have hmt : Mt (cdf 1 9 2) n ρ (lo_type ρ (cC (sc (6 * n + 1)))) (mo_type S (cC (sc (6 * n + 1)))) := m_type hRel (by decide) (by decide) (cC (sc (6 * n + 1)))
  have hcd : ∀ E, cdf 1 9 2 E ≠ 0 := cdf_n (by decide) (by decide) (by decide)
  have hkz : kz S (mo_type S (cC (sc (6 * n + 1)))).2.2 := z_type (cC (sc (6 * n + 1)))
  refine g_aload_n (q := 153) (i := 1) hC dL_law_152 rfl rfl rfl ?_
  refine g_aload_n (q := 154) (i := 0) hC dL_law_153 rfl rfl rfl ?_
  refine g_iload (q := 156) (i := 4) hC dL_law_154 rfl rfl ?_
  refine g_iconst (q := 157) (v := nI 1) hC dL_law_156 rfl rfl ?_
  refine g_iadd (q := 158) (v := (nI ((6 * n) + 1))) hC dL_law_157 (nI_add _ _) rfl ?_
  refine g_sld (q := 159) (v := sc (((6 * n) + 1))) hC hX hbl hbA dL_law_158 (vp_in_nI (by omega) (by omega)) (congrArg sc (nI_clamp (by omega))) rfl ?_
  refine g_i2c (q := 160) (v := (cC (sc (6 * n + 1)))) hC dL_law_159 rfl rfl ?_
  refine g_aload_n (q := 161) (i := 3) hC dL_law_160 rfl rfl rfl ?_
  refine g_ci (q := 164) (g_runSH hC ks_L_85 md_L_type (c_W_type _ hC.fl M _ A ρ W (cC (sc (6 * n + 1))) o f hr hW ho) dL_law_161 (by decide) (by decide) (by omega) (by omega) rfl rfl (Nat.le_of_ble_eq_true rfl)) rfl (fun r5 σ2 hw => ?_) (fun _ _ h9 => False.elim h9)
  obtain ⟨A2, W2, f2, hr2, hA2, h02, ho2, g1, g2⟩ := jE hr rfl h0 ho hw
  refine g_istore (q := 166) (i := 5) hC dL_law_164 (by decide) rfl ?_
  refine g_aload_n (q := 167) (i := 2) hC dL_law_166 rfl rfl rfl ?_
  refine g_aload_n (q := 168) (i := 0) hC dL_law_167 rfl rfl rfl ?_
  refine g_iload (q := 170) (i := 4) hC dL_law_168 rfl rfl ?_
  refine g_iconst (q := 171) (v := nI 1) hC dL_law_170 rfl rfl ?_
  refine g_iadd (q := 172) (v := (nI ((6 * n) + 1))) hC dL_law_171 (nI_add _ _) rfl ?_
  refine g_sld (q := 173) (v := sc (((6 * n) + 1))) hC hX hbl hbA dL_law_172 (vp_in_nI (by omega) (by omega)) (congrArg sc (nI_clamp (by omega))) rfl ?_
  refine g_i2c (q := 174) (v := (cC (sc (6 * n + 1)))) hC dL_law_173 rfl rfl ?_
  refine g_ci (q := 177) (g_runV hC kv_L_90 md_X5_type (c_M_type _ hC.fl M _ (rest0 σ2 m ad) m ad rf (cC (sc (6 * n + 1))) S h02.mod hB) (ci := 5) rfl h02.1 dL_law_174 (by decide) (by decide) (by omega) (by omega) rfl rfl (Nat.le_of_ble_eq_true rfl)) rfl (fun r6 σ3 ⟨e6, hM⟩ => ?_) (fun _ _ h9 => False.elim h9)
  obtain ⟨hJ3, ho3⟩ := jF hmt hz hkz hr2 hA2 h02 ho2 hM
  refine g_istore (q := 179) (i := 6) hC dL_law_177 (by decide) rfl ?_
  refine g_aload_n (q := 180) (i := 2) hC dL_law_179 rfl rfl rfl ?_
  refine g_ci (q := 183) (g_runV hC kv_L_91 md_X5_thrown (c_M_thrown _ hC.fl M _ _ m ad _ _ hM) (ci := 5) rfl hM.1 dL_law_180 (by decide) (by decide) (by omega) (by omega) rfl rfl (Nat.le_of_ble_eq_true rfl)) rfl (fun r7 σ3 ⟨e7, e8⟩ => ?_) (fun _ _ h9 => False.elim h9)
  subst e8
  have hjr := e7.trans (jr hmt (fun z => (g1 z).1) g2)
  refine g_iload (q := 185) (i := 5) hC dL_law_183 rfl rfl ?_
  refine g_icmp_eq (tgt := 190) (q := 188) hC dL_law_185 (by decide) rfl (fun c_185 => ?_) (fun c_185 => ?_)
  · refine g_iload (q := 192) (i := 5) hC dL_law_190 rfl rfl ?_
    refine g_if_ne (tgt := 207) (q := 195) hC dL_law_192 (by decide) rfl (fun c_192 => ?_) (fun c_192 => ?_)
    · refine g_goto (tgt := 1462) hC dL_law_207 (by decide) ?_
      refine g_sub (lv0 := [(4, .int (nI (6 * n))), (3, .ref o), (2, .ref m), (1, .ref (A 0 0)), (0, .ref b)]) ⟨rfl, rfl, rfl, rfl, rfl, trivial⟩ ?_
      exact nx _ _ _ (by omega) (by omega) hJ3
    · refine g_aload_n (q := 196) (i := 3) hC dL_law_195 rfl rfl rfl ?_
      refine g_iconst (q := 197) (v := nI 0) hC dL_law_196 rfl rfl ?_
      refine g_lald (q := 198) hC dL_law_197 ho3 (vp_in_nI (by omega) (by omega)) rfl rfl ?_
      refine g_iload (q := 200) (i := 6) hC dL_law_198 rfl rfl ?_
      refine g_i2l (q := 201) hC dL_law_200 rfl rfl ?_
      refine g_lcmp (q := 202) hC dL_law_201 rfl rfl ?_
      refine g_if_eq (tgt := 207) (q := 205) hC dL_law_202 (by decide) rfl (fun c_202 => ?_) (fun c_202 => ?_)
      · refine g_goto (tgt := 1462) hC dL_law_207 (by decide) ?_
        refine g_sub (lv0 := [(4, .int (nI (6 * n))), (3, .ref o), (2, .ref m), (1, .ref (A 0 0)), (0, .ref b)]) ⟨rfl, rfl, rfl, rfl, rfl, trivial⟩ ?_
        exact nx _ _ _ (by omega) (by omega) hJ3
      · have e9 : lg_cmp (f2 (nI 0).toNatClampNeg) r6.toInt64 = 0 := (lg_cmp_eq _ _).mpr (by rw [nI_clamp (by decide), e6]; exact ja hmt g1 g2 (by assumption) hcd)
        exact absurd e9 (by assumption)
  · exact absurd hjr (by assumption)
set_option maxRecDepth 100000 in
set_option maxHeartbeats 4000000 in
theorem law_c1 {X : gX} {M : gMT} {Q : State → Prop} {b L : Nat} {sc : Nat → Int32} {a0 m o n : Nat} {σ : gS} (hx : LC X M b L sc) (hn : 6 * n + 6 ≤ L) (nx : nxt X M Q b a0 m o n) (hJ : Jn M a0 m o n σ) : G X M 7 Q (500 + 900 * n) (5000 + 13400 * n) σ 210 [(4, .int (nI (6 * n))), (3, .ref o), (2, .ref m), (1, .ref a0), (0, .ref b)] [] := by
  obtain ⟨hC, hX, hbl, hbA, hL⟩ := hx
  obtain ⟨A, ρ, W, ad, rf, S, f, hA, hr, h0, ho, hRel, hz⟩ := hJ
  subst hA
  have hW := hRel.1.1
  have hE := hRel.1.2.1
  have hB := hRel.SB
  have hSL := hRel.SL
  have hN := hRel.2.2.2.2.2.2.2.2
  have hn6 : n ≤ 600 := by omega
  have hmt : Mt (cdf 9 9 1) n ρ (lo_back ρ) (mo_back S) := m_back hRel (by decide)
  have hcd : ∀ E, cdf 9 9 1 E ≠ 0 := cdf_n (by decide) (by decide) (by decide)
  have hkz : kz S (mo_back S).2.2 := z_back
  refine g_aload_n (q := 211) (i := 1) hC dL_law_210 rfl rfl rfl ?_
  refine g_aload_n (q := 212) (i := 3) hC dL_law_211 rfl rfl rfl ?_
  refine g_ci (q := 215) (g_runSH hC ks_L_94 md_L_back (c_W_back _ hC.fl M _ A ρ W o f hr hW ho) dL_law_212 (by decide) (by decide) (by omega) (by omega) rfl rfl (Nat.le_of_ble_eq_true rfl)) rfl (fun r5 σ2 hw => ?_) (fun _ _ h9 => False.elim h9)
  obtain ⟨A2, W2, f2, hr2, hA2, h02, ho2, g1, g2⟩ := jE hr rfl h0 ho hw
  refine g_istore (q := 217) (i := 5) hC dL_law_215 (by decide) rfl ?_
  refine g_aload_n (q := 218) (i := 2) hC dL_law_217 rfl rfl rfl ?_
  refine g_ci (q := 221) (g_runV hC kv_L_97 md_X5_back (c_M_back _ hC.fl M _ (rest0 σ2 m ad) m ad rf S h02.mod hB) (ci := 5) rfl h02.1 dL_law_218 (by decide) (by decide) (by omega) (by omega) rfl rfl (Nat.le_of_ble_eq_true rfl)) rfl (fun r6 σ3 ⟨e6, hM⟩ => ?_) (fun _ _ h9 => False.elim h9)
  obtain ⟨hJ3, ho3⟩ := jF hmt hz hkz hr2 hA2 h02 ho2 hM
  refine g_istore (q := 223) (i := 6) hC dL_law_221 (by decide) rfl ?_
  refine g_aload_n (q := 224) (i := 2) hC dL_law_223 rfl rfl rfl ?_
  refine g_ci (q := 227) (g_runV hC kv_L_91 md_X5_thrown (c_M_thrown _ hC.fl M _ _ m ad _ _ hM) (ci := 5) rfl hM.1 dL_law_224 (by decide) (by decide) (by omega) (by omega) rfl rfl (Nat.le_of_ble_eq_true rfl)) rfl (fun r7 σ3 ⟨e7, e8⟩ => ?_) (fun _ _ h9 => False.elim h9)
  subst e8
  have hjr := e7.trans (jr hmt (fun z => (g1 z).1) g2)
  refine g_iload (q := 229) (i := 5) hC dL_law_227 rfl rfl ?_
  refine g_icmp_eq (tgt := 234) (q := 232) hC dL_law_229 (by decide) rfl (fun c_229 => ?_) (fun c_229 => ?_)
  · refine g_iload (q := 236) (i := 5) hC dL_law_234 rfl rfl ?_
    refine g_if_ne (tgt := 251) (q := 239) hC dL_law_236 (by decide) rfl (fun c_236 => ?_) (fun c_236 => ?_)
    · refine g_goto (tgt := 1462) hC dL_law_251 (by decide) ?_
      refine g_sub (lv0 := [(4, .int (nI (6 * n))), (3, .ref o), (2, .ref m), (1, .ref (A 0 0)), (0, .ref b)]) ⟨rfl, rfl, rfl, rfl, rfl, trivial⟩ ?_
      exact nx _ _ _ (by omega) (by omega) hJ3
    · refine g_aload_n (q := 240) (i := 3) hC dL_law_239 rfl rfl rfl ?_
      refine g_iconst (q := 241) (v := nI 0) hC dL_law_240 rfl rfl ?_
      refine g_lald (q := 242) hC dL_law_241 ho3 (vp_in_nI (by omega) (by omega)) rfl rfl ?_
      refine g_iload (q := 244) (i := 6) hC dL_law_242 rfl rfl ?_
      refine g_i2l (q := 245) hC dL_law_244 rfl rfl ?_
      refine g_lcmp (q := 246) hC dL_law_245 rfl rfl ?_
      refine g_if_eq (tgt := 251) (q := 249) hC dL_law_246 (by decide) rfl (fun c_246 => ?_) (fun c_246 => ?_)
      · refine g_goto (tgt := 1462) hC dL_law_251 (by decide) ?_
        refine g_sub (lv0 := [(4, .int (nI (6 * n))), (3, .ref o), (2, .ref m), (1, .ref (A 0 0)), (0, .ref b)]) ⟨rfl, rfl, rfl, rfl, rfl, trivial⟩ ?_
        exact nx _ _ _ (by omega) (by omega) hJ3
      · have e9 : lg_cmp (f2 (nI 0).toNatClampNeg) r6.toInt64 = 0 := (lg_cmp_eq _ _).mpr (by rw [nI_clamp (by decide), e6]; exact ja hmt g1 g2 (by assumption) hcd)
        exact absurd e9 (by assumption)
  · exact absurd hjr (by assumption)
set_option maxRecDepth 100000 in
set_option maxHeartbeats 4000000 in
theorem law_c2 {X : gX} {M : gMT} {Q : State → Prop} {b L : Nat} {sc : Nat → Int32} {a0 m o n : Nat} {σ : gS} (hx : LC X M b L sc) (hn : 6 * n + 6 ≤ L) (nx : nxt X M Q b a0 m o n) (hJ : Jn M a0 m o n σ) : G X M 7 Q (500 + 900 * n) (5000 + 13400 * n) σ 254 [(4, .int (nI (6 * n))), (3, .ref o), (2, .ref m), (1, .ref a0), (0, .ref b)] [] := by
  obtain ⟨hC, hX, hbl, hbA, hL⟩ := hx
  obtain ⟨A, ρ, W, ad, rf, S, f, hA, hr, h0, ho, hRel, hz⟩ := hJ
  subst hA
  have hW := hRel.1.1
  have hE := hRel.1.2.1
  have hB := hRel.SB
  have hSL := hRel.SL
  have hN := hRel.2.2.2.2.2.2.2.2
  have hn6 : n ≤ 600 := by omega
  have hmt : Mt (cdf 1 1 1) n ρ (lo_clearPath ρ) (mo_clearPath S) := m_clearPath hRel (cdf 1 1 1)
  have hkz : kz S (mo_clearPath S).2.2 := z_clearPath
  refine g_aload_n (q := 255) (i := 1) hC dL_law_254 rfl rfl rfl ?_
  refine g_ci (q := 258) (g_runV hC kv_L_98 md_X4_clearPath (c_L_clearPath _ hC.fl M _ A ρ W hr hW) (ci := 4) rfl (hr.led hW) dL_law_255 (by decide) (by decide) (by omega) (by omega) rfl rfl (Nat.le_of_ble_eq_true rfl)) rfl (fun r5 σ2 hw => ?_) (fun _ _ h9 => False.elim h9)
  obtain ⟨A2, W2, hr2, hA2, h02, ho2, g1, g2⟩ := jD rfl h0 ho hw
  refine g_aload_n (q := 259) (i := 2) hC dL_law_258 rfl rfl rfl ?_
  refine g_ci (q := 262) (g_runV hC kv_L_101 md_X5_clearPath (c_M_clearPath _ hC.fl M _ (rest0 σ2 m ad) m ad rf S h02.mod) (ci := 5) rfl h02.1 dL_law_259 (by decide) (by decide) (by omega) (by omega) rfl rfl (Nat.le_of_ble_eq_true rfl)) rfl (fun r6 σ3 ⟨e6, hM⟩ => ?_) (fun _ _ h9 => False.elim h9)
  obtain ⟨hJ3, ho3⟩ := jF hmt hz hkz hr2 hA2 h02 ho2 hM
  refine g_icmp_eq (tgt := 1462) (q := 265) hC dL_law_262 (by decide) rfl (fun c_262 => ?_) (fun c_262 => ?_)
  · refine g_sub (lv0 := [(4, .int (nI (6 * n))), (3, .ref o), (2, .ref m), (1, .ref (A 0 0)), (0, .ref b)]) ⟨rfl, rfl, rfl, rfl, rfl, trivial⟩ ?_
    exact nx _ _ _ (by omega) (by omega) hJ3
  · exact absurd (by rw [g2, e6]; exact jd hmt g1) c_262
set_option maxRecDepth 100000 in
set_option maxHeartbeats 4000000 in
theorem law_c3 {X : gX} {M : gMT} {Q : State → Prop} {b L : Nat} {sc : Nat → Int32} {a0 m o n : Nat} {σ : gS} (hx : LC X M b L sc) (hn : 6 * n + 6 ≤ L) (nx : nxt X M Q b a0 m o n) (hJ : Jn M a0 m o n σ) : G X M 7 Q (500 + 900 * n) (5000 + 13400 * n) σ 267 [(4, .int (nI (6 * n))), (3, .ref o), (2, .ref m), (1, .ref a0), (0, .ref b)] [] := by
  obtain ⟨hC, hX, hbl, hbA, hL⟩ := hx
  obtain ⟨A, ρ, W, ad, rf, S, f, hA, hr, h0, ho, hRel, hz⟩ := hJ
  subst hA
  have hW := hRel.1.1
  have hE := hRel.1.2.1
  have hB := hRel.SB
  have hSL := hRel.SL
  have hN := hRel.2.2.2.2.2.2.2.2
  have hn6 : n ≤ 600 := by omega
  have hmt : Mt (cdf 9 9 1) n ρ (lo_makeProject ρ) (mo_makeProject S) := m_makeProject hRel (by decide)
  have hcd : ∀ E, cdf 9 9 1 E ≠ 0 := cdf_n (by decide) (by decide) (by decide)
  have hkz : kz S (mo_makeProject S).2.2 := z_makeProject
  refine g_aload_n (q := 268) (i := 1) hC dL_law_267 rfl rfl rfl ?_
  refine g_aload_n (q := 269) (i := 3) hC dL_law_268 rfl rfl rfl ?_
  refine g_ci (q := 272) (g_runSH hC ks_L_102 md_L_makeProject (c_W_makeProject _ hC.fl M _ A ρ W o f hr hW hE ho) dL_law_269 (by decide) (by decide) (by omega) (by omega) rfl rfl (Nat.le_of_ble_eq_true rfl)) rfl (fun r5 σ2 hw => ?_) (fun _ _ h9 => False.elim h9)
  obtain ⟨A2, W2, f2, hr2, hA2, h02, ho2, g1, g2⟩ := jE hr rfl h0 ho hw
  refine g_istore (q := 274) (i := 5) hC dL_law_272 (by decide) rfl ?_
  refine g_aload_n (q := 275) (i := 2) hC dL_law_274 rfl rfl rfl ?_
  refine g_ci (q := 278) (g_runV hC kv_L_104 md_X5_makeProject (c_M_makeProject _ hC.fl M _ (rest0 σ2 m ad) m ad rf S h02.mod hB) (ci := 5) rfl h02.1 dL_law_275 (by decide) (by decide) (by omega) (by omega) rfl rfl (Nat.le_of_ble_eq_true rfl)) rfl (fun r6 σ3 ⟨e6, hM⟩ => ?_) (fun _ _ h9 => False.elim h9)
  obtain ⟨hJ3, ho3⟩ := jF hmt hz hkz hr2 hA2 h02 ho2 hM
  refine g_istore (q := 280) (i := 6) hC dL_law_278 (by decide) rfl ?_
  refine g_aload_n (q := 281) (i := 2) hC dL_law_280 rfl rfl rfl ?_
  refine g_ci (q := 284) (g_runV hC kv_L_91 md_X5_thrown (c_M_thrown _ hC.fl M _ _ m ad _ _ hM) (ci := 5) rfl hM.1 dL_law_281 (by decide) (by decide) (by omega) (by omega) rfl rfl (Nat.le_of_ble_eq_true rfl)) rfl (fun r7 σ3 ⟨e7, e8⟩ => ?_) (fun _ _ h9 => False.elim h9)
  subst e8
  have hjr := e7.trans (jr hmt (fun z => (g1 z).1) g2)
  refine g_iload (q := 286) (i := 5) hC dL_law_284 rfl rfl ?_
  refine g_icmp_eq (tgt := 291) (q := 289) hC dL_law_286 (by decide) rfl (fun c_286 => ?_) (fun c_286 => ?_)
  · refine g_iload (q := 293) (i := 5) hC dL_law_291 rfl rfl ?_
    refine g_if_ne (tgt := 308) (q := 296) hC dL_law_293 (by decide) rfl (fun c_293 => ?_) (fun c_293 => ?_)
    · refine g_goto (tgt := 1462) hC dL_law_308 (by decide) ?_
      refine g_sub (lv0 := [(4, .int (nI (6 * n))), (3, .ref o), (2, .ref m), (1, .ref (A 0 0)), (0, .ref b)]) ⟨rfl, rfl, rfl, rfl, rfl, trivial⟩ ?_
      exact nx _ _ _ (by omega) (by omega) hJ3
    · refine g_aload_n (q := 297) (i := 3) hC dL_law_296 rfl rfl rfl ?_
      refine g_iconst (q := 298) (v := nI 0) hC dL_law_297 rfl rfl ?_
      refine g_lald (q := 299) hC dL_law_298 ho3 (vp_in_nI (by omega) (by omega)) rfl rfl ?_
      refine g_iload (q := 301) (i := 6) hC dL_law_299 rfl rfl ?_
      refine g_i2l (q := 302) hC dL_law_301 rfl rfl ?_
      refine g_lcmp (q := 303) hC dL_law_302 rfl rfl ?_
      refine g_if_eq (tgt := 308) (q := 306) hC dL_law_303 (by decide) rfl (fun c_303 => ?_) (fun c_303 => ?_)
      · refine g_goto (tgt := 1462) hC dL_law_308 (by decide) ?_
        refine g_sub (lv0 := [(4, .int (nI (6 * n))), (3, .ref o), (2, .ref m), (1, .ref (A 0 0)), (0, .ref b)]) ⟨rfl, rfl, rfl, rfl, rfl, trivial⟩ ?_
        exact nx _ _ _ (by omega) (by omega) hJ3
      · have e9 : lg_cmp (f2 (nI 0).toNatClampNeg) r6.toInt64 = 0 := (lg_cmp_eq _ _).mpr (by rw [nI_clamp (by decide), e6]; exact ja hmt g1 g2 (by assumption) hcd)
        exact absurd e9 (by assumption)
  · exact absurd hjr (by assumption)
set_option maxRecDepth 100000 in
set_option maxHeartbeats 4000000 in
theorem law_c4 {X : gX} {M : gMT} {Q : State → Prop} {b L : Nat} {sc : Nat → Int32} {a0 m o n : Nat} {σ : gS} (hx : LC X M b L sc) (hn : 6 * n + 6 ≤ L) (nx : nxt X M Q b a0 m o n) (hJ : Jn M a0 m o n σ) : G X M 7 Q (500 + 900 * n) (5000 + 13400 * n) σ 311 [(4, .int (nI (6 * n))), (3, .ref o), (2, .ref m), (1, .ref a0), (0, .ref b)] [] := by
  obtain ⟨hC, hX, hbl, hbA, hL⟩ := hx
  obtain ⟨A, ρ, W, ad, rf, S, f, hA, hr, h0, ho, hRel, hz⟩ := hJ
  subst hA
  have hW := hRel.1.1
  have hE := hRel.1.2.1
  have hB := hRel.SB
  have hSL := hRel.SL
  have hN := hRel.2.2.2.2.2.2.2.2
  have hn6 : n ≤ 600 := by omega
  have hmt : Mt (cdf 1 1 1) n ρ (lo_find ρ) (mo_findProject S) := m_find hRel (cdf 1 1 1)
  have hkz : kz S (mo_findProject S).2.2 := kz.rf
  refine g_aload_n (q := 312) (i := 1) hC dL_law_311 rfl rfl rfl ?_
  refine g_ci (q := 315) (g_runV hC kv_L_105 md_X4_findProject (c_L_findProject _ hC.fl M _ A ρ W hr hW) (ci := 4) rfl (hr.led hW) dL_law_312 (by decide) (by decide) (by omega) (by omega) rfl rfl (Nat.le_of_ble_eq_true rfl)) rfl (fun r5 σ2 hw => ?_) (fun _ _ h9 => False.elim h9)
  obtain ⟨A2, W2, hr2, hA2, h02, ho2, g1, g2⟩ := jD rfl h0 ho hw
  refine g_aload_n (q := 316) (i := 2) hC dL_law_315 rfl rfl rfl ?_
  refine g_ci (q := 319) (g_runV hC kv_L_108 md_X5_findProject (c_M_findProject _ hC.fl M _ (rest0 σ2 m ad) m ad rf S h02.mod hB) (ci := 5) rfl h02.1 dL_law_316 (by decide) (by decide) (by omega) (by omega) rfl rfl (Nat.le_of_ble_eq_true rfl)) rfl (fun r6 σ3 ⟨e6, hM⟩ => ?_) (fun _ _ h9 => False.elim h9)
  obtain ⟨hJ3, ho3⟩ := jF hmt hz hkz hr2 hA2 h02 ho2 hM
  refine g_icmp_eq (tgt := 1462) (q := 322) hC dL_law_319 (by decide) rfl (fun c_319 => ?_) (fun c_319 => ?_)
  · refine g_sub (lv0 := [(4, .int (nI (6 * n))), (3, .ref o), (2, .ref m), (1, .ref (A 0 0)), (0, .ref b)]) ⟨rfl, rfl, rfl, rfl, rfl, trivial⟩ ?_
    exact nx _ _ _ (by omega) (by omega) hJ3
  · exact absurd (by rw [g2, e6]; exact jd hmt g1) c_319
set_option maxRecDepth 100000 in
set_option maxHeartbeats 4000000 in
theorem law_c5 {X : gX} {M : gMT} {Q : State → Prop} {b L : Nat} {sc : Nat → Int32} {a0 m o n : Nat} {σ : gS} (hx : LC X M b L sc) (hn : 6 * n + 6 ≤ L) (nx : nxt X M Q b a0 m o n) (hJ : Jn M a0 m o n σ) : G X M 7 Q (500 + 900 * n) (5000 + 13400 * n) σ 324 [(4, .int (nI (6 * n))), (3, .ref o), (2, .ref m), (1, .ref a0), (0, .ref b)] [] := by
  obtain ⟨hC, hX, hbl, hbA, hL⟩ := hx
  obtain ⟨A, ρ, W, ad, rf, S, f, hA, hr, h0, ho, hRel, hz⟩ := hJ
  subst hA
  have hW := hRel.1.1
  have hE := hRel.1.2.1
  have hB := hRel.SB
  have hSL := hRel.SL
  have hN := hRel.2.2.2.2.2.2.2.2
  have hn6 : n ≤ 600 := by omega
  have hmt : Mt (cdf 9 1 2) n ρ (lo_moveProject ρ (sc (6 * n + 1))) (mo_moveProject S (sc (6 * n + 1))) := m_moveProject hRel (by decide) (by decide) (sc (6 * n + 1))
  have hcd : ∀ E, cdf 9 1 2 E ≠ 0 := cdf_n (by decide) (by decide) (by decide)
  have hkz : kz S (mo_moveProject S (sc (6 * n + 1))).2.2 := z_moveProject (sc (6 * n + 1))
  refine g_aload_n (q := 325) (i := 1) hC dL_law_324 rfl rfl rfl ?_
  refine g_aload_n (q := 326) (i := 0) hC dL_law_325 rfl rfl rfl ?_
  refine g_iload (q := 328) (i := 4) hC dL_law_326 rfl rfl ?_
  refine g_iconst (q := 329) (v := nI 1) hC dL_law_328 rfl rfl ?_
  refine g_iadd (q := 330) (v := (nI ((6 * n) + 1))) hC dL_law_329 (nI_add _ _) rfl ?_
  refine g_sld (q := 331) (v := sc (((6 * n) + 1))) hC hX hbl hbA dL_law_330 (vp_in_nI (by omega) (by omega)) (congrArg sc (nI_clamp (by omega))) rfl ?_
  refine g_aload_n (q := 332) (i := 3) hC dL_law_331 rfl rfl rfl ?_
  refine g_ci (q := 335) (g_runSH hC ks_L_109 md_L_moveProject (c_W_moveProject _ hC.fl M _ A ρ W (sc (6 * n + 1)) o f hr hW hE ho) dL_law_332 (by decide) (by decide) (by omega) (by omega) rfl rfl (Nat.le_of_ble_eq_true rfl)) rfl (fun r5 σ2 hw => ?_) (fun _ _ h9 => False.elim h9)
  obtain ⟨A2, W2, f2, hr2, hA2, h02, ho2, g1, g2⟩ := jE hr rfl h0 ho hw
  refine g_istore (q := 337) (i := 5) hC dL_law_335 (by decide) rfl ?_
  refine g_aload_n (q := 338) (i := 2) hC dL_law_337 rfl rfl rfl ?_
  refine g_aload_n (q := 339) (i := 0) hC dL_law_338 rfl rfl rfl ?_
  refine g_iload (q := 341) (i := 4) hC dL_law_339 rfl rfl ?_
  refine g_iconst (q := 342) (v := nI 1) hC dL_law_341 rfl rfl ?_
  refine g_iadd (q := 343) (v := (nI ((6 * n) + 1))) hC dL_law_342 (nI_add _ _) rfl ?_
  refine g_sld (q := 344) (v := sc (((6 * n) + 1))) hC hX hbl hbA dL_law_343 (vp_in_nI (by omega) (by omega)) (congrArg sc (nI_clamp (by omega))) rfl ?_
  refine g_ci (q := 347) (g_runV hC kv_L_112 md_X5_moveProject (c_M_moveProject _ hC.fl M _ (rest0 σ2 m ad) m ad rf (sc (6 * n + 1)) S h02.mod hB hSL) (ci := 5) rfl h02.1 dL_law_344 (by decide) (by decide) (by omega) (by omega) rfl rfl (Nat.le_of_ble_eq_true rfl)) rfl (fun r6 σ3 ⟨e6, hM⟩ => ?_) (fun _ _ h9 => False.elim h9)
  obtain ⟨hJ3, ho3⟩ := jF hmt hz hkz hr2 hA2 h02 ho2 hM
  refine g_istore (q := 349) (i := 6) hC dL_law_347 (by decide) rfl ?_
  refine g_aload_n (q := 350) (i := 2) hC dL_law_349 rfl rfl rfl ?_
  refine g_ci (q := 353) (g_runV hC kv_L_91 md_X5_thrown (c_M_thrown _ hC.fl M _ _ m ad _ _ hM) (ci := 5) rfl hM.1 dL_law_350 (by decide) (by decide) (by omega) (by omega) rfl rfl (Nat.le_of_ble_eq_true rfl)) rfl (fun r7 σ3 ⟨e7, e8⟩ => ?_) (fun _ _ h9 => False.elim h9)
  subst e8
  have hjr := e7.trans (jr hmt (fun z => (g1 z).1) g2)
  refine g_iload (q := 355) (i := 5) hC dL_law_353 rfl rfl ?_
  refine g_icmp_eq (tgt := 360) (q := 358) hC dL_law_355 (by decide) rfl (fun c_355 => ?_) (fun c_355 => ?_)
  · refine g_iload (q := 362) (i := 5) hC dL_law_360 rfl rfl ?_
    refine g_if_ne (tgt := 377) (q := 365) hC dL_law_362 (by decide) rfl (fun c_362 => ?_) (fun c_362 => ?_)
    · refine g_goto (tgt := 1462) hC dL_law_377 (by decide) ?_
      refine g_sub (lv0 := [(4, .int (nI (6 * n))), (3, .ref o), (2, .ref m), (1, .ref (A 0 0)), (0, .ref b)]) ⟨rfl, rfl, rfl, rfl, rfl, trivial⟩ ?_
      exact nx _ _ _ (by omega) (by omega) hJ3
    · refine g_aload_n (q := 366) (i := 3) hC dL_law_365 rfl rfl rfl ?_
      refine g_iconst (q := 367) (v := nI 0) hC dL_law_366 rfl rfl ?_
      refine g_lald (q := 368) hC dL_law_367 ho3 (vp_in_nI (by omega) (by omega)) rfl rfl ?_
      refine g_iload (q := 370) (i := 6) hC dL_law_368 rfl rfl ?_
      refine g_i2l (q := 371) hC dL_law_370 rfl rfl ?_
      refine g_lcmp (q := 372) hC dL_law_371 rfl rfl ?_
      refine g_if_eq (tgt := 377) (q := 375) hC dL_law_372 (by decide) rfl (fun c_372 => ?_) (fun c_372 => ?_)
      · refine g_goto (tgt := 1462) hC dL_law_377 (by decide) ?_
        refine g_sub (lv0 := [(4, .int (nI (6 * n))), (3, .ref o), (2, .ref m), (1, .ref (A 0 0)), (0, .ref b)]) ⟨rfl, rfl, rfl, rfl, rfl, trivial⟩ ?_
        exact nx _ _ _ (by omega) (by omega) hJ3
      · have e9 : lg_cmp (f2 (nI 0).toNatClampNeg) r6.toInt64 = 0 := (lg_cmp_eq _ _).mpr (by rw [nI_clamp (by decide), e6]; exact ja hmt g1 g2 (by assumption) hcd)
        exact absurd e9 (by assumption)
  · exact absurd hjr (by assumption)
set_option maxRecDepth 100000 in
set_option maxHeartbeats 4000000 in
theorem law_c6 {X : gX} {M : gMT} {Q : State → Prop} {b L : Nat} {sc : Nat → Int32} {a0 m o n : Nat} {σ : gS} (hx : LC X M b L sc) (hn : 6 * n + 6 ≤ L) (nx : nxt X M Q b a0 m o n) (hJ : Jn M a0 m o n σ) : G X M 7 Q (500 + 900 * n) (5000 + 13400 * n) σ 380 [(4, .int (nI (6 * n))), (3, .ref o), (2, .ref m), (1, .ref a0), (0, .ref b)] [] := by
  obtain ⟨hC, hX, hbl, hbA, hL⟩ := hx
  obtain ⟨A, ρ, W, ad, rf, S, f, hA, hr, h0, ho, hRel, hz⟩ := hJ
  subst hA
  have hW := hRel.1.1
  have hE := hRel.1.2.1
  have hB := hRel.SB
  have hSL := hRel.SL
  have hN := hRel.2.2.2.2.2.2.2.2
  have hn6 : n ≤ 600 := by omega
  have hmt : Mt (cdf 9 1 9) n ρ (lo_letterAt ρ (sc (6 * n + 1)) (sc (6 * n + 2))) (mo_letterAt S (sc (6 * n + 1)) (sc (6 * n + 2))) := m_letterAt hRel (by decide) (sc (6 * n + 1)) (sc (6 * n + 2))
  have hcd : ∀ E, cdf 9 1 9 E ≠ 0 := cdf_n (by decide) (by decide) (by decide)
  have hkz : kz S (mo_letterAt S (sc (6 * n + 1)) (sc (6 * n + 2))).2.2 := z_letterAt (sc (6 * n + 1)) (sc (6 * n + 2))
  refine g_aload_n (q := 381) (i := 1) hC dL_law_380 rfl rfl rfl ?_
  refine g_aload_n (q := 382) (i := 0) hC dL_law_381 rfl rfl rfl ?_
  refine g_iload (q := 384) (i := 4) hC dL_law_382 rfl rfl ?_
  refine g_iconst (q := 385) (v := nI 1) hC dL_law_384 rfl rfl ?_
  refine g_iadd (q := 386) (v := (nI ((6 * n) + 1))) hC dL_law_385 (nI_add _ _) rfl ?_
  refine g_sld (q := 387) (v := sc (((6 * n) + 1))) hC hX hbl hbA dL_law_386 (vp_in_nI (by omega) (by omega)) (congrArg sc (nI_clamp (by omega))) rfl ?_
  refine g_aload_n (q := 388) (i := 0) hC dL_law_387 rfl rfl rfl ?_
  refine g_iload (q := 390) (i := 4) hC dL_law_388 rfl rfl ?_
  refine g_iconst (q := 391) (v := nI 2) hC dL_law_390 rfl rfl ?_
  refine g_iadd (q := 392) (v := (nI ((6 * n) + 2))) hC dL_law_391 (nI_add _ _) rfl ?_
  refine g_sld (q := 393) (v := sc (((6 * n) + 2))) hC hX hbl hbA dL_law_392 (vp_in_nI (by omega) (by omega)) (congrArg sc (nI_clamp (by omega))) rfl ?_
  refine g_aload_n (q := 394) (i := 3) hC dL_law_393 rfl rfl rfl ?_
  refine g_ci (q := 397) (g_runSH hC ks_L_113 md_L_letterAt (c_W_letterAt _ hC.fl M _ A ρ W (sc (6 * n + 1)) (sc (6 * n + 2)) o f hr hW ho) dL_law_394 (by decide) (by decide) (by omega) (by omega) rfl rfl (Nat.le_of_ble_eq_true rfl)) rfl (fun r5 σ2 hw => ?_) (fun _ _ h9 => False.elim h9)
  obtain ⟨A2, W2, f2, hr2, hA2, h02, ho2, g1, g2⟩ := jE hr rfl h0 ho hw
  refine g_istore (q := 399) (i := 5) hC dL_law_397 (by decide) rfl ?_
  refine g_aload_n (q := 400) (i := 2) hC dL_law_399 rfl rfl rfl ?_
  refine g_aload_n (q := 401) (i := 0) hC dL_law_400 rfl rfl rfl ?_
  refine g_iload (q := 403) (i := 4) hC dL_law_401 rfl rfl ?_
  refine g_iconst (q := 404) (v := nI 1) hC dL_law_403 rfl rfl ?_
  refine g_iadd (q := 405) (v := (nI ((6 * n) + 1))) hC dL_law_404 (nI_add _ _) rfl ?_
  refine g_sld (q := 406) (v := sc (((6 * n) + 1))) hC hX hbl hbA dL_law_405 (vp_in_nI (by omega) (by omega)) (congrArg sc (nI_clamp (by omega))) rfl ?_
  refine g_aload_n (q := 407) (i := 0) hC dL_law_406 rfl rfl rfl ?_
  refine g_iload (q := 409) (i := 4) hC dL_law_407 rfl rfl ?_
  refine g_iconst (q := 410) (v := nI 2) hC dL_law_409 rfl rfl ?_
  refine g_iadd (q := 411) (v := (nI ((6 * n) + 2))) hC dL_law_410 (nI_add _ _) rfl ?_
  refine g_sld (q := 412) (v := sc (((6 * n) + 2))) hC hX hbl hbA dL_law_411 (vp_in_nI (by omega) (by omega)) (congrArg sc (nI_clamp (by omega))) rfl ?_
  refine g_ci (q := 415) (g_runV hC kv_L_116 md_X5_letterAt (c_M_letterAt _ hC.fl M _ (rest0 σ2 m ad) m ad rf (sc (6 * n + 1)) (sc (6 * n + 2)) S h02.mod hB hN) (ci := 5) rfl h02.1 dL_law_412 (by decide) (by decide) (by omega) (by omega) rfl rfl (Nat.le_of_ble_eq_true rfl)) rfl (fun r6 σ3 ⟨e6, hM⟩ => ?_) (fun _ _ h9 => False.elim h9)
  obtain ⟨hJ3, ho3⟩ := jF hmt hz hkz hr2 hA2 h02 ho2 hM
  refine g_istore (q := 417) (i := 6) hC dL_law_415 (by decide) rfl ?_
  refine g_aload_n (q := 418) (i := 2) hC dL_law_417 rfl rfl rfl ?_
  refine g_ci (q := 421) (g_runV hC kv_L_91 md_X5_thrown (c_M_thrown _ hC.fl M _ _ m ad _ _ hM) (ci := 5) rfl hM.1 dL_law_418 (by decide) (by decide) (by omega) (by omega) rfl rfl (Nat.le_of_ble_eq_true rfl)) rfl (fun r7 σ3 ⟨e7, e8⟩ => ?_) (fun _ _ h9 => False.elim h9)
  subst e8
  have hjr := e7.trans (jr hmt (fun z => (g1 z).1) g2)
  refine g_iload (q := 423) (i := 5) hC dL_law_421 rfl rfl ?_
  refine g_icmp_eq (tgt := 428) (q := 426) hC dL_law_423 (by decide) rfl (fun c_423 => ?_) (fun c_423 => ?_)
  · refine g_iload (q := 430) (i := 5) hC dL_law_428 rfl rfl ?_
    refine g_if_ne (tgt := 445) (q := 433) hC dL_law_430 (by decide) rfl (fun c_430 => ?_) (fun c_430 => ?_)
    · refine g_goto (tgt := 1462) hC dL_law_445 (by decide) ?_
      refine g_sub (lv0 := [(4, .int (nI (6 * n))), (3, .ref o), (2, .ref m), (1, .ref (A 0 0)), (0, .ref b)]) ⟨rfl, rfl, rfl, rfl, rfl, trivial⟩ ?_
      exact nx _ _ _ (by omega) (by omega) hJ3
    · refine g_aload_n (q := 434) (i := 3) hC dL_law_433 rfl rfl rfl ?_
      refine g_iconst (q := 435) (v := nI 0) hC dL_law_434 rfl rfl ?_
      refine g_lald (q := 436) hC dL_law_435 ho3 (vp_in_nI (by omega) (by omega)) rfl rfl ?_
      refine g_iload (q := 438) (i := 6) hC dL_law_436 rfl rfl ?_
      refine g_i2l (q := 439) hC dL_law_438 rfl rfl ?_
      refine g_lcmp (q := 440) hC dL_law_439 rfl rfl ?_
      refine g_if_eq (tgt := 445) (q := 443) hC dL_law_440 (by decide) rfl (fun c_440 => ?_) (fun c_440 => ?_)
      · refine g_goto (tgt := 1462) hC dL_law_445 (by decide) ?_
        refine g_sub (lv0 := [(4, .int (nI (6 * n))), (3, .ref o), (2, .ref m), (1, .ref (A 0 0)), (0, .ref b)]) ⟨rfl, rfl, rfl, rfl, rfl, trivial⟩ ?_
        exact nx _ _ _ (by omega) (by omega) hJ3
      · have e9 : lg_cmp (f2 (nI 0).toNatClampNeg) r6.toInt64 = 0 := (lg_cmp_eq _ _).mpr (by rw [nI_clamp (by decide), e6]; exact ja hmt g1 g2 (by assumption) hcd)
        exact absurd e9 (by assumption)
  · exact absurd hjr (by assumption)
set_option maxRecDepth 100000 in
set_option maxHeartbeats 4000000 in
theorem law_c7 {X : gX} {M : gMT} {Q : State → Prop} {b L : Nat} {sc : Nat → Int32} {a0 m o n : Nat} {σ : gS} (hx : LC X M b L sc) (hn : 6 * n + 6 ≤ L) (nx : nxt X M Q b a0 m o n) (hJ : Jn M a0 m o n σ) : G X M 7 Q (500 + 900 * n) (5000 + 13400 * n) σ 448 [(4, .int (nI (6 * n))), (3, .ref o), (2, .ref m), (1, .ref a0), (0, .ref b)] [] := by
  obtain ⟨hC, hX, hbl, hbA, hL⟩ := hx
  obtain ⟨A, ρ, W, ad, rf, S, f, hA, hr, h0, ho, hRel, hz⟩ := hJ
  subst hA
  have hW := hRel.1.1
  have hE := hRel.1.2.1
  have hB := hRel.SB
  have hSL := hRel.SL
  have hN := hRel.2.2.2.2.2.2.2.2
  have hn6 : n ≤ 600 := by omega
  have hmt : Mt (cdf 1 1 1) n ρ (lo_projects ρ) (mo_projects S) := m_projects hRel (cdf 1 1 1)
  have hkz : kz S (mo_projects S).2.2 := kz.rf
  refine g_aload_n (q := 449) (i := 1) hC dL_law_448 rfl rfl rfl ?_
  refine g_ci (q := 452) (g_runV hC kv_L_117 md_X4_projects (c_L_projects _ hC.fl M _ A ρ W hr hW) (ci := 4) rfl (hr.led hW) dL_law_449 (by decide) (by decide) (by omega) (by omega) rfl rfl (Nat.le_of_ble_eq_true rfl)) rfl (fun r5 σ2 hw => ?_) (fun _ _ h9 => False.elim h9)
  obtain ⟨A2, W2, hr2, hA2, h02, ho2, g1, g2⟩ := jD rfl h0 ho hw
  refine g_aload_n (q := 453) (i := 2) hC dL_law_452 rfl rfl rfl ?_
  refine g_ci (q := 456) (g_runV hC kv_L_120 md_X5_projects (c_M_projects _ hC.fl M _ (rest0 σ2 m ad) m ad rf S h02.mod) (ci := 5) rfl h02.1 dL_law_453 (by decide) (by decide) (by omega) (by omega) rfl rfl (Nat.le_of_ble_eq_true rfl)) rfl (fun r6 σ3 ⟨e6, hM⟩ => ?_) (fun _ _ h9 => False.elim h9)
  obtain ⟨hJ3, ho3⟩ := jF hmt hz hkz hr2 hA2 h02 ho2 hM
  refine g_icmp_eq (tgt := 1462) (q := 459) hC dL_law_456 (by decide) rfl (fun c_456 => ?_) (fun c_456 => ?_)
  · refine g_sub (lv0 := [(4, .int (nI (6 * n))), (3, .ref o), (2, .ref m), (1, .ref (A 0 0)), (0, .ref b)]) ⟨rfl, rfl, rfl, rfl, rfl, trivial⟩ ?_
    exact nx _ _ _ (by omega) (by omega) hJ3
  · exact absurd (by rw [g2, e6]; exact jd hmt g1) c_456
set_option maxRecDepth 100000 in
set_option maxHeartbeats 4000000 in
theorem law_c8 {X : gX} {M : gMT} {Q : State → Prop} {b L : Nat} {sc : Nat → Int32} {a0 m o n : Nat} {σ : gS} (hx : LC X M b L sc) (hn : 6 * n + 6 ≤ L) (nx : nxt X M Q b a0 m o n) (hJ : Jn M a0 m o n σ) : G X M 7 Q (500 + 900 * n) (5000 + 13400 * n) σ 461 [(4, .int (nI (6 * n))), (3, .ref o), (2, .ref m), (1, .ref a0), (0, .ref b)] [] := by
  obtain ⟨hC, hX, hbl, hbA, hL⟩ := hx
  obtain ⟨A, ρ, W, ad, rf, S, f, hA, hr, h0, ho, hRel, hz⟩ := hJ
  subst hA
  have hW := hRel.1.1
  have hE := hRel.1.2.1
  have hB := hRel.SB
  have hSL := hRel.SL
  have hN := hRel.2.2.2.2.2.2.2.2
  have hn6 : n ≤ 600 := by omega
  have hmt : Mt (cdf 9 1 2) n ρ (lo_makeFile ρ (sc (6 * n + 1)) (sc (6 * n + 2))) (mo_makeFile S (sc (6 * n + 1)) (sc (6 * n + 2))) := m_makeFile hRel hn6 (hz _ (Nat.le_refl _)) (by decide) (by decide) (sc (6 * n + 1)) (sc (6 * n + 2))
  have hcd : ∀ E, cdf 9 1 2 E ≠ 0 := cdf_n (by decide) (by decide) (by decide)
  have hkz : kz S (mo_makeFile S (sc (6 * n + 1)) (sc (6 * n + 2))).2.2 := z_makeFile (sc (6 * n + 1)) (sc (6 * n + 2))
  refine g_aload_n (q := 462) (i := 1) hC dL_law_461 rfl rfl rfl ?_
  refine g_aload_n (q := 463) (i := 0) hC dL_law_462 rfl rfl rfl ?_
  refine g_iload (q := 465) (i := 4) hC dL_law_463 rfl rfl ?_
  refine g_iconst (q := 466) (v := nI 1) hC dL_law_465 rfl rfl ?_
  refine g_iadd (q := 467) (v := (nI ((6 * n) + 1))) hC dL_law_466 (nI_add _ _) rfl ?_
  refine g_sld (q := 468) (v := sc (((6 * n) + 1))) hC hX hbl hbA dL_law_467 (vp_in_nI (by omega) (by omega)) (congrArg sc (nI_clamp (by omega))) rfl ?_
  refine g_aload_n (q := 469) (i := 0) hC dL_law_468 rfl rfl rfl ?_
  refine g_iload (q := 471) (i := 4) hC dL_law_469 rfl rfl ?_
  refine g_iconst (q := 472) (v := nI 2) hC dL_law_471 rfl rfl ?_
  refine g_iadd (q := 473) (v := (nI ((6 * n) + 2))) hC dL_law_472 (nI_add _ _) rfl ?_
  refine g_sld (q := 474) (v := sc (((6 * n) + 2))) hC hX hbl hbA dL_law_473 (vp_in_nI (by omega) (by omega)) (congrArg sc (nI_clamp (by omega))) rfl ?_
  refine g_aload_n (q := 475) (i := 3) hC dL_law_474 rfl rfl rfl ?_
  refine g_ci (q := 478) (g_runSH hC ks_L_121 md_L_makeFile (c_W_makeFile _ hC.fl M _ A ρ W (sc (6 * n + 1)) (sc (6 * n + 2)) o f hr hW hE ho) dL_law_475 (by decide) (by decide) (by omega) (by omega) rfl rfl (Nat.le_of_ble_eq_true rfl)) rfl (fun r5 σ2 hw => ?_) (fun _ _ h9 => False.elim h9)
  obtain ⟨A2, W2, f2, hr2, hA2, h02, ho2, g1, g2⟩ := jE hr rfl h0 ho hw
  refine g_istore (q := 480) (i := 5) hC dL_law_478 (by decide) rfl ?_
  refine g_aload_n (q := 481) (i := 2) hC dL_law_480 rfl rfl rfl ?_
  refine g_aload_n (q := 482) (i := 0) hC dL_law_481 rfl rfl rfl ?_
  refine g_iload (q := 484) (i := 4) hC dL_law_482 rfl rfl ?_
  refine g_iconst (q := 485) (v := nI 1) hC dL_law_484 rfl rfl ?_
  refine g_iadd (q := 486) (v := (nI ((6 * n) + 1))) hC dL_law_485 (nI_add _ _) rfl ?_
  refine g_sld (q := 487) (v := sc (((6 * n) + 1))) hC hX hbl hbA dL_law_486 (vp_in_nI (by omega) (by omega)) (congrArg sc (nI_clamp (by omega))) rfl ?_
  refine g_aload_n (q := 488) (i := 0) hC dL_law_487 rfl rfl rfl ?_
  refine g_iload (q := 490) (i := 4) hC dL_law_488 rfl rfl ?_
  refine g_iconst (q := 491) (v := nI 2) hC dL_law_490 rfl rfl ?_
  refine g_iadd (q := 492) (v := (nI ((6 * n) + 2))) hC dL_law_491 (nI_add _ _) rfl ?_
  refine g_sld (q := 493) (v := sc (((6 * n) + 2))) hC hX hbl hbA dL_law_492 (vp_in_nI (by omega) (by omega)) (congrArg sc (nI_clamp (by omega))) rfl ?_
  refine g_ci (q := 496) (g_runV hC kv_L_123 md_X5_makeFile (c_M_makeFile _ hC.fl M _ (rest0 σ2 m ad) m ad rf (sc (6 * n + 1)) (sc (6 * n + 2)) S h02.mod hB) (ci := 5) rfl h02.1 dL_law_493 (by decide) (by decide) (by omega) (by omega) rfl rfl (Nat.le_of_ble_eq_true rfl)) rfl (fun r6 σ3 ⟨e6, hM⟩ => ?_) (fun _ _ h9 => False.elim h9)
  obtain ⟨hJ3, ho3⟩ := jF hmt hz hkz hr2 hA2 h02 ho2 hM
  refine g_istore (q := 498) (i := 6) hC dL_law_496 (by decide) rfl ?_
  refine g_aload_n (q := 499) (i := 2) hC dL_law_498 rfl rfl rfl ?_
  refine g_ci (q := 502) (g_runV hC kv_L_91 md_X5_thrown (c_M_thrown _ hC.fl M _ _ m ad _ _ hM) (ci := 5) rfl hM.1 dL_law_499 (by decide) (by decide) (by omega) (by omega) rfl rfl (Nat.le_of_ble_eq_true rfl)) rfl (fun r7 σ3 ⟨e7, e8⟩ => ?_) (fun _ _ h9 => False.elim h9)
  subst e8
  have hjr := e7.trans (jr hmt (fun z => (g1 z).1) g2)
  refine g_iload (q := 504) (i := 5) hC dL_law_502 rfl rfl ?_
  refine g_icmp_eq (tgt := 509) (q := 507) hC dL_law_504 (by decide) rfl (fun c_504 => ?_) (fun c_504 => ?_)
  · refine g_iload (q := 511) (i := 5) hC dL_law_509 rfl rfl ?_
    refine g_if_ne (tgt := 526) (q := 514) hC dL_law_511 (by decide) rfl (fun c_511 => ?_) (fun c_511 => ?_)
    · refine g_goto (tgt := 1462) hC dL_law_526 (by decide) ?_
      refine g_sub (lv0 := [(4, .int (nI (6 * n))), (3, .ref o), (2, .ref m), (1, .ref (A 0 0)), (0, .ref b)]) ⟨rfl, rfl, rfl, rfl, rfl, trivial⟩ ?_
      exact nx _ _ _ (by omega) (by omega) hJ3
    · refine g_aload_n (q := 515) (i := 3) hC dL_law_514 rfl rfl rfl ?_
      refine g_iconst (q := 516) (v := nI 0) hC dL_law_515 rfl rfl ?_
      refine g_lald (q := 517) hC dL_law_516 ho3 (vp_in_nI (by omega) (by omega)) rfl rfl ?_
      refine g_iload (q := 519) (i := 6) hC dL_law_517 rfl rfl ?_
      refine g_i2l (q := 520) hC dL_law_519 rfl rfl ?_
      refine g_lcmp (q := 521) hC dL_law_520 rfl rfl ?_
      refine g_if_eq (tgt := 526) (q := 524) hC dL_law_521 (by decide) rfl (fun c_521 => ?_) (fun c_521 => ?_)
      · refine g_goto (tgt := 1462) hC dL_law_526 (by decide) ?_
        refine g_sub (lv0 := [(4, .int (nI (6 * n))), (3, .ref o), (2, .ref m), (1, .ref (A 0 0)), (0, .ref b)]) ⟨rfl, rfl, rfl, rfl, rfl, trivial⟩ ?_
        exact nx _ _ _ (by omega) (by omega) hJ3
      · have e9 : lg_cmp (f2 (nI 0).toNatClampNeg) r6.toInt64 = 0 := (lg_cmp_eq _ _).mpr (by rw [nI_clamp (by decide), e6]; exact ja hmt g1 g2 (by assumption) hcd)
        exact absurd e9 (by assumption)
  · exact absurd hjr (by assumption)
set_option maxRecDepth 100000 in
set_option maxHeartbeats 4000000 in
theorem law_c9 {X : gX} {M : gMT} {Q : State → Prop} {b L : Nat} {sc : Nat → Int32} {a0 m o n : Nat} {σ : gS} (hx : LC X M b L sc) (hn : 6 * n + 6 ≤ L) (nx : nxt X M Q b a0 m o n) (hJ : Jn M a0 m o n σ) : G X M 7 Q (500 + 900 * n) (5000 + 13400 * n) σ 529 [(4, .int (nI (6 * n))), (3, .ref o), (2, .ref m), (1, .ref a0), (0, .ref b)] [] := by
  obtain ⟨hC, hX, hbl, hbA, hL⟩ := hx
  obtain ⟨A, ρ, W, ad, rf, S, f, hA, hr, h0, ho, hRel, hz⟩ := hJ
  subst hA
  have hW := hRel.1.1
  have hE := hRel.1.2.1
  have hB := hRel.SB
  have hSL := hRel.SL
  have hN := hRel.2.2.2.2.2.2.2.2
  have hn6 : n ≤ 600 := by omega
  have hmt : Mt (cdf 2 1 9) n ρ (lo_write ρ (sc (6 * n + 1)) (sc (6 * n + 2))) (mo_write S (sc (6 * n + 1)) (sc (6 * n + 2))) := m_write hRel hn6 (by decide) (by decide) (sc (6 * n + 1)) (sc (6 * n + 2))
  have hcd : ∀ E, cdf 2 1 9 E ≠ 0 := cdf_n (by decide) (by decide) (by decide)
  have hkz : kz S (mo_write S (sc (6 * n + 1)) (sc (6 * n + 2))).2.2 := z_write hB (sc (6 * n + 1)) (sc (6 * n + 2))
  refine g_aload_n (q := 530) (i := 1) hC dL_law_529 rfl rfl rfl ?_
  refine g_aload_n (q := 531) (i := 0) hC dL_law_530 rfl rfl rfl ?_
  refine g_iload (q := 533) (i := 4) hC dL_law_531 rfl rfl ?_
  refine g_iconst (q := 534) (v := nI 1) hC dL_law_533 rfl rfl ?_
  refine g_iadd (q := 535) (v := (nI ((6 * n) + 1))) hC dL_law_534 (nI_add _ _) rfl ?_
  refine g_sld (q := 536) (v := sc (((6 * n) + 1))) hC hX hbl hbA dL_law_535 (vp_in_nI (by omega) (by omega)) (congrArg sc (nI_clamp (by omega))) rfl ?_
  refine g_aload_n (q := 537) (i := 0) hC dL_law_536 rfl rfl rfl ?_
  refine g_iload (q := 539) (i := 4) hC dL_law_537 rfl rfl ?_
  refine g_iconst (q := 540) (v := nI 2) hC dL_law_539 rfl rfl ?_
  refine g_iadd (q := 541) (v := (nI ((6 * n) + 2))) hC dL_law_540 (nI_add _ _) rfl ?_
  refine g_sld (q := 542) (v := sc (((6 * n) + 2))) hC hX hbl hbA dL_law_541 (vp_in_nI (by omega) (by omega)) (congrArg sc (nI_clamp (by omega))) rfl ?_
  refine g_aload_n (q := 543) (i := 3) hC dL_law_542 rfl rfl rfl ?_
  refine g_ci (q := 546) (g_runSH hC ks_L_124 md_L_write (c_W_write _ hC.fl M _ A ρ W (sc (6 * n + 1)) (sc (6 * n + 2)) o f hr hW ho) dL_law_543 (by decide) (by decide) (by omega) (by omega) rfl rfl (Nat.le_of_ble_eq_true rfl)) rfl (fun r5 σ2 hw => ?_) (fun _ _ h9 => False.elim h9)
  obtain ⟨A2, W2, f2, hr2, hA2, h02, ho2, g1, g2⟩ := jE hr rfl h0 ho hw
  refine g_istore (q := 548) (i := 5) hC dL_law_546 (by decide) rfl ?_
  refine g_aload_n (q := 549) (i := 2) hC dL_law_548 rfl rfl rfl ?_
  refine g_aload_n (q := 550) (i := 0) hC dL_law_549 rfl rfl rfl ?_
  refine g_iload (q := 552) (i := 4) hC dL_law_550 rfl rfl ?_
  refine g_iconst (q := 553) (v := nI 1) hC dL_law_552 rfl rfl ?_
  refine g_iadd (q := 554) (v := (nI ((6 * n) + 1))) hC dL_law_553 (nI_add _ _) rfl ?_
  refine g_sld (q := 555) (v := sc (((6 * n) + 1))) hC hX hbl hbA dL_law_554 (vp_in_nI (by omega) (by omega)) (congrArg sc (nI_clamp (by omega))) rfl ?_
  refine g_aload_n (q := 556) (i := 0) hC dL_law_555 rfl rfl rfl ?_
  refine g_iload (q := 558) (i := 4) hC dL_law_556 rfl rfl ?_
  refine g_iconst (q := 559) (v := nI 2) hC dL_law_558 rfl rfl ?_
  refine g_iadd (q := 560) (v := (nI ((6 * n) + 2))) hC dL_law_559 (nI_add _ _) rfl ?_
  refine g_sld (q := 561) (v := sc (((6 * n) + 2))) hC hX hbl hbA dL_law_560 (vp_in_nI (by omega) (by omega)) (congrArg sc (nI_clamp (by omega))) rfl ?_
  refine g_ci (q := 564) (g_runV hC kv_L_126 md_X5_write (c_M_write _ hC.fl M _ (rest0 σ2 m ad) m ad rf (sc (6 * n + 1)) (sc (6 * n + 2)) S h02.mod hB) (ci := 5) rfl h02.1 dL_law_561 (by decide) (by decide) (by omega) (by omega) rfl rfl (Nat.le_of_ble_eq_true rfl)) rfl (fun r6 σ3 ⟨e6, hM⟩ => ?_) (fun _ _ h9 => False.elim h9)
  obtain ⟨hJ3, ho3⟩ := jF hmt hz hkz hr2 hA2 h02 ho2 hM
  refine g_istore (q := 566) (i := 6) hC dL_law_564 (by decide) rfl ?_
  refine g_aload_n (q := 567) (i := 2) hC dL_law_566 rfl rfl rfl ?_
  refine g_ci (q := 570) (g_runV hC kv_L_91 md_X5_thrown (c_M_thrown _ hC.fl M _ _ m ad _ _ hM) (ci := 5) rfl hM.1 dL_law_567 (by decide) (by decide) (by omega) (by omega) rfl rfl (Nat.le_of_ble_eq_true rfl)) rfl (fun r7 σ3 ⟨e7, e8⟩ => ?_) (fun _ _ h9 => False.elim h9)
  subst e8
  have hjr := e7.trans (jr hmt (fun z => (g1 z).1) g2)
  refine g_iload (q := 572) (i := 5) hC dL_law_570 rfl rfl ?_
  refine g_icmp_eq (tgt := 577) (q := 575) hC dL_law_572 (by decide) rfl (fun c_572 => ?_) (fun c_572 => ?_)
  · refine g_iload (q := 579) (i := 5) hC dL_law_577 rfl rfl ?_
    refine g_if_ne (tgt := 594) (q := 582) hC dL_law_579 (by decide) rfl (fun c_579 => ?_) (fun c_579 => ?_)
    · refine g_goto (tgt := 1462) hC dL_law_594 (by decide) ?_
      refine g_sub (lv0 := [(4, .int (nI (6 * n))), (3, .ref o), (2, .ref m), (1, .ref (A 0 0)), (0, .ref b)]) ⟨rfl, rfl, rfl, rfl, rfl, trivial⟩ ?_
      exact nx _ _ _ (by omega) (by omega) hJ3
    · refine g_aload_n (q := 583) (i := 3) hC dL_law_582 rfl rfl rfl ?_
      refine g_iconst (q := 584) (v := nI 0) hC dL_law_583 rfl rfl ?_
      refine g_lald (q := 585) hC dL_law_584 ho3 (vp_in_nI (by omega) (by omega)) rfl rfl ?_
      refine g_iload (q := 587) (i := 6) hC dL_law_585 rfl rfl ?_
      refine g_i2l (q := 588) hC dL_law_587 rfl rfl ?_
      refine g_lcmp (q := 589) hC dL_law_588 rfl rfl ?_
      refine g_if_eq (tgt := 594) (q := 592) hC dL_law_589 (by decide) rfl (fun c_589 => ?_) (fun c_589 => ?_)
      · refine g_goto (tgt := 1462) hC dL_law_594 (by decide) ?_
        refine g_sub (lv0 := [(4, .int (nI (6 * n))), (3, .ref o), (2, .ref m), (1, .ref (A 0 0)), (0, .ref b)]) ⟨rfl, rfl, rfl, rfl, rfl, trivial⟩ ?_
        exact nx _ _ _ (by omega) (by omega) hJ3
      · have e9 : lg_cmp (f2 (nI 0).toNatClampNeg) r6.toInt64 = 0 := (lg_cmp_eq _ _).mpr (by rw [nI_clamp (by decide), e6]; exact ja hmt g1 g2 (by assumption) hcd)
        exact absurd e9 (by assumption)
  · exact absurd hjr (by assumption)
set_option maxRecDepth 100000 in
set_option maxHeartbeats 4000000 in
theorem law_c10 {X : gX} {M : gMT} {Q : State → Prop} {b L : Nat} {sc : Nat → Int32} {a0 m o n : Nat} {σ : gS} (hx : LC X M b L sc) (hn : 6 * n + 6 ≤ L) (nx : nxt X M Q b a0 m o n) (hJ : Jn M a0 m o n σ) : G X M 7 Q (500 + 900 * n) (5000 + 13400 * n) σ 597 [(4, .int (nI (6 * n))), (3, .ref o), (2, .ref m), (1, .ref a0), (0, .ref b)] [] := by
  obtain ⟨hC, hX, hbl, hbA, hL⟩ := hx
  obtain ⟨A, ρ, W, ad, rf, S, f, hA, hr, h0, ho, hRel, hz⟩ := hJ
  subst hA
  have hW := hRel.1.1
  have hE := hRel.1.2.1
  have hB := hRel.SB
  have hSL := hRel.SL
  have hN := hRel.2.2.2.2.2.2.2.2
  have hn6 : n ≤ 600 := by omega
  have hmt : Mt (cdf 9 1 9) n ρ (lo_delete ρ (sc (6 * n + 1))) (mo_delete S (sc (6 * n + 1))) := m_delete hRel hn6 (by decide) (sc (6 * n + 1))
  have hcd : ∀ E, cdf 9 1 9 E ≠ 0 := cdf_n (by decide) (by decide) (by decide)
  have hkz : kz S (mo_delete S (sc (6 * n + 1))).2.2 := z_delete hB (sc (6 * n + 1))
  refine g_aload_n (q := 598) (i := 1) hC dL_law_597 rfl rfl rfl ?_
  refine g_aload_n (q := 599) (i := 0) hC dL_law_598 rfl rfl rfl ?_
  refine g_iload (q := 601) (i := 4) hC dL_law_599 rfl rfl ?_
  refine g_iconst (q := 602) (v := nI 1) hC dL_law_601 rfl rfl ?_
  refine g_iadd (q := 603) (v := (nI ((6 * n) + 1))) hC dL_law_602 (nI_add _ _) rfl ?_
  refine g_sld (q := 604) (v := sc (((6 * n) + 1))) hC hX hbl hbA dL_law_603 (vp_in_nI (by omega) (by omega)) (congrArg sc (nI_clamp (by omega))) rfl ?_
  refine g_aload_n (q := 605) (i := 3) hC dL_law_604 rfl rfl rfl ?_
  refine g_ci (q := 608) (g_runSH hC ks_L_127 md_L_delete (c_W_delete _ hC.fl M _ A ρ W (sc (6 * n + 1)) o f hr hW ho) dL_law_605 (by decide) (by decide) (by omega) (by omega) rfl rfl (Nat.le_of_ble_eq_true rfl)) rfl (fun r5 σ2 hw => ?_) (fun _ _ h9 => False.elim h9)
  obtain ⟨A2, W2, f2, hr2, hA2, h02, ho2, g1, g2⟩ := jE hr rfl h0 ho hw
  refine g_istore (q := 610) (i := 5) hC dL_law_608 (by decide) rfl ?_
  refine g_aload_n (q := 611) (i := 2) hC dL_law_610 rfl rfl rfl ?_
  refine g_aload_n (q := 612) (i := 0) hC dL_law_611 rfl rfl rfl ?_
  refine g_iload (q := 614) (i := 4) hC dL_law_612 rfl rfl ?_
  refine g_iconst (q := 615) (v := nI 1) hC dL_law_614 rfl rfl ?_
  refine g_iadd (q := 616) (v := (nI ((6 * n) + 1))) hC dL_law_615 (nI_add _ _) rfl ?_
  refine g_sld (q := 617) (v := sc (((6 * n) + 1))) hC hX hbl hbA dL_law_616 (vp_in_nI (by omega) (by omega)) (congrArg sc (nI_clamp (by omega))) rfl ?_
  refine g_ci (q := 620) (g_runV hC kv_L_129 md_X5_delete (c_M_delete _ hC.fl M _ (rest0 σ2 m ad) m ad rf (sc (6 * n + 1)) S h02.mod hB) (ci := 5) rfl h02.1 dL_law_617 (by decide) (by decide) (by omega) (by omega) rfl rfl (Nat.le_of_ble_eq_true rfl)) rfl (fun r6 σ3 ⟨e6, hM⟩ => ?_) (fun _ _ h9 => False.elim h9)
  obtain ⟨hJ3, ho3⟩ := jF hmt hz hkz hr2 hA2 h02 ho2 hM
  refine g_istore (q := 622) (i := 6) hC dL_law_620 (by decide) rfl ?_
  refine g_aload_n (q := 623) (i := 2) hC dL_law_622 rfl rfl rfl ?_
  refine g_ci (q := 626) (g_runV hC kv_L_91 md_X5_thrown (c_M_thrown _ hC.fl M _ _ m ad _ _ hM) (ci := 5) rfl hM.1 dL_law_623 (by decide) (by decide) (by omega) (by omega) rfl rfl (Nat.le_of_ble_eq_true rfl)) rfl (fun r7 σ3 ⟨e7, e8⟩ => ?_) (fun _ _ h9 => False.elim h9)
  subst e8
  have hjr := e7.trans (jr hmt (fun z => (g1 z).1) g2)
  refine g_iload (q := 628) (i := 5) hC dL_law_626 rfl rfl ?_
  refine g_icmp_eq (tgt := 633) (q := 631) hC dL_law_628 (by decide) rfl (fun c_628 => ?_) (fun c_628 => ?_)
  · refine g_iload (q := 635) (i := 5) hC dL_law_633 rfl rfl ?_
    refine g_if_ne (tgt := 650) (q := 638) hC dL_law_635 (by decide) rfl (fun c_635 => ?_) (fun c_635 => ?_)
    · refine g_goto (tgt := 1462) hC dL_law_650 (by decide) ?_
      refine g_sub (lv0 := [(4, .int (nI (6 * n))), (3, .ref o), (2, .ref m), (1, .ref (A 0 0)), (0, .ref b)]) ⟨rfl, rfl, rfl, rfl, rfl, trivial⟩ ?_
      exact nx _ _ _ (by omega) (by omega) hJ3
    · refine g_aload_n (q := 639) (i := 3) hC dL_law_638 rfl rfl rfl ?_
      refine g_iconst (q := 640) (v := nI 0) hC dL_law_639 rfl rfl ?_
      refine g_lald (q := 641) hC dL_law_640 ho3 (vp_in_nI (by omega) (by omega)) rfl rfl ?_
      refine g_iload (q := 643) (i := 6) hC dL_law_641 rfl rfl ?_
      refine g_i2l (q := 644) hC dL_law_643 rfl rfl ?_
      refine g_lcmp (q := 645) hC dL_law_644 rfl rfl ?_
      refine g_if_eq (tgt := 650) (q := 648) hC dL_law_645 (by decide) rfl (fun c_645 => ?_) (fun c_645 => ?_)
      · refine g_goto (tgt := 1462) hC dL_law_650 (by decide) ?_
        refine g_sub (lv0 := [(4, .int (nI (6 * n))), (3, .ref o), (2, .ref m), (1, .ref (A 0 0)), (0, .ref b)]) ⟨rfl, rfl, rfl, rfl, rfl, trivial⟩ ?_
        exact nx _ _ _ (by omega) (by omega) hJ3
      · have e9 : lg_cmp (f2 (nI 0).toNatClampNeg) r6.toInt64 = 0 := (lg_cmp_eq _ _).mpr (by rw [nI_clamp (by decide), e6]; exact ja hmt g1 g2 (by assumption) hcd)
        exact absurd e9 (by assumption)
  · exact absurd hjr (by assumption)
set_option maxRecDepth 100000 in
set_option maxHeartbeats 4000000 in
theorem law_c11 {X : gX} {M : gMT} {Q : State → Prop} {b L : Nat} {sc : Nat → Int32} {a0 m o n : Nat} {σ : gS} (hx : LC X M b L sc) (hn : 6 * n + 6 ≤ L) (nx : nxt X M Q b a0 m o n) (hJ : Jn M a0 m o n σ) : G X M 7 Q (500 + 900 * n) (5000 + 13400 * n) σ 653 [(4, .int (nI (6 * n))), (3, .ref o), (2, .ref m), (1, .ref a0), (0, .ref b)] [] := by
  obtain ⟨hC, hX, hbl, hbA, hL⟩ := hx
  obtain ⟨A, ρ, W, ad, rf, S, f, hA, hr, h0, ho, hRel, hz⟩ := hJ
  subst hA
  have hW := hRel.1.1
  have hE := hRel.1.2.1
  have hB := hRel.SB
  have hSL := hRel.SL
  have hN := hRel.2.2.2.2.2.2.2.2
  have hn6 : n ≤ 600 := by omega
  have hmt : Mt (cdf 9 1 9) n ρ (lo_moveFile ρ (sc (6 * n + 1)) (sc (6 * n + 2))) (mo_moveFile S (sc (6 * n + 1)) (sc (6 * n + 2))) := m_moveFile hRel (by decide) (sc (6 * n + 1)) (sc (6 * n + 2))
  have hcd : ∀ E, cdf 9 1 9 E ≠ 0 := cdf_n (by decide) (by decide) (by decide)
  have hkz : kz S (mo_moveFile S (sc (6 * n + 1)) (sc (6 * n + 2))).2.2 := z_moveFile (sc (6 * n + 1)) (sc (6 * n + 2))
  refine g_aload_n (q := 654) (i := 1) hC dL_law_653 rfl rfl rfl ?_
  refine g_aload_n (q := 655) (i := 0) hC dL_law_654 rfl rfl rfl ?_
  refine g_iload (q := 657) (i := 4) hC dL_law_655 rfl rfl ?_
  refine g_iconst (q := 658) (v := nI 1) hC dL_law_657 rfl rfl ?_
  refine g_iadd (q := 659) (v := (nI ((6 * n) + 1))) hC dL_law_658 (nI_add _ _) rfl ?_
  refine g_sld (q := 660) (v := sc (((6 * n) + 1))) hC hX hbl hbA dL_law_659 (vp_in_nI (by omega) (by omega)) (congrArg sc (nI_clamp (by omega))) rfl ?_
  refine g_aload_n (q := 661) (i := 0) hC dL_law_660 rfl rfl rfl ?_
  refine g_iload (q := 663) (i := 4) hC dL_law_661 rfl rfl ?_
  refine g_iconst (q := 664) (v := nI 2) hC dL_law_663 rfl rfl ?_
  refine g_iadd (q := 665) (v := (nI ((6 * n) + 2))) hC dL_law_664 (nI_add _ _) rfl ?_
  refine g_sld (q := 666) (v := sc (((6 * n) + 2))) hC hX hbl hbA dL_law_665 (vp_in_nI (by omega) (by omega)) (congrArg sc (nI_clamp (by omega))) rfl ?_
  refine g_aload_n (q := 667) (i := 3) hC dL_law_666 rfl rfl rfl ?_
  refine g_ci (q := 670) (g_runSH hC ks_L_130 md_L_moveFile (c_W_moveFile _ hC.fl M _ A ρ W (sc (6 * n + 1)) (sc (6 * n + 2)) o f hr hW ho) dL_law_667 (by decide) (by decide) (by omega) (by omega) rfl rfl (Nat.le_of_ble_eq_true rfl)) rfl (fun r5 σ2 hw => ?_) (fun _ _ h9 => False.elim h9)
  obtain ⟨A2, W2, f2, hr2, hA2, h02, ho2, g1, g2⟩ := jE hr rfl h0 ho hw
  refine g_istore (q := 672) (i := 5) hC dL_law_670 (by decide) rfl ?_
  refine g_aload_n (q := 673) (i := 2) hC dL_law_672 rfl rfl rfl ?_
  refine g_aload_n (q := 674) (i := 0) hC dL_law_673 rfl rfl rfl ?_
  refine g_iload (q := 676) (i := 4) hC dL_law_674 rfl rfl ?_
  refine g_iconst (q := 677) (v := nI 1) hC dL_law_676 rfl rfl ?_
  refine g_iadd (q := 678) (v := (nI ((6 * n) + 1))) hC dL_law_677 (nI_add _ _) rfl ?_
  refine g_sld (q := 679) (v := sc (((6 * n) + 1))) hC hX hbl hbA dL_law_678 (vp_in_nI (by omega) (by omega)) (congrArg sc (nI_clamp (by omega))) rfl ?_
  refine g_aload_n (q := 680) (i := 0) hC dL_law_679 rfl rfl rfl ?_
  refine g_iload (q := 682) (i := 4) hC dL_law_680 rfl rfl ?_
  refine g_iconst (q := 683) (v := nI 2) hC dL_law_682 rfl rfl ?_
  refine g_iadd (q := 684) (v := (nI ((6 * n) + 2))) hC dL_law_683 (nI_add _ _) rfl ?_
  refine g_sld (q := 685) (v := sc (((6 * n) + 2))) hC hX hbl hbA dL_law_684 (vp_in_nI (by omega) (by omega)) (congrArg sc (nI_clamp (by omega))) rfl ?_
  refine g_ci (q := 688) (g_runV hC kv_L_132 md_X5_moveFile (c_M_moveFile _ hC.fl M _ (rest0 σ2 m ad) m ad rf (sc (6 * n + 1)) (sc (6 * n + 2)) S h02.mod hB) (ci := 5) rfl h02.1 dL_law_685 (by decide) (by decide) (by omega) (by omega) rfl rfl (Nat.le_of_ble_eq_true rfl)) rfl (fun r6 σ3 ⟨e6, hM⟩ => ?_) (fun _ _ h9 => False.elim h9)
  obtain ⟨hJ3, ho3⟩ := jF hmt hz hkz hr2 hA2 h02 ho2 hM
  refine g_istore (q := 690) (i := 6) hC dL_law_688 (by decide) rfl ?_
  refine g_aload_n (q := 691) (i := 2) hC dL_law_690 rfl rfl rfl ?_
  refine g_ci (q := 694) (g_runV hC kv_L_91 md_X5_thrown (c_M_thrown _ hC.fl M _ _ m ad _ _ hM) (ci := 5) rfl hM.1 dL_law_691 (by decide) (by decide) (by omega) (by omega) rfl rfl (Nat.le_of_ble_eq_true rfl)) rfl (fun r7 σ3 ⟨e7, e8⟩ => ?_) (fun _ _ h9 => False.elim h9)
  subst e8
  have hjr := e7.trans (jr hmt (fun z => (g1 z).1) g2)
  refine g_iload (q := 696) (i := 5) hC dL_law_694 rfl rfl ?_
  refine g_icmp_eq (tgt := 701) (q := 699) hC dL_law_696 (by decide) rfl (fun c_696 => ?_) (fun c_696 => ?_)
  · refine g_iload (q := 703) (i := 5) hC dL_law_701 rfl rfl ?_
    refine g_if_ne (tgt := 718) (q := 706) hC dL_law_703 (by decide) rfl (fun c_703 => ?_) (fun c_703 => ?_)
    · refine g_goto (tgt := 1462) hC dL_law_718 (by decide) ?_
      refine g_sub (lv0 := [(4, .int (nI (6 * n))), (3, .ref o), (2, .ref m), (1, .ref (A 0 0)), (0, .ref b)]) ⟨rfl, rfl, rfl, rfl, rfl, trivial⟩ ?_
      exact nx _ _ _ (by omega) (by omega) hJ3
    · refine g_aload_n (q := 707) (i := 3) hC dL_law_706 rfl rfl rfl ?_
      refine g_iconst (q := 708) (v := nI 0) hC dL_law_707 rfl rfl ?_
      refine g_lald (q := 709) hC dL_law_708 ho3 (vp_in_nI (by omega) (by omega)) rfl rfl ?_
      refine g_iload (q := 711) (i := 6) hC dL_law_709 rfl rfl ?_
      refine g_i2l (q := 712) hC dL_law_711 rfl rfl ?_
      refine g_lcmp (q := 713) hC dL_law_712 rfl rfl ?_
      refine g_if_eq (tgt := 718) (q := 716) hC dL_law_713 (by decide) rfl (fun c_713 => ?_) (fun c_713 => ?_)
      · refine g_goto (tgt := 1462) hC dL_law_718 (by decide) ?_
        refine g_sub (lv0 := [(4, .int (nI (6 * n))), (3, .ref o), (2, .ref m), (1, .ref (A 0 0)), (0, .ref b)]) ⟨rfl, rfl, rfl, rfl, rfl, trivial⟩ ?_
        exact nx _ _ _ (by omega) (by omega) hJ3
      · have e9 : lg_cmp (f2 (nI 0).toNatClampNeg) r6.toInt64 = 0 := (lg_cmp_eq _ _).mpr (by rw [nI_clamp (by decide), e6]; exact ja hmt g1 g2 (by assumption) hcd)
        exact absurd e9 (by assumption)
  · exact absurd hjr (by assumption)
set_option maxRecDepth 100000 in
set_option maxHeartbeats 4000000 in
theorem law_c12 {X : gX} {M : gMT} {Q : State → Prop} {b L : Nat} {sc : Nat → Int32} {a0 m o n : Nat} {σ : gS} (hx : LC X M b L sc) (hn : 6 * n + 6 ≤ L) (nx : nxt X M Q b a0 m o n) (hJ : Jn M a0 m o n σ) : G X M 7 Q (500 + 900 * n) (5000 + 13400 * n) σ 721 [(4, .int (nI (6 * n))), (3, .ref o), (2, .ref m), (1, .ref a0), (0, .ref b)] [] := by
  obtain ⟨hC, hX, hbl, hbA, hL⟩ := hx
  obtain ⟨A, ρ, W, ad, rf, S, f, hA, hr, h0, ho, hRel, hz⟩ := hJ
  subst hA
  have hW := hRel.1.1
  have hE := hRel.1.2.1
  have hB := hRel.SB
  have hSL := hRel.SL
  have hN := hRel.2.2.2.2.2.2.2.2
  have hn6 : n ≤ 600 := by omega
  have hmt : Mt (cdf 2 1 3) n ρ (lo_reserve ρ (sc (6 * n + 1)) (sc (6 * n + 2))) (mo_reserve S (sc (6 * n + 1)) (sc (6 * n + 2))) := m_reserve hRel hn6 (by decide) (by decide) (by decide) (sc (6 * n + 1)) (sc (6 * n + 2))
  have hcd : ∀ E, cdf 2 1 3 E ≠ 0 := cdf_n (by decide) (by decide) (by decide)
  have hkz : kz S (mo_reserve S (sc (6 * n + 1)) (sc (6 * n + 2))).2.2 := z_reserve (sc (6 * n + 1)) (sc (6 * n + 2))
  refine g_aload_n (q := 722) (i := 1) hC dL_law_721 rfl rfl rfl ?_
  refine g_aload_n (q := 723) (i := 0) hC dL_law_722 rfl rfl rfl ?_
  refine g_iload (q := 725) (i := 4) hC dL_law_723 rfl rfl ?_
  refine g_iconst (q := 726) (v := nI 1) hC dL_law_725 rfl rfl ?_
  refine g_iadd (q := 727) (v := (nI ((6 * n) + 1))) hC dL_law_726 (nI_add _ _) rfl ?_
  refine g_sld (q := 728) (v := sc (((6 * n) + 1))) hC hX hbl hbA dL_law_727 (vp_in_nI (by omega) (by omega)) (congrArg sc (nI_clamp (by omega))) rfl ?_
  refine g_aload_n (q := 729) (i := 0) hC dL_law_728 rfl rfl rfl ?_
  refine g_iload (q := 731) (i := 4) hC dL_law_729 rfl rfl ?_
  refine g_iconst (q := 732) (v := nI 2) hC dL_law_731 rfl rfl ?_
  refine g_iadd (q := 733) (v := (nI ((6 * n) + 2))) hC dL_law_732 (nI_add _ _) rfl ?_
  refine g_sld (q := 734) (v := sc (((6 * n) + 2))) hC hX hbl hbA dL_law_733 (vp_in_nI (by omega) (by omega)) (congrArg sc (nI_clamp (by omega))) rfl ?_
  refine g_aload_n (q := 735) (i := 3) hC dL_law_734 rfl rfl rfl ?_
  refine g_ci (q := 738) (g_runSH hC ks_L_133 md_L_reserve (c_W_reserve _ hC.fl M _ A ρ W (sc (6 * n + 1)) (sc (6 * n + 2)) o f hr hW hE ho) dL_law_735 (by decide) (by decide) (by omega) (by omega) rfl rfl (Nat.le_of_ble_eq_true rfl)) rfl (fun r5 σ2 hw => ?_) (fun _ _ h9 => False.elim h9)
  obtain ⟨A2, W2, f2, hr2, hA2, h02, ho2, g1, g2⟩ := jE hr rfl h0 ho hw
  refine g_istore (q := 740) (i := 5) hC dL_law_738 (by decide) rfl ?_
  refine g_aload_n (q := 741) (i := 2) hC dL_law_740 rfl rfl rfl ?_
  refine g_aload_n (q := 742) (i := 0) hC dL_law_741 rfl rfl rfl ?_
  refine g_iload (q := 744) (i := 4) hC dL_law_742 rfl rfl ?_
  refine g_iconst (q := 745) (v := nI 1) hC dL_law_744 rfl rfl ?_
  refine g_iadd (q := 746) (v := (nI ((6 * n) + 1))) hC dL_law_745 (nI_add _ _) rfl ?_
  refine g_sld (q := 747) (v := sc (((6 * n) + 1))) hC hX hbl hbA dL_law_746 (vp_in_nI (by omega) (by omega)) (congrArg sc (nI_clamp (by omega))) rfl ?_
  refine g_aload_n (q := 748) (i := 0) hC dL_law_747 rfl rfl rfl ?_
  refine g_iload (q := 750) (i := 4) hC dL_law_748 rfl rfl ?_
  refine g_iconst (q := 751) (v := nI 2) hC dL_law_750 rfl rfl ?_
  refine g_iadd (q := 752) (v := (nI ((6 * n) + 2))) hC dL_law_751 (nI_add _ _) rfl ?_
  refine g_sld (q := 753) (v := sc (((6 * n) + 2))) hC hX hbl hbA dL_law_752 (vp_in_nI (by omega) (by omega)) (congrArg sc (nI_clamp (by omega))) rfl ?_
  refine g_ci (q := 756) (g_runV hC kv_L_135 md_X5_reserve (c_M_reserve _ hC.fl M _ (rest0 σ2 m ad) m ad rf (sc (6 * n + 1)) (sc (6 * n + 2)) S h02.mod hB) (ci := 5) rfl h02.1 dL_law_753 (by decide) (by decide) (by omega) (by omega) rfl rfl (Nat.le_of_ble_eq_true rfl)) rfl (fun r6 σ3 ⟨e6, hM⟩ => ?_) (fun _ _ h9 => False.elim h9)
  obtain ⟨hJ3, ho3⟩ := jF hmt hz hkz hr2 hA2 h02 ho2 hM
  refine g_istore (q := 758) (i := 6) hC dL_law_756 (by decide) rfl ?_
  refine g_aload_n (q := 759) (i := 2) hC dL_law_758 rfl rfl rfl ?_
  refine g_ci (q := 762) (g_runV hC kv_L_91 md_X5_thrown (c_M_thrown _ hC.fl M _ _ m ad _ _ hM) (ci := 5) rfl hM.1 dL_law_759 (by decide) (by decide) (by omega) (by omega) rfl rfl (Nat.le_of_ble_eq_true rfl)) rfl (fun r7 σ3 ⟨e7, e8⟩ => ?_) (fun _ _ h9 => False.elim h9)
  subst e8
  have hjr := e7.trans (jr hmt (fun z => (g1 z).1) g2)
  refine g_iload (q := 764) (i := 5) hC dL_law_762 rfl rfl ?_
  refine g_icmp_eq (tgt := 769) (q := 767) hC dL_law_764 (by decide) rfl (fun c_764 => ?_) (fun c_764 => ?_)
  · refine g_iload (q := 771) (i := 5) hC dL_law_769 rfl rfl ?_
    refine g_if_ne (tgt := 786) (q := 774) hC dL_law_771 (by decide) rfl (fun c_771 => ?_) (fun c_771 => ?_)
    · refine g_goto (tgt := 1462) hC dL_law_786 (by decide) ?_
      refine g_sub (lv0 := [(4, .int (nI (6 * n))), (3, .ref o), (2, .ref m), (1, .ref (A 0 0)), (0, .ref b)]) ⟨rfl, rfl, rfl, rfl, rfl, trivial⟩ ?_
      exact nx _ _ _ (by omega) (by omega) hJ3
    · refine g_aload_n (q := 775) (i := 3) hC dL_law_774 rfl rfl rfl ?_
      refine g_iconst (q := 776) (v := nI 0) hC dL_law_775 rfl rfl ?_
      refine g_lald (q := 777) hC dL_law_776 ho3 (vp_in_nI (by omega) (by omega)) rfl rfl ?_
      refine g_iload (q := 779) (i := 6) hC dL_law_777 rfl rfl ?_
      refine g_i2l (q := 780) hC dL_law_779 rfl rfl ?_
      refine g_lcmp (q := 781) hC dL_law_780 rfl rfl ?_
      refine g_if_eq (tgt := 786) (q := 784) hC dL_law_781 (by decide) rfl (fun c_781 => ?_) (fun c_781 => ?_)
      · refine g_goto (tgt := 1462) hC dL_law_786 (by decide) ?_
        refine g_sub (lv0 := [(4, .int (nI (6 * n))), (3, .ref o), (2, .ref m), (1, .ref (A 0 0)), (0, .ref b)]) ⟨rfl, rfl, rfl, rfl, rfl, trivial⟩ ?_
        exact nx _ _ _ (by omega) (by omega) hJ3
      · have e9 : lg_cmp (f2 (nI 0).toNatClampNeg) r6.toInt64 = 0 := (lg_cmp_eq _ _).mpr (by rw [nI_clamp (by decide), e6]; exact ja hmt g1 g2 (by assumption) hcd)
        exact absurd e9 (by assumption)
  · exact absurd hjr (by assumption)
set_option maxRecDepth 100000 in
set_option maxHeartbeats 4000000 in
theorem law_c13 {X : gX} {M : gMT} {Q : State → Prop} {b L : Nat} {sc : Nat → Int32} {a0 m o n : Nat} {σ : gS} (hx : LC X M b L sc) (hn : 6 * n + 6 ≤ L) (nx : nxt X M Q b a0 m o n) (hJ : Jn M a0 m o n σ) : G X M 7 Q (500 + 900 * n) (5000 + 13400 * n) σ 789 [(4, .int (nI (6 * n))), (3, .ref o), (2, .ref m), (1, .ref a0), (0, .ref b)] [] := by
  obtain ⟨hC, hX, hbl, hbA, hL⟩ := hx
  obtain ⟨A, ρ, W, ad, rf, S, f, hA, hr, h0, ho, hRel, hz⟩ := hJ
  subst hA
  have hW := hRel.1.1
  have hE := hRel.1.2.1
  have hB := hRel.SB
  have hSL := hRel.SL
  have hN := hRel.2.2.2.2.2.2.2.2
  have hn6 : n ≤ 600 := by omega
  have hmt : Mt (cdf 2 1 9) n ρ (lo_settle ρ (sc (6 * n + 1)) (sc (6 * n + 2))) (mo_settle S (sc (6 * n + 1)) (sc (6 * n + 2))) := m_settle hRel hn6 (by decide) (by decide) (sc (6 * n + 1)) (sc (6 * n + 2))
  have hcd : ∀ E, cdf 2 1 9 E ≠ 0 := cdf_n (by decide) (by decide) (by decide)
  have hkz : kz S (mo_settle S (sc (6 * n + 1)) (sc (6 * n + 2))).2.2 := z_settle hB (sc (6 * n + 1)) (sc (6 * n + 2))
  refine g_aload_n (q := 790) (i := 1) hC dL_law_789 rfl rfl rfl ?_
  refine g_aload_n (q := 791) (i := 0) hC dL_law_790 rfl rfl rfl ?_
  refine g_iload (q := 793) (i := 4) hC dL_law_791 rfl rfl ?_
  refine g_iconst (q := 794) (v := nI 1) hC dL_law_793 rfl rfl ?_
  refine g_iadd (q := 795) (v := (nI ((6 * n) + 1))) hC dL_law_794 (nI_add _ _) rfl ?_
  refine g_sld (q := 796) (v := sc (((6 * n) + 1))) hC hX hbl hbA dL_law_795 (vp_in_nI (by omega) (by omega)) (congrArg sc (nI_clamp (by omega))) rfl ?_
  refine g_aload_n (q := 797) (i := 0) hC dL_law_796 rfl rfl rfl ?_
  refine g_iload (q := 799) (i := 4) hC dL_law_797 rfl rfl ?_
  refine g_iconst (q := 800) (v := nI 2) hC dL_law_799 rfl rfl ?_
  refine g_iadd (q := 801) (v := (nI ((6 * n) + 2))) hC dL_law_800 (nI_add _ _) rfl ?_
  refine g_sld (q := 802) (v := sc (((6 * n) + 2))) hC hX hbl hbA dL_law_801 (vp_in_nI (by omega) (by omega)) (congrArg sc (nI_clamp (by omega))) rfl ?_
  refine g_aload_n (q := 803) (i := 3) hC dL_law_802 rfl rfl rfl ?_
  refine g_ci (q := 806) (g_runSH hC ks_L_136 md_L_settle (c_W_settle _ hC.fl M _ A ρ W (sc (6 * n + 1)) (sc (6 * n + 2)) o f hr hW ho) dL_law_803 (by decide) (by decide) (by omega) (by omega) rfl rfl (Nat.le_of_ble_eq_true rfl)) rfl (fun r5 σ2 hw => ?_) (fun _ _ h9 => False.elim h9)
  obtain ⟨A2, W2, f2, hr2, hA2, h02, ho2, g1, g2⟩ := jE hr rfl h0 ho hw
  refine g_istore (q := 808) (i := 5) hC dL_law_806 (by decide) rfl ?_
  refine g_aload_n (q := 809) (i := 2) hC dL_law_808 rfl rfl rfl ?_
  refine g_aload_n (q := 810) (i := 0) hC dL_law_809 rfl rfl rfl ?_
  refine g_iload (q := 812) (i := 4) hC dL_law_810 rfl rfl ?_
  refine g_iconst (q := 813) (v := nI 1) hC dL_law_812 rfl rfl ?_
  refine g_iadd (q := 814) (v := (nI ((6 * n) + 1))) hC dL_law_813 (nI_add _ _) rfl ?_
  refine g_sld (q := 815) (v := sc (((6 * n) + 1))) hC hX hbl hbA dL_law_814 (vp_in_nI (by omega) (by omega)) (congrArg sc (nI_clamp (by omega))) rfl ?_
  refine g_aload_n (q := 816) (i := 0) hC dL_law_815 rfl rfl rfl ?_
  refine g_iload (q := 818) (i := 4) hC dL_law_816 rfl rfl ?_
  refine g_iconst (q := 819) (v := nI 2) hC dL_law_818 rfl rfl ?_
  refine g_iadd (q := 820) (v := (nI ((6 * n) + 2))) hC dL_law_819 (nI_add _ _) rfl ?_
  refine g_sld (q := 821) (v := sc (((6 * n) + 2))) hC hX hbl hbA dL_law_820 (vp_in_nI (by omega) (by omega)) (congrArg sc (nI_clamp (by omega))) rfl ?_
  refine g_ci (q := 824) (g_runV hC kv_L_138 md_X5_settle (c_M_settle _ hC.fl M _ (rest0 σ2 m ad) m ad rf (sc (6 * n + 1)) (sc (6 * n + 2)) S h02.mod hB) (ci := 5) rfl h02.1 dL_law_821 (by decide) (by decide) (by omega) (by omega) rfl rfl (Nat.le_of_ble_eq_true rfl)) rfl (fun r6 σ3 ⟨e6, hM⟩ => ?_) (fun _ _ h9 => False.elim h9)
  obtain ⟨hJ3, ho3⟩ := jF hmt hz hkz hr2 hA2 h02 ho2 hM
  refine g_istore (q := 826) (i := 6) hC dL_law_824 (by decide) rfl ?_
  refine g_aload_n (q := 827) (i := 2) hC dL_law_826 rfl rfl rfl ?_
  refine g_ci (q := 830) (g_runV hC kv_L_91 md_X5_thrown (c_M_thrown _ hC.fl M _ _ m ad _ _ hM) (ci := 5) rfl hM.1 dL_law_827 (by decide) (by decide) (by omega) (by omega) rfl rfl (Nat.le_of_ble_eq_true rfl)) rfl (fun r7 σ3 ⟨e7, e8⟩ => ?_) (fun _ _ h9 => False.elim h9)
  subst e8
  have hjr := e7.trans (jr hmt (fun z => (g1 z).1) g2)
  refine g_iload (q := 832) (i := 5) hC dL_law_830 rfl rfl ?_
  refine g_icmp_eq (tgt := 837) (q := 835) hC dL_law_832 (by decide) rfl (fun c_832 => ?_) (fun c_832 => ?_)
  · refine g_iload (q := 839) (i := 5) hC dL_law_837 rfl rfl ?_
    refine g_if_ne (tgt := 854) (q := 842) hC dL_law_839 (by decide) rfl (fun c_839 => ?_) (fun c_839 => ?_)
    · refine g_goto (tgt := 1462) hC dL_law_854 (by decide) ?_
      refine g_sub (lv0 := [(4, .int (nI (6 * n))), (3, .ref o), (2, .ref m), (1, .ref (A 0 0)), (0, .ref b)]) ⟨rfl, rfl, rfl, rfl, rfl, trivial⟩ ?_
      exact nx _ _ _ (by omega) (by omega) hJ3
    · refine g_aload_n (q := 843) (i := 3) hC dL_law_842 rfl rfl rfl ?_
      refine g_iconst (q := 844) (v := nI 0) hC dL_law_843 rfl rfl ?_
      refine g_lald (q := 845) hC dL_law_844 ho3 (vp_in_nI (by omega) (by omega)) rfl rfl ?_
      refine g_iload (q := 847) (i := 6) hC dL_law_845 rfl rfl ?_
      refine g_i2l (q := 848) hC dL_law_847 rfl rfl ?_
      refine g_lcmp (q := 849) hC dL_law_848 rfl rfl ?_
      refine g_if_eq (tgt := 854) (q := 852) hC dL_law_849 (by decide) rfl (fun c_849 => ?_) (fun c_849 => ?_)
      · refine g_goto (tgt := 1462) hC dL_law_854 (by decide) ?_
        refine g_sub (lv0 := [(4, .int (nI (6 * n))), (3, .ref o), (2, .ref m), (1, .ref (A 0 0)), (0, .ref b)]) ⟨rfl, rfl, rfl, rfl, rfl, trivial⟩ ?_
        exact nx _ _ _ (by omega) (by omega) hJ3
      · have e9 : lg_cmp (f2 (nI 0).toNatClampNeg) r6.toInt64 = 0 := (lg_cmp_eq _ _).mpr (by rw [nI_clamp (by decide), e6]; exact ja hmt g1 g2 (by assumption) hcd)
        exact absurd e9 (by assumption)
  · exact absurd hjr (by assumption)
set_option maxRecDepth 100000 in
set_option maxHeartbeats 4000000 in
theorem law_c14 {X : gX} {M : gMT} {Q : State → Prop} {b L : Nat} {sc : Nat → Int32} {a0 m o n : Nat} {σ : gS} (hx : LC X M b L sc) (hn : 6 * n + 6 ≤ L) (nx : nxt X M Q b a0 m o n) (hJ : Jn M a0 m o n σ) : G X M 7 Q (500 + 900 * n) (5000 + 13400 * n) σ 857 [(4, .int (nI (6 * n))), (3, .ref o), (2, .ref m), (1, .ref a0), (0, .ref b)] [] := by
  obtain ⟨hC, hX, hbl, hbA, hL⟩ := hx
  obtain ⟨A, ρ, W, ad, rf, S, f, hA, hr, h0, ho, hRel, hz⟩ := hJ
  subst hA
  have hW := hRel.1.1
  have hE := hRel.1.2.1
  have hB := hRel.SB
  have hSL := hRel.SL
  have hN := hRel.2.2.2.2.2.2.2.2
  have hn6 : n ≤ 600 := by omega
  have hmt : Mt (cdf 2 1 9) n ρ (lo_setLimits ρ (sc (6 * n + 1)) (sc (6 * n + 2)) (sc (6 * n + 3)) (sc (6 * n + 4)) (sc (6 * n + 5))) (mo_setLimits S (sc (6 * n + 1)) (sc (6 * n + 2)) (sc (6 * n + 3)) (sc (6 * n + 4)) (sc (6 * n + 5))) := m_setLimits hRel (by decide) (by decide) (sc (6 * n + 1)) (sc (6 * n + 2)) (sc (6 * n + 3)) (sc (6 * n + 4)) (sc (6 * n + 5))
  have hcd : ∀ E, cdf 2 1 9 E ≠ 0 := cdf_n (by decide) (by decide) (by decide)
  have hkz : kz S (mo_setLimits S (sc (6 * n + 1)) (sc (6 * n + 2)) (sc (6 * n + 3)) (sc (6 * n + 4)) (sc (6 * n + 5))).2.2 := z_setLimits (sc (6 * n + 1)) (sc (6 * n + 2)) (sc (6 * n + 3)) (sc (6 * n + 4)) (sc (6 * n + 5))
  refine g_aload_n (q := 858) (i := 1) hC dL_law_857 rfl rfl rfl ?_
  refine g_aload_n (q := 859) (i := 0) hC dL_law_858 rfl rfl rfl ?_
  refine g_iload (q := 861) (i := 4) hC dL_law_859 rfl rfl ?_
  refine g_iconst (q := 862) (v := nI 1) hC dL_law_861 rfl rfl ?_
  refine g_iadd (q := 863) (v := (nI ((6 * n) + 1))) hC dL_law_862 (nI_add _ _) rfl ?_
  refine g_sld (q := 864) (v := sc (((6 * n) + 1))) hC hX hbl hbA dL_law_863 (vp_in_nI (by omega) (by omega)) (congrArg sc (nI_clamp (by omega))) rfl ?_
  refine g_aload_n (q := 865) (i := 0) hC dL_law_864 rfl rfl rfl ?_
  refine g_iload (q := 867) (i := 4) hC dL_law_865 rfl rfl ?_
  refine g_iconst (q := 868) (v := nI 2) hC dL_law_867 rfl rfl ?_
  refine g_iadd (q := 869) (v := (nI ((6 * n) + 2))) hC dL_law_868 (nI_add _ _) rfl ?_
  refine g_sld (q := 870) (v := sc (((6 * n) + 2))) hC hX hbl hbA dL_law_869 (vp_in_nI (by omega) (by omega)) (congrArg sc (nI_clamp (by omega))) rfl ?_
  refine g_aload_n (q := 871) (i := 0) hC dL_law_870 rfl rfl rfl ?_
  refine g_iload (q := 873) (i := 4) hC dL_law_871 rfl rfl ?_
  refine g_iconst (q := 874) (v := nI 3) hC dL_law_873 rfl rfl ?_
  refine g_iadd (q := 875) (v := (nI ((6 * n) + 3))) hC dL_law_874 (nI_add _ _) rfl ?_
  refine g_sld (q := 876) (v := sc (((6 * n) + 3))) hC hX hbl hbA dL_law_875 (vp_in_nI (by omega) (by omega)) (congrArg sc (nI_clamp (by omega))) rfl ?_
  refine g_aload_n (q := 877) (i := 0) hC dL_law_876 rfl rfl rfl ?_
  refine g_iload (q := 879) (i := 4) hC dL_law_877 rfl rfl ?_
  refine g_iconst (q := 880) (v := nI 4) hC dL_law_879 rfl rfl ?_
  refine g_iadd (q := 881) (v := (nI ((6 * n) + 4))) hC dL_law_880 (nI_add _ _) rfl ?_
  refine g_sld (q := 882) (v := sc (((6 * n) + 4))) hC hX hbl hbA dL_law_881 (vp_in_nI (by omega) (by omega)) (congrArg sc (nI_clamp (by omega))) rfl ?_
  refine g_aload_n (q := 883) (i := 0) hC dL_law_882 rfl rfl rfl ?_
  refine g_iload (q := 885) (i := 4) hC dL_law_883 rfl rfl ?_
  refine g_iconst (q := 886) (v := nI 5) hC dL_law_885 rfl rfl ?_
  refine g_iadd (q := 887) (v := (nI ((6 * n) + 5))) hC dL_law_886 (nI_add _ _) rfl ?_
  refine g_sld (q := 888) (v := sc (((6 * n) + 5))) hC hX hbl hbA dL_law_887 (vp_in_nI (by omega) (by omega)) (congrArg sc (nI_clamp (by omega))) rfl ?_
  refine g_ci (q := 891) (g_runSH hC ks_L_139 md_L_setLimits (c_W_setLimits _ hC.fl M _ A ρ W (sc (6 * n + 1)) (sc (6 * n + 2)) (sc (6 * n + 3)) (sc (6 * n + 4)) (sc (6 * n + 5)) hr hW) dL_law_888 (by decide) (by decide) (by omega) (by omega) rfl rfl (Nat.le_of_ble_eq_true rfl)) rfl (fun r5 σ2 hw => ?_) (fun _ _ h9 => False.elim h9)
  obtain ⟨A2, W2, hr2, hA2, h02, ho2, g1, g2⟩ := jS hr rfl h0 ho hw
  refine g_istore (q := 893) (i := 5) hC dL_law_891 (by decide) rfl ?_
  refine g_aload_n (q := 894) (i := 2) hC dL_law_893 rfl rfl rfl ?_
  refine g_aload_n (q := 895) (i := 0) hC dL_law_894 rfl rfl rfl ?_
  refine g_iload (q := 897) (i := 4) hC dL_law_895 rfl rfl ?_
  refine g_iconst (q := 898) (v := nI 1) hC dL_law_897 rfl rfl ?_
  refine g_iadd (q := 899) (v := (nI ((6 * n) + 1))) hC dL_law_898 (nI_add _ _) rfl ?_
  refine g_sld (q := 900) (v := sc (((6 * n) + 1))) hC hX hbl hbA dL_law_899 (vp_in_nI (by omega) (by omega)) (congrArg sc (nI_clamp (by omega))) rfl ?_
  refine g_aload_n (q := 901) (i := 0) hC dL_law_900 rfl rfl rfl ?_
  refine g_iload (q := 903) (i := 4) hC dL_law_901 rfl rfl ?_
  refine g_iconst (q := 904) (v := nI 2) hC dL_law_903 rfl rfl ?_
  refine g_iadd (q := 905) (v := (nI ((6 * n) + 2))) hC dL_law_904 (nI_add _ _) rfl ?_
  refine g_sld (q := 906) (v := sc (((6 * n) + 2))) hC hX hbl hbA dL_law_905 (vp_in_nI (by omega) (by omega)) (congrArg sc (nI_clamp (by omega))) rfl ?_
  refine g_aload_n (q := 907) (i := 0) hC dL_law_906 rfl rfl rfl ?_
  refine g_iload (q := 909) (i := 4) hC dL_law_907 rfl rfl ?_
  refine g_iconst (q := 910) (v := nI 3) hC dL_law_909 rfl rfl ?_
  refine g_iadd (q := 911) (v := (nI ((6 * n) + 3))) hC dL_law_910 (nI_add _ _) rfl ?_
  refine g_sld (q := 912) (v := sc (((6 * n) + 3))) hC hX hbl hbA dL_law_911 (vp_in_nI (by omega) (by omega)) (congrArg sc (nI_clamp (by omega))) rfl ?_
  refine g_aload_n (q := 913) (i := 0) hC dL_law_912 rfl rfl rfl ?_
  refine g_iload (q := 915) (i := 4) hC dL_law_913 rfl rfl ?_
  refine g_iconst (q := 916) (v := nI 4) hC dL_law_915 rfl rfl ?_
  refine g_iadd (q := 917) (v := (nI ((6 * n) + 4))) hC dL_law_916 (nI_add _ _) rfl ?_
  refine g_sld (q := 918) (v := sc (((6 * n) + 4))) hC hX hbl hbA dL_law_917 (vp_in_nI (by omega) (by omega)) (congrArg sc (nI_clamp (by omega))) rfl ?_
  refine g_aload_n (q := 919) (i := 0) hC dL_law_918 rfl rfl rfl ?_
  refine g_iload (q := 921) (i := 4) hC dL_law_919 rfl rfl ?_
  refine g_iconst (q := 922) (v := nI 5) hC dL_law_921 rfl rfl ?_
  refine g_iadd (q := 923) (v := (nI ((6 * n) + 5))) hC dL_law_922 (nI_add _ _) rfl ?_
  refine g_sld (q := 924) (v := sc (((6 * n) + 5))) hC hX hbl hbA dL_law_923 (vp_in_nI (by omega) (by omega)) (congrArg sc (nI_clamp (by omega))) rfl ?_
  refine g_cv (q := 927) (g_runV hC kv_L_142 md_X5_setLimits (c_M_setLimits _ hC.fl M _ (rest0 σ2 m ad) m ad rf (sc (6 * n + 1)) (sc (6 * n + 2)) (sc (6 * n + 3)) (sc (6 * n + 4)) (sc (6 * n + 5)) S h02.mod hB) (ci := 5) rfl h02.1 dL_law_924 (by decide) (by decide) (by omega) (by omega) rfl rfl (Nat.le_of_ble_eq_true rfl)) rfl (fun σ3 hM => ?_) (fun _ _ h9 => False.elim h9)
  obtain ⟨hJ3, ho3⟩ := jF hmt hz hkz hr2 hA2 h02 ho2 hM
  refine g_aload_n (q := 928) (i := 2) hC dL_law_927 rfl rfl rfl ?_
  refine g_ci (q := 931) (g_runV hC kv_L_91 md_X5_thrown (c_M_thrown _ hC.fl M _ _ m ad _ _ hM) (ci := 5) rfl hM.1 dL_law_928 (by decide) (by decide) (by omega) (by omega) rfl rfl (Nat.le_of_ble_eq_true rfl)) rfl (fun r7 σ3 ⟨e7, e8⟩ => ?_) (fun _ _ h9 => False.elim h9)
  subst e8
  have hjr := e7.trans (jr hmt g1 g2)
  refine g_iload (q := 933) (i := 5) hC dL_law_931 rfl rfl ?_
  refine g_icmp_eq (tgt := 938) (q := 936) hC dL_law_933 (by decide) rfl (fun c_933 => ?_) (fun c_933 => ?_)
  · refine g_goto (tgt := 1462) hC dL_law_938 (by decide) ?_
    refine g_sub (lv0 := [(4, .int (nI (6 * n))), (3, .ref o), (2, .ref m), (1, .ref (A 0 0)), (0, .ref b)]) ⟨rfl, rfl, rfl, rfl, rfl, trivial⟩ ?_
    exact nx _ _ _ (by omega) (by omega) hJ3
  · exact absurd hjr c_933
set_option maxRecDepth 100000 in
set_option maxHeartbeats 4000000 in
theorem law_c15 {X : gX} {M : gMT} {Q : State → Prop} {b L : Nat} {sc : Nat → Int32} {a0 m o n : Nat} {σ : gS} (hx : LC X M b L sc) (hn : 6 * n + 6 ≤ L) (nx : nxt X M Q b a0 m o n) (hJ : Jn M a0 m o n σ) : G X M 7 Q (500 + 900 * n) (5000 + 13400 * n) σ 941 [(4, .int (nI (6 * n))), (3, .ref o), (2, .ref m), (1, .ref a0), (0, .ref b)] [] := by
  obtain ⟨hC, hX, hbl, hbA, hL⟩ := hx
  obtain ⟨A, ρ, W, ad, rf, S, f, hA, hr, h0, ho, hRel, hz⟩ := hJ
  subst hA
  have hW := hRel.1.1
  have hE := hRel.1.2.1
  have hB := hRel.SB
  have hSL := hRel.SL
  have hN := hRel.2.2.2.2.2.2.2.2
  have hn6 : n ≤ 600 := by omega
  have hmt : Mt (cdf 1 9 2) n ρ (lo_pass ρ (sc (6 * n + 1))) (mo_pass S (sc (6 * n + 1))) := m_pass hRel (by decide) (by decide) (sc (6 * n + 1))
  have hcd : ∀ E, cdf 1 9 2 E ≠ 0 := cdf_n (by decide) (by decide) (by decide)
  have hkz : kz S (mo_pass S (sc (6 * n + 1))).2.2 := z_pass (sc (6 * n + 1))
  refine g_aload_n (q := 942) (i := 1) hC dL_law_941 rfl rfl rfl ?_
  refine g_aload_n (q := 943) (i := 0) hC dL_law_942 rfl rfl rfl ?_
  refine g_iload (q := 945) (i := 4) hC dL_law_943 rfl rfl ?_
  refine g_iconst (q := 946) (v := nI 1) hC dL_law_945 rfl rfl ?_
  refine g_iadd (q := 947) (v := (nI ((6 * n) + 1))) hC dL_law_946 (nI_add _ _) rfl ?_
  refine g_sld (q := 948) (v := sc (((6 * n) + 1))) hC hX hbl hbA dL_law_947 (vp_in_nI (by omega) (by omega)) (congrArg sc (nI_clamp (by omega))) rfl ?_
  refine g_aload_n (q := 949) (i := 3) hC dL_law_948 rfl rfl rfl ?_
  refine g_ci (q := 952) (g_runSH hC ks_L_143 md_L_pass (c_W_pass _ hC.fl M _ A ρ W (sc (6 * n + 1)) o f hr hW ho) dL_law_949 (by decide) (by decide) (by omega) (by omega) rfl rfl (Nat.le_of_ble_eq_true rfl)) rfl (fun r5 σ2 hw => ?_) (fun _ _ h9 => False.elim h9)
  obtain ⟨A2, W2, f2, hr2, hA2, h02, ho2, g1, g2⟩ := jE hr rfl h0 ho hw
  refine g_istore (q := 954) (i := 5) hC dL_law_952 (by decide) rfl ?_
  refine g_aload_n (q := 955) (i := 2) hC dL_law_954 rfl rfl rfl ?_
  refine g_aload_n (q := 956) (i := 0) hC dL_law_955 rfl rfl rfl ?_
  refine g_iload (q := 958) (i := 4) hC dL_law_956 rfl rfl ?_
  refine g_iconst (q := 959) (v := nI 1) hC dL_law_958 rfl rfl ?_
  refine g_iadd (q := 960) (v := (nI ((6 * n) + 1))) hC dL_law_959 (nI_add _ _) rfl ?_
  refine g_sld (q := 961) (v := sc (((6 * n) + 1))) hC hX hbl hbA dL_law_960 (vp_in_nI (by omega) (by omega)) (congrArg sc (nI_clamp (by omega))) rfl ?_
  refine g_ci (q := 964) (g_runV hC kv_L_145 md_X5_pass (c_M_pass _ hC.fl M _ (rest0 σ2 m ad) m ad rf (sc (6 * n + 1)) S h02.mod) (ci := 5) rfl h02.1 dL_law_961 (by decide) (by decide) (by omega) (by omega) rfl rfl (Nat.le_of_ble_eq_true rfl)) rfl (fun r6 σ3 ⟨e6, hM⟩ => ?_) (fun _ _ h9 => False.elim h9)
  obtain ⟨hJ3, ho3⟩ := jF hmt hz hkz hr2 hA2 h02 ho2 hM
  refine g_istore (q := 966) (i := 6) hC dL_law_964 (by decide) rfl ?_
  refine g_aload_n (q := 967) (i := 2) hC dL_law_966 rfl rfl rfl ?_
  refine g_ci (q := 970) (g_runV hC kv_L_91 md_X5_thrown (c_M_thrown _ hC.fl M _ _ m ad _ _ hM) (ci := 5) rfl hM.1 dL_law_967 (by decide) (by decide) (by omega) (by omega) rfl rfl (Nat.le_of_ble_eq_true rfl)) rfl (fun r7 σ3 ⟨e7, e8⟩ => ?_) (fun _ _ h9 => False.elim h9)
  subst e8
  have hjr := e7.trans (jr hmt (fun z => (g1 z).1) g2)
  refine g_iload (q := 972) (i := 5) hC dL_law_970 rfl rfl ?_
  refine g_icmp_eq (tgt := 977) (q := 975) hC dL_law_972 (by decide) rfl (fun c_972 => ?_) (fun c_972 => ?_)
  · refine g_iload (q := 979) (i := 5) hC dL_law_977 rfl rfl ?_
    refine g_if_ne (tgt := 994) (q := 982) hC dL_law_979 (by decide) rfl (fun c_979 => ?_) (fun c_979 => ?_)
    · refine g_goto (tgt := 1462) hC dL_law_994 (by decide) ?_
      refine g_sub (lv0 := [(4, .int (nI (6 * n))), (3, .ref o), (2, .ref m), (1, .ref (A 0 0)), (0, .ref b)]) ⟨rfl, rfl, rfl, rfl, rfl, trivial⟩ ?_
      exact nx _ _ _ (by omega) (by omega) hJ3
    · refine g_aload_n (q := 983) (i := 3) hC dL_law_982 rfl rfl rfl ?_
      refine g_iconst (q := 984) (v := nI 0) hC dL_law_983 rfl rfl ?_
      refine g_lald (q := 985) hC dL_law_984 ho3 (vp_in_nI (by omega) (by omega)) rfl rfl ?_
      refine g_iload (q := 987) (i := 6) hC dL_law_985 rfl rfl ?_
      refine g_i2l (q := 988) hC dL_law_987 rfl rfl ?_
      refine g_lcmp (q := 989) hC dL_law_988 rfl rfl ?_
      refine g_if_eq (tgt := 994) (q := 992) hC dL_law_989 (by decide) rfl (fun c_989 => ?_) (fun c_989 => ?_)
      · refine g_goto (tgt := 1462) hC dL_law_994 (by decide) ?_
        refine g_sub (lv0 := [(4, .int (nI (6 * n))), (3, .ref o), (2, .ref m), (1, .ref (A 0 0)), (0, .ref b)]) ⟨rfl, rfl, rfl, rfl, rfl, trivial⟩ ?_
        exact nx _ _ _ (by omega) (by omega) hJ3
      · have e9 : lg_cmp (f2 (nI 0).toNatClampNeg) r6.toInt64 = 0 := (lg_cmp_eq _ _).mpr (by rw [nI_clamp (by decide), e6]; exact ja hmt g1 g2 (by assumption) hcd)
        exact absurd e9 (by assumption)
  · exact absurd hjr (by assumption)
set_option maxRecDepth 100000 in
set_option maxHeartbeats 4000000 in
theorem law_c16 {X : gX} {M : gMT} {Q : State → Prop} {b L : Nat} {sc : Nat → Int32} {a0 m o n : Nat} {σ : gS} (hx : LC X M b L sc) (hn : 6 * n + 6 ≤ L) (nx : nxt X M Q b a0 m o n) (hJ : Jn M a0 m o n σ) : G X M 7 Q (500 + 900 * n) (5000 + 13400 * n) σ 997 [(4, .int (nI (6 * n))), (3, .ref o), (2, .ref m), (1, .ref a0), (0, .ref b)] [] := by
  obtain ⟨hC, hX, hbl, hbA, hL⟩ := hx
  obtain ⟨A, ρ, W, ad, rf, S, f, hA, hr, h0, ho, hRel, hz⟩ := hJ
  subst hA
  have hW := hRel.1.1
  have hE := hRel.1.2.1
  have hB := hRel.SB
  have hSL := hRel.SL
  have hN := hRel.2.2.2.2.2.2.2.2
  have hn6 : n ≤ 600 := by omega
  have hmt : Mt (cdf 9 1 9) n ρ (lo_used ρ (sc (6 * n + 1)) (sc (6 * n + 2))) (mo_used S (sc (6 * n + 1)) (sc (6 * n + 2))) := m_used hRel (by decide) (sc (6 * n + 1)) (sc (6 * n + 2))
  have hcd : ∀ E, cdf 9 1 9 E ≠ 0 := cdf_n (by decide) (by decide) (by decide)
  have hkz : kz S (mo_used S (sc (6 * n + 1)) (sc (6 * n + 2))).2.2 := z_used (sc (6 * n + 1)) (sc (6 * n + 2))
  refine g_aload_n (q := 998) (i := 1) hC dL_law_997 rfl rfl rfl ?_
  refine g_aload_n (q := 999) (i := 0) hC dL_law_998 rfl rfl rfl ?_
  refine g_iload (q := 1001) (i := 4) hC dL_law_999 rfl rfl ?_
  refine g_iconst (q := 1002) (v := nI 1) hC dL_law_1001 rfl rfl ?_
  refine g_iadd (q := 1003) (v := (nI ((6 * n) + 1))) hC dL_law_1002 (nI_add _ _) rfl ?_
  refine g_sld (q := 1004) (v := sc (((6 * n) + 1))) hC hX hbl hbA dL_law_1003 (vp_in_nI (by omega) (by omega)) (congrArg sc (nI_clamp (by omega))) rfl ?_
  refine g_aload_n (q := 1005) (i := 0) hC dL_law_1004 rfl rfl rfl ?_
  refine g_iload (q := 1007) (i := 4) hC dL_law_1005 rfl rfl ?_
  refine g_iconst (q := 1008) (v := nI 2) hC dL_law_1007 rfl rfl ?_
  refine g_iadd (q := 1009) (v := (nI ((6 * n) + 2))) hC dL_law_1008 (nI_add _ _) rfl ?_
  refine g_sld (q := 1010) (v := sc (((6 * n) + 2))) hC hX hbl hbA dL_law_1009 (vp_in_nI (by omega) (by omega)) (congrArg sc (nI_clamp (by omega))) rfl ?_
  refine g_aload_n (q := 1011) (i := 3) hC dL_law_1010 rfl rfl rfl ?_
  refine g_ci (q := 1014) (g_runSH hC ks_L_146 md_L_used (c_W_used _ hC.fl M _ A ρ W (sc (6 * n + 1)) (sc (6 * n + 2)) o f hr hW ho) dL_law_1011 (by decide) (by decide) (by omega) (by omega) rfl rfl (Nat.le_of_ble_eq_true rfl)) rfl (fun r5 σ2 hw => ?_) (fun _ _ h9 => False.elim h9)
  obtain ⟨A2, W2, f2, hr2, hA2, h02, ho2, g1, g2⟩ := jE hr rfl h0 ho hw
  refine g_istore (q := 1016) (i := 5) hC dL_law_1014 (by decide) rfl ?_
  refine g_aload_n (q := 1017) (i := 2) hC dL_law_1016 rfl rfl rfl ?_
  refine g_aload_n (q := 1018) (i := 0) hC dL_law_1017 rfl rfl rfl ?_
  refine g_iload (q := 1020) (i := 4) hC dL_law_1018 rfl rfl ?_
  refine g_iconst (q := 1021) (v := nI 1) hC dL_law_1020 rfl rfl ?_
  refine g_iadd (q := 1022) (v := (nI ((6 * n) + 1))) hC dL_law_1021 (nI_add _ _) rfl ?_
  refine g_sld (q := 1023) (v := sc (((6 * n) + 1))) hC hX hbl hbA dL_law_1022 (vp_in_nI (by omega) (by omega)) (congrArg sc (nI_clamp (by omega))) rfl ?_
  refine g_aload_n (q := 1024) (i := 0) hC dL_law_1023 rfl rfl rfl ?_
  refine g_iload (q := 1026) (i := 4) hC dL_law_1024 rfl rfl ?_
  refine g_iconst (q := 1027) (v := nI 2) hC dL_law_1026 rfl rfl ?_
  refine g_iadd (q := 1028) (v := (nI ((6 * n) + 2))) hC dL_law_1027 (nI_add _ _) rfl ?_
  refine g_sld (q := 1029) (v := sc (((6 * n) + 2))) hC hX hbl hbA dL_law_1028 (vp_in_nI (by omega) (by omega)) (congrArg sc (nI_clamp (by omega))) rfl ?_
  refine g_ci (q := 1032) (g_runV hC kv_L_148 md_X5_used (c_M_used _ hC.fl M _ (rest0 σ2 m ad) m ad rf (sc (6 * n + 1)) (sc (6 * n + 2)) S h02.mod hB) (ci := 5) rfl h02.1 dL_law_1029 (by decide) (by decide) (by omega) (by omega) rfl rfl (Nat.le_of_ble_eq_true rfl)) rfl (fun r6 σ3 ⟨e6, hM⟩ => ?_) (fun _ _ h9 => False.elim h9)
  obtain ⟨hJ3, ho3⟩ := jF hmt hz hkz hr2 hA2 h02 ho2 hM
  refine g_istore (q := 1034) (i := 6) hC dL_law_1032 (by decide) rfl ?_
  refine g_aload_n (q := 1035) (i := 2) hC dL_law_1034 rfl rfl rfl ?_
  refine g_ci (q := 1038) (g_runV hC kv_L_91 md_X5_thrown (c_M_thrown _ hC.fl M _ _ m ad _ _ hM) (ci := 5) rfl hM.1 dL_law_1035 (by decide) (by decide) (by omega) (by omega) rfl rfl (Nat.le_of_ble_eq_true rfl)) rfl (fun r7 σ3 ⟨e7, e8⟩ => ?_) (fun _ _ h9 => False.elim h9)
  subst e8
  have hjr := e7.trans (jr hmt (fun z => (g1 z).1) g2)
  refine g_iload (q := 1040) (i := 5) hC dL_law_1038 rfl rfl ?_
  refine g_icmp_eq (tgt := 1045) (q := 1043) hC dL_law_1040 (by decide) rfl (fun c_1040 => ?_) (fun c_1040 => ?_)
  · refine g_iload (q := 1047) (i := 5) hC dL_law_1045 rfl rfl ?_
    refine g_if_ne (tgt := 1062) (q := 1050) hC dL_law_1047 (by decide) rfl (fun c_1047 => ?_) (fun c_1047 => ?_)
    · refine g_goto (tgt := 1462) hC dL_law_1062 (by decide) ?_
      refine g_sub (lv0 := [(4, .int (nI (6 * n))), (3, .ref o), (2, .ref m), (1, .ref (A 0 0)), (0, .ref b)]) ⟨rfl, rfl, rfl, rfl, rfl, trivial⟩ ?_
      exact nx _ _ _ (by omega) (by omega) hJ3
    · refine g_aload_n (q := 1051) (i := 3) hC dL_law_1050 rfl rfl rfl ?_
      refine g_iconst (q := 1052) (v := nI 0) hC dL_law_1051 rfl rfl ?_
      refine g_lald (q := 1053) hC dL_law_1052 ho3 (vp_in_nI (by omega) (by omega)) rfl rfl ?_
      refine g_iload (q := 1055) (i := 6) hC dL_law_1053 rfl rfl ?_
      refine g_i2l (q := 1056) hC dL_law_1055 rfl rfl ?_
      refine g_lcmp (q := 1057) hC dL_law_1056 rfl rfl ?_
      refine g_if_eq (tgt := 1062) (q := 1060) hC dL_law_1057 (by decide) rfl (fun c_1057 => ?_) (fun c_1057 => ?_)
      · refine g_goto (tgt := 1462) hC dL_law_1062 (by decide) ?_
        refine g_sub (lv0 := [(4, .int (nI (6 * n))), (3, .ref o), (2, .ref m), (1, .ref (A 0 0)), (0, .ref b)]) ⟨rfl, rfl, rfl, rfl, rfl, trivial⟩ ?_
        exact nx _ _ _ (by omega) (by omega) hJ3
      · have e9 : lg_cmp (f2 (nI 0).toNatClampNeg) r6.toInt64 = 0 := (lg_cmp_eq _ _).mpr (by rw [nI_clamp (by decide), e6]; exact ja hmt g1 g2 (by assumption) hcd)
        exact absurd e9 (by assumption)
  · exact absurd hjr (by assumption)
set_option maxRecDepth 100000 in
set_option maxHeartbeats 4000000 in
theorem law_c17 {X : gX} {M : gMT} {Q : State → Prop} {b L : Nat} {sc : Nat → Int32} {a0 m o n : Nat} {σ : gS} (hx : LC X M b L sc) (hn : 6 * n + 6 ≤ L) (nx : nxt X M Q b a0 m o n) (hJ : Jn M a0 m o n σ) : G X M 7 Q (500 + 900 * n) (5000 + 13400 * n) σ 1065 [(4, .int (nI (6 * n))), (3, .ref o), (2, .ref m), (1, .ref a0), (0, .ref b)] [] := by
  obtain ⟨hC, hX, hbl, hbA, hL⟩ := hx
  obtain ⟨A, ρ, W, ad, rf, S, f, hA, hr, h0, ho, hRel, hz⟩ := hJ
  subst hA
  have hW := hRel.1.1
  have hE := hRel.1.2.1
  have hB := hRel.SB
  have hSL := hRel.SL
  have hN := hRel.2.2.2.2.2.2.2.2
  have hn6 : n ≤ 600 := by omega
  have hmt : Mt (cdf 9 1 9) n ρ (lo_filesOf ρ (sc (6 * n + 1)) (sc (6 * n + 2))) (mo_filesOf S (sc (6 * n + 1)) (sc (6 * n + 2))) := m_filesOf hRel (by decide) (sc (6 * n + 1)) (sc (6 * n + 2))
  have hcd : ∀ E, cdf 9 1 9 E ≠ 0 := cdf_n (by decide) (by decide) (by decide)
  have hkz : kz S (mo_filesOf S (sc (6 * n + 1)) (sc (6 * n + 2))).2.2 := z_filesOf (sc (6 * n + 1)) (sc (6 * n + 2))
  refine g_aload_n (q := 1066) (i := 1) hC dL_law_1065 rfl rfl rfl ?_
  refine g_aload_n (q := 1067) (i := 0) hC dL_law_1066 rfl rfl rfl ?_
  refine g_iload (q := 1069) (i := 4) hC dL_law_1067 rfl rfl ?_
  refine g_iconst (q := 1070) (v := nI 1) hC dL_law_1069 rfl rfl ?_
  refine g_iadd (q := 1071) (v := (nI ((6 * n) + 1))) hC dL_law_1070 (nI_add _ _) rfl ?_
  refine g_sld (q := 1072) (v := sc (((6 * n) + 1))) hC hX hbl hbA dL_law_1071 (vp_in_nI (by omega) (by omega)) (congrArg sc (nI_clamp (by omega))) rfl ?_
  refine g_aload_n (q := 1073) (i := 0) hC dL_law_1072 rfl rfl rfl ?_
  refine g_iload (q := 1075) (i := 4) hC dL_law_1073 rfl rfl ?_
  refine g_iconst (q := 1076) (v := nI 2) hC dL_law_1075 rfl rfl ?_
  refine g_iadd (q := 1077) (v := (nI ((6 * n) + 2))) hC dL_law_1076 (nI_add _ _) rfl ?_
  refine g_sld (q := 1078) (v := sc (((6 * n) + 2))) hC hX hbl hbA dL_law_1077 (vp_in_nI (by omega) (by omega)) (congrArg sc (nI_clamp (by omega))) rfl ?_
  refine g_aload_n (q := 1079) (i := 3) hC dL_law_1078 rfl rfl rfl ?_
  refine g_ci (q := 1082) (g_runSH hC ks_L_149 md_L_filesOf (c_W_filesOf _ hC.fl M _ A ρ W (sc (6 * n + 1)) (sc (6 * n + 2)) o f hr hW ho) dL_law_1079 (by decide) (by decide) (by omega) (by omega) rfl rfl (Nat.le_of_ble_eq_true rfl)) rfl (fun r5 σ2 hw => ?_) (fun _ _ h9 => False.elim h9)
  obtain ⟨A2, W2, f2, hr2, hA2, h02, ho2, g1, g2⟩ := jE hr rfl h0 ho hw
  refine g_istore (q := 1084) (i := 5) hC dL_law_1082 (by decide) rfl ?_
  refine g_aload_n (q := 1085) (i := 2) hC dL_law_1084 rfl rfl rfl ?_
  refine g_aload_n (q := 1086) (i := 0) hC dL_law_1085 rfl rfl rfl ?_
  refine g_iload (q := 1088) (i := 4) hC dL_law_1086 rfl rfl ?_
  refine g_iconst (q := 1089) (v := nI 1) hC dL_law_1088 rfl rfl ?_
  refine g_iadd (q := 1090) (v := (nI ((6 * n) + 1))) hC dL_law_1089 (nI_add _ _) rfl ?_
  refine g_sld (q := 1091) (v := sc (((6 * n) + 1))) hC hX hbl hbA dL_law_1090 (vp_in_nI (by omega) (by omega)) (congrArg sc (nI_clamp (by omega))) rfl ?_
  refine g_aload_n (q := 1092) (i := 0) hC dL_law_1091 rfl rfl rfl ?_
  refine g_iload (q := 1094) (i := 4) hC dL_law_1092 rfl rfl ?_
  refine g_iconst (q := 1095) (v := nI 2) hC dL_law_1094 rfl rfl ?_
  refine g_iadd (q := 1096) (v := (nI ((6 * n) + 2))) hC dL_law_1095 (nI_add _ _) rfl ?_
  refine g_sld (q := 1097) (v := sc (((6 * n) + 2))) hC hX hbl hbA dL_law_1096 (vp_in_nI (by omega) (by omega)) (congrArg sc (nI_clamp (by omega))) rfl ?_
  refine g_ci (q := 1100) (g_runV hC kv_L_151 md_X5_filesOf (c_M_filesOf _ hC.fl M _ (rest0 σ2 m ad) m ad rf (sc (6 * n + 1)) (sc (6 * n + 2)) S h02.mod hB) (ci := 5) rfl h02.1 dL_law_1097 (by decide) (by decide) (by omega) (by omega) rfl rfl (Nat.le_of_ble_eq_true rfl)) rfl (fun r6 σ3 ⟨e6, hM⟩ => ?_) (fun _ _ h9 => False.elim h9)
  obtain ⟨hJ3, ho3⟩ := jF hmt hz hkz hr2 hA2 h02 ho2 hM
  refine g_istore (q := 1102) (i := 6) hC dL_law_1100 (by decide) rfl ?_
  refine g_aload_n (q := 1103) (i := 2) hC dL_law_1102 rfl rfl rfl ?_
  refine g_ci (q := 1106) (g_runV hC kv_L_91 md_X5_thrown (c_M_thrown _ hC.fl M _ _ m ad _ _ hM) (ci := 5) rfl hM.1 dL_law_1103 (by decide) (by decide) (by omega) (by omega) rfl rfl (Nat.le_of_ble_eq_true rfl)) rfl (fun r7 σ3 ⟨e7, e8⟩ => ?_) (fun _ _ h9 => False.elim h9)
  subst e8
  have hjr := e7.trans (jr hmt (fun z => (g1 z).1) g2)
  refine g_iload (q := 1108) (i := 5) hC dL_law_1106 rfl rfl ?_
  refine g_icmp_eq (tgt := 1113) (q := 1111) hC dL_law_1108 (by decide) rfl (fun c_1108 => ?_) (fun c_1108 => ?_)
  · refine g_iload (q := 1115) (i := 5) hC dL_law_1113 rfl rfl ?_
    refine g_if_ne (tgt := 1130) (q := 1118) hC dL_law_1115 (by decide) rfl (fun c_1115 => ?_) (fun c_1115 => ?_)
    · refine g_goto (tgt := 1462) hC dL_law_1130 (by decide) ?_
      refine g_sub (lv0 := [(4, .int (nI (6 * n))), (3, .ref o), (2, .ref m), (1, .ref (A 0 0)), (0, .ref b)]) ⟨rfl, rfl, rfl, rfl, rfl, trivial⟩ ?_
      exact nx _ _ _ (by omega) (by omega) hJ3
    · refine g_aload_n (q := 1119) (i := 3) hC dL_law_1118 rfl rfl rfl ?_
      refine g_iconst (q := 1120) (v := nI 0) hC dL_law_1119 rfl rfl ?_
      refine g_lald (q := 1121) hC dL_law_1120 ho3 (vp_in_nI (by omega) (by omega)) rfl rfl ?_
      refine g_iload (q := 1123) (i := 6) hC dL_law_1121 rfl rfl ?_
      refine g_i2l (q := 1124) hC dL_law_1123 rfl rfl ?_
      refine g_lcmp (q := 1125) hC dL_law_1124 rfl rfl ?_
      refine g_if_eq (tgt := 1130) (q := 1128) hC dL_law_1125 (by decide) rfl (fun c_1125 => ?_) (fun c_1125 => ?_)
      · refine g_goto (tgt := 1462) hC dL_law_1130 (by decide) ?_
        refine g_sub (lv0 := [(4, .int (nI (6 * n))), (3, .ref o), (2, .ref m), (1, .ref (A 0 0)), (0, .ref b)]) ⟨rfl, rfl, rfl, rfl, rfl, trivial⟩ ?_
        exact nx _ _ _ (by omega) (by omega) hJ3
      · have e9 : lg_cmp (f2 (nI 0).toNatClampNeg) r6.toInt64 = 0 := (lg_cmp_eq _ _).mpr (by rw [nI_clamp (by decide), e6]; exact ja hmt g1 g2 (by assumption) hcd)
        exact absurd e9 (by assumption)
  · exact absurd hjr (by assumption)
set_option maxRecDepth 100000 in
set_option maxHeartbeats 4000000 in
theorem law_c18 {X : gX} {M : gMT} {Q : State → Prop} {b L : Nat} {sc : Nat → Int32} {a0 m o n : Nat} {σ : gS} (hx : LC X M b L sc) (hn : 6 * n + 6 ≤ L) (nx : nxt X M Q b a0 m o n) (hJ : Jn M a0 m o n σ) : G X M 7 Q (500 + 900 * n) (5000 + 13400 * n) σ 1133 [(4, .int (nI (6 * n))), (3, .ref o), (2, .ref m), (1, .ref a0), (0, .ref b)] [] := by
  obtain ⟨hC, hX, hbl, hbA, hL⟩ := hx
  obtain ⟨A, ρ, W, ad, rf, S, f, hA, hr, h0, ho, hRel, hz⟩ := hJ
  subst hA
  have hW := hRel.1.1
  have hE := hRel.1.2.1
  have hB := hRel.SB
  have hSL := hRel.SL
  have hN := hRel.2.2.2.2.2.2.2.2
  have hn6 : n ≤ 600 := by omega
  have hmt : Mt (cdf 9 1 9) n ρ (lo_usedByFiles ρ (sc (6 * n + 1)) (sc (6 * n + 2))) (mo_used S (sc (6 * n + 1)) (sc (6 * n + 2))) := m_usedByFiles hRel (by decide) (sc (6 * n + 1)) (sc (6 * n + 2))
  have hcd : ∀ E, cdf 9 1 9 E ≠ 0 := cdf_n (by decide) (by decide) (by decide)
  have hkz : kz S (mo_used S (sc (6 * n + 1)) (sc (6 * n + 2))).2.2 := z_used (sc (6 * n + 1)) (sc (6 * n + 2))
  refine g_aload_n (q := 1134) (i := 1) hC dL_law_1133 rfl rfl rfl ?_
  refine g_aload_n (q := 1135) (i := 0) hC dL_law_1134 rfl rfl rfl ?_
  refine g_iload (q := 1137) (i := 4) hC dL_law_1135 rfl rfl ?_
  refine g_iconst (q := 1138) (v := nI 1) hC dL_law_1137 rfl rfl ?_
  refine g_iadd (q := 1139) (v := (nI ((6 * n) + 1))) hC dL_law_1138 (nI_add _ _) rfl ?_
  refine g_sld (q := 1140) (v := sc (((6 * n) + 1))) hC hX hbl hbA dL_law_1139 (vp_in_nI (by omega) (by omega)) (congrArg sc (nI_clamp (by omega))) rfl ?_
  refine g_aload_n (q := 1141) (i := 0) hC dL_law_1140 rfl rfl rfl ?_
  refine g_iload (q := 1143) (i := 4) hC dL_law_1141 rfl rfl ?_
  refine g_iconst (q := 1144) (v := nI 2) hC dL_law_1143 rfl rfl ?_
  refine g_iadd (q := 1145) (v := (nI ((6 * n) + 2))) hC dL_law_1144 (nI_add _ _) rfl ?_
  refine g_sld (q := 1146) (v := sc (((6 * n) + 2))) hC hX hbl hbA dL_law_1145 (vp_in_nI (by omega) (by omega)) (congrArg sc (nI_clamp (by omega))) rfl ?_
  refine g_aload_n (q := 1147) (i := 3) hC dL_law_1146 rfl rfl rfl ?_
  refine g_ci (q := 1150) (g_runSH hC ks_L_152 md_L_usedByFiles (c_W_usedByFiles _ hC.fl M _ A ρ W (sc (6 * n + 1)) (sc (6 * n + 2)) o f hr hW ho) dL_law_1147 (by decide) (by decide) (by omega) (by omega) rfl rfl (Nat.le_of_ble_eq_true rfl)) rfl (fun r5 σ2 hw => ?_) (fun _ _ h9 => False.elim h9)
  obtain ⟨A2, W2, f2, hr2, hA2, h02, ho2, g1, g2⟩ := jE hr rfl h0 ho hw
  refine g_istore (q := 1152) (i := 5) hC dL_law_1150 (by decide) rfl ?_
  refine g_aload_n (q := 1153) (i := 2) hC dL_law_1152 rfl rfl rfl ?_
  refine g_aload_n (q := 1154) (i := 0) hC dL_law_1153 rfl rfl rfl ?_
  refine g_iload (q := 1156) (i := 4) hC dL_law_1154 rfl rfl ?_
  refine g_iconst (q := 1157) (v := nI 1) hC dL_law_1156 rfl rfl ?_
  refine g_iadd (q := 1158) (v := (nI ((6 * n) + 1))) hC dL_law_1157 (nI_add _ _) rfl ?_
  refine g_sld (q := 1159) (v := sc (((6 * n) + 1))) hC hX hbl hbA dL_law_1158 (vp_in_nI (by omega) (by omega)) (congrArg sc (nI_clamp (by omega))) rfl ?_
  refine g_aload_n (q := 1160) (i := 0) hC dL_law_1159 rfl rfl rfl ?_
  refine g_iload (q := 1162) (i := 4) hC dL_law_1160 rfl rfl ?_
  refine g_iconst (q := 1163) (v := nI 2) hC dL_law_1162 rfl rfl ?_
  refine g_iadd (q := 1164) (v := (nI ((6 * n) + 2))) hC dL_law_1163 (nI_add _ _) rfl ?_
  refine g_sld (q := 1165) (v := sc (((6 * n) + 2))) hC hX hbl hbA dL_law_1164 (vp_in_nI (by omega) (by omega)) (congrArg sc (nI_clamp (by omega))) rfl ?_
  refine g_ci (q := 1168) (g_runV hC kv_L_154 md_X5_usedByFiles (c_M_usedByFiles _ hC.fl M _ (rest0 σ2 m ad) m ad rf (sc (6 * n + 1)) (sc (6 * n + 2)) S h02.mod hB) (ci := 5) rfl h02.1 dL_law_1165 (by decide) (by decide) (by omega) (by omega) rfl rfl (Nat.le_of_ble_eq_true rfl)) rfl (fun r6 σ3 ⟨e6, hM⟩ => ?_) (fun _ _ h9 => False.elim h9)
  obtain ⟨hJ3, ho3⟩ := jF hmt hz hkz hr2 hA2 h02 ho2 hM
  refine g_istore (q := 1170) (i := 6) hC dL_law_1168 (by decide) rfl ?_
  refine g_aload_n (q := 1171) (i := 2) hC dL_law_1170 rfl rfl rfl ?_
  refine g_ci (q := 1174) (g_runV hC kv_L_91 md_X5_thrown (c_M_thrown _ hC.fl M _ _ m ad _ _ hM) (ci := 5) rfl hM.1 dL_law_1171 (by decide) (by decide) (by omega) (by omega) rfl rfl (Nat.le_of_ble_eq_true rfl)) rfl (fun r7 σ3 ⟨e7, e8⟩ => ?_) (fun _ _ h9 => False.elim h9)
  subst e8
  have hjr := e7.trans (jr hmt (fun z => (g1 z).1) g2)
  refine g_iload (q := 1176) (i := 5) hC dL_law_1174 rfl rfl ?_
  refine g_icmp_eq (tgt := 1181) (q := 1179) hC dL_law_1176 (by decide) rfl (fun c_1176 => ?_) (fun c_1176 => ?_)
  · refine g_iload (q := 1183) (i := 5) hC dL_law_1181 rfl rfl ?_
    refine g_if_ne (tgt := 1198) (q := 1186) hC dL_law_1183 (by decide) rfl (fun c_1183 => ?_) (fun c_1183 => ?_)
    · refine g_goto (tgt := 1462) hC dL_law_1198 (by decide) ?_
      refine g_sub (lv0 := [(4, .int (nI (6 * n))), (3, .ref o), (2, .ref m), (1, .ref (A 0 0)), (0, .ref b)]) ⟨rfl, rfl, rfl, rfl, rfl, trivial⟩ ?_
      exact nx _ _ _ (by omega) (by omega) hJ3
    · refine g_aload_n (q := 1187) (i := 3) hC dL_law_1186 rfl rfl rfl ?_
      refine g_iconst (q := 1188) (v := nI 0) hC dL_law_1187 rfl rfl ?_
      refine g_lald (q := 1189) hC dL_law_1188 ho3 (vp_in_nI (by omega) (by omega)) rfl rfl ?_
      refine g_iload (q := 1191) (i := 6) hC dL_law_1189 rfl rfl ?_
      refine g_i2l (q := 1192) hC dL_law_1191 rfl rfl ?_
      refine g_lcmp (q := 1193) hC dL_law_1192 rfl rfl ?_
      refine g_if_eq (tgt := 1198) (q := 1196) hC dL_law_1193 (by decide) rfl (fun c_1193 => ?_) (fun c_1193 => ?_)
      · refine g_goto (tgt := 1462) hC dL_law_1198 (by decide) ?_
        refine g_sub (lv0 := [(4, .int (nI (6 * n))), (3, .ref o), (2, .ref m), (1, .ref (A 0 0)), (0, .ref b)]) ⟨rfl, rfl, rfl, rfl, rfl, trivial⟩ ?_
        exact nx _ _ _ (by omega) (by omega) hJ3
      · have e9 : lg_cmp (f2 (nI 0).toNatClampNeg) r6.toInt64 = 0 := (lg_cmp_eq _ _).mpr (by rw [nI_clamp (by decide), e6]; exact ja hmt g1 g2 (by assumption) hcd)
        exact absurd e9 (by assumption)
  · exact absurd hjr (by assumption)
set_option maxRecDepth 100000 in
set_option maxHeartbeats 4000000 in
theorem law_c19 {X : gX} {M : gMT} {Q : State → Prop} {b L : Nat} {sc : Nat → Int32} {a0 m o n : Nat} {σ : gS} (hx : LC X M b L sc) (hn : 6 * n + 6 ≤ L) (nx : nxt X M Q b a0 m o n) (hJ : Jn M a0 m o n σ) : G X M 7 Q (500 + 900 * n) (5000 + 13400 * n) σ 1201 [(4, .int (nI (6 * n))), (3, .ref o), (2, .ref m), (1, .ref a0), (0, .ref b)] [] := by
  obtain ⟨hC, hX, hbl, hbA, hL⟩ := hx
  obtain ⟨A, ρ, W, ad, rf, S, f, hA, hr, h0, ho, hRel, hz⟩ := hJ
  subst hA
  have hW := hRel.1.1
  have hE := hRel.1.2.1
  have hB := hRel.SB
  have hSL := hRel.SL
  have hN := hRel.2.2.2.2.2.2.2.2
  have hn6 : n ≤ 600 := by omega
  have hmt : Mt (cdf 9 1 9) n ρ (lo_grace ρ (sc (6 * n + 1)) (sc (6 * n + 2))) (mo_grace S (sc (6 * n + 1)) (sc (6 * n + 2))) := m_grace hRel (by decide) (sc (6 * n + 1)) (sc (6 * n + 2))
  have hcd : ∀ E, cdf 9 1 9 E ≠ 0 := cdf_n (by decide) (by decide) (by decide)
  have hkz : kz S (mo_grace S (sc (6 * n + 1)) (sc (6 * n + 2))).2.2 := z_grace (sc (6 * n + 1)) (sc (6 * n + 2))
  refine g_aload_n (q := 1202) (i := 1) hC dL_law_1201 rfl rfl rfl ?_
  refine g_aload_n (q := 1203) (i := 0) hC dL_law_1202 rfl rfl rfl ?_
  refine g_iload (q := 1205) (i := 4) hC dL_law_1203 rfl rfl ?_
  refine g_iconst (q := 1206) (v := nI 1) hC dL_law_1205 rfl rfl ?_
  refine g_iadd (q := 1207) (v := (nI ((6 * n) + 1))) hC dL_law_1206 (nI_add _ _) rfl ?_
  refine g_sld (q := 1208) (v := sc (((6 * n) + 1))) hC hX hbl hbA dL_law_1207 (vp_in_nI (by omega) (by omega)) (congrArg sc (nI_clamp (by omega))) rfl ?_
  refine g_aload_n (q := 1209) (i := 0) hC dL_law_1208 rfl rfl rfl ?_
  refine g_iload (q := 1211) (i := 4) hC dL_law_1209 rfl rfl ?_
  refine g_iconst (q := 1212) (v := nI 2) hC dL_law_1211 rfl rfl ?_
  refine g_iadd (q := 1213) (v := (nI ((6 * n) + 2))) hC dL_law_1212 (nI_add _ _) rfl ?_
  refine g_sld (q := 1214) (v := sc (((6 * n) + 2))) hC hX hbl hbA dL_law_1213 (vp_in_nI (by omega) (by omega)) (congrArg sc (nI_clamp (by omega))) rfl ?_
  refine g_aload_n (q := 1215) (i := 3) hC dL_law_1214 rfl rfl rfl ?_
  refine g_ci (q := 1218) (g_runSH hC ks_L_155 md_L_grace (c_W_grace _ hC.fl M _ A ρ W (sc (6 * n + 1)) (sc (6 * n + 2)) o f hr hW ho) dL_law_1215 (by decide) (by decide) (by omega) (by omega) rfl rfl (Nat.le_of_ble_eq_true rfl)) rfl (fun r5 σ2 hw => ?_) (fun _ _ h9 => False.elim h9)
  obtain ⟨A2, W2, f2, hr2, hA2, h02, ho2, g1, g2⟩ := jE hr rfl h0 ho hw
  refine g_istore (q := 1220) (i := 5) hC dL_law_1218 (by decide) rfl ?_
  refine g_aload_n (q := 1221) (i := 2) hC dL_law_1220 rfl rfl rfl ?_
  refine g_aload_n (q := 1222) (i := 0) hC dL_law_1221 rfl rfl rfl ?_
  refine g_iload (q := 1224) (i := 4) hC dL_law_1222 rfl rfl ?_
  refine g_iconst (q := 1225) (v := nI 1) hC dL_law_1224 rfl rfl ?_
  refine g_iadd (q := 1226) (v := (nI ((6 * n) + 1))) hC dL_law_1225 (nI_add _ _) rfl ?_
  refine g_sld (q := 1227) (v := sc (((6 * n) + 1))) hC hX hbl hbA dL_law_1226 (vp_in_nI (by omega) (by omega)) (congrArg sc (nI_clamp (by omega))) rfl ?_
  refine g_aload_n (q := 1228) (i := 0) hC dL_law_1227 rfl rfl rfl ?_
  refine g_iload (q := 1230) (i := 4) hC dL_law_1228 rfl rfl ?_
  refine g_iconst (q := 1231) (v := nI 2) hC dL_law_1230 rfl rfl ?_
  refine g_iadd (q := 1232) (v := (nI ((6 * n) + 2))) hC dL_law_1231 (nI_add _ _) rfl ?_
  refine g_sld (q := 1233) (v := sc (((6 * n) + 2))) hC hX hbl hbA dL_law_1232 (vp_in_nI (by omega) (by omega)) (congrArg sc (nI_clamp (by omega))) rfl ?_
  refine g_ci (q := 1236) (g_runV hC kv_L_157 md_X5_grace (c_M_grace _ hC.fl M _ (rest0 σ2 m ad) m ad rf (sc (6 * n + 1)) (sc (6 * n + 2)) S h02.mod hB) (ci := 5) rfl h02.1 dL_law_1233 (by decide) (by decide) (by omega) (by omega) rfl rfl (Nat.le_of_ble_eq_true rfl)) rfl (fun r6 σ3 ⟨e6, hM⟩ => ?_) (fun _ _ h9 => False.elim h9)
  obtain ⟨hJ3, ho3⟩ := jF hmt hz hkz hr2 hA2 h02 ho2 hM
  refine g_istore (q := 1238) (i := 6) hC dL_law_1236 (by decide) rfl ?_
  refine g_aload_n (q := 1239) (i := 2) hC dL_law_1238 rfl rfl rfl ?_
  refine g_ci (q := 1242) (g_runV hC kv_L_91 md_X5_thrown (c_M_thrown _ hC.fl M _ _ m ad _ _ hM) (ci := 5) rfl hM.1 dL_law_1239 (by decide) (by decide) (by omega) (by omega) rfl rfl (Nat.le_of_ble_eq_true rfl)) rfl (fun r7 σ3 ⟨e7, e8⟩ => ?_) (fun _ _ h9 => False.elim h9)
  subst e8
  have hjr := e7.trans (jr hmt (fun z => (g1 z).1) g2)
  refine g_iload (q := 1244) (i := 5) hC dL_law_1242 rfl rfl ?_
  refine g_icmp_eq (tgt := 1249) (q := 1247) hC dL_law_1244 (by decide) rfl (fun c_1244 => ?_) (fun c_1244 => ?_)
  · refine g_iload (q := 1251) (i := 5) hC dL_law_1249 rfl rfl ?_
    refine g_if_ne (tgt := 1266) (q := 1254) hC dL_law_1251 (by decide) rfl (fun c_1251 => ?_) (fun c_1251 => ?_)
    · refine g_goto (tgt := 1462) hC dL_law_1266 (by decide) ?_
      refine g_sub (lv0 := [(4, .int (nI (6 * n))), (3, .ref o), (2, .ref m), (1, .ref (A 0 0)), (0, .ref b)]) ⟨rfl, rfl, rfl, rfl, rfl, trivial⟩ ?_
      exact nx _ _ _ (by omega) (by omega) hJ3
    · refine g_aload_n (q := 1255) (i := 3) hC dL_law_1254 rfl rfl rfl ?_
      refine g_iconst (q := 1256) (v := nI 0) hC dL_law_1255 rfl rfl ?_
      refine g_lald (q := 1257) hC dL_law_1256 ho3 (vp_in_nI (by omega) (by omega)) rfl rfl ?_
      refine g_iload (q := 1259) (i := 6) hC dL_law_1257 rfl rfl ?_
      refine g_i2l (q := 1260) hC dL_law_1259 rfl rfl ?_
      refine g_lcmp (q := 1261) hC dL_law_1260 rfl rfl ?_
      refine g_if_eq (tgt := 1266) (q := 1264) hC dL_law_1261 (by decide) rfl (fun c_1261 => ?_) (fun c_1261 => ?_)
      · refine g_goto (tgt := 1462) hC dL_law_1266 (by decide) ?_
        refine g_sub (lv0 := [(4, .int (nI (6 * n))), (3, .ref o), (2, .ref m), (1, .ref (A 0 0)), (0, .ref b)]) ⟨rfl, rfl, rfl, rfl, rfl, trivial⟩ ?_
        exact nx _ _ _ (by omega) (by omega) hJ3
      · have e9 : lg_cmp (f2 (nI 0).toNatClampNeg) r6.toInt64 = 0 := (lg_cmp_eq _ _).mpr (by rw [nI_clamp (by decide), e6]; exact ja hmt g1 g2 (by assumption) hcd)
        exact absurd e9 (by assumption)
  · exact absurd hjr (by assumption)
set_option maxRecDepth 100000 in
set_option maxHeartbeats 4000000 in
theorem law_c20 {X : gX} {M : gMT} {Q : State → Prop} {b L : Nat} {sc : Nat → Int32} {a0 m o n : Nat} {σ : gS} (hx : LC X M b L sc) (hn : 6 * n + 6 ≤ L) (nx : nxt X M Q b a0 m o n) (hJ : Jn M a0 m o n σ) : G X M 7 Q (500 + 900 * n) (5000 + 13400 * n) σ 1269 [(4, .int (nI (6 * n))), (3, .ref o), (2, .ref m), (1, .ref a0), (0, .ref b)] [] := by
  obtain ⟨hC, hX, hbl, hbA, hL⟩ := hx
  obtain ⟨A, ρ, W, ad, rf, S, f, hA, hr, h0, ho, hRel, hz⟩ := hJ
  subst hA
  have hW := hRel.1.1
  have hE := hRel.1.2.1
  have hB := hRel.SB
  have hSL := hRel.SL
  have hN := hRel.2.2.2.2.2.2.2.2
  have hn6 : n ≤ 600 := by omega
  have hmt : Mt (cdf 9 1 9) n ρ (lo_room ρ (sc (6 * n + 1))) (mo_room S (sc (6 * n + 1))) := m_room hRel (by decide) (sc (6 * n + 1))
  have hcd : ∀ E, cdf 9 1 9 E ≠ 0 := cdf_n (by decide) (by decide) (by decide)
  have hkz : kz S (mo_room S (sc (6 * n + 1))).2.2 := z_room (sc (6 * n + 1))
  refine g_aload_n (q := 1270) (i := 1) hC dL_law_1269 rfl rfl rfl ?_
  refine g_aload_n (q := 1271) (i := 0) hC dL_law_1270 rfl rfl rfl ?_
  refine g_iload (q := 1273) (i := 4) hC dL_law_1271 rfl rfl ?_
  refine g_iconst (q := 1274) (v := nI 1) hC dL_law_1273 rfl rfl ?_
  refine g_iadd (q := 1275) (v := (nI ((6 * n) + 1))) hC dL_law_1274 (nI_add _ _) rfl ?_
  refine g_sld (q := 1276) (v := sc (((6 * n) + 1))) hC hX hbl hbA dL_law_1275 (vp_in_nI (by omega) (by omega)) (congrArg sc (nI_clamp (by omega))) rfl ?_
  refine g_aload_n (q := 1277) (i := 3) hC dL_law_1276 rfl rfl rfl ?_
  refine g_ci (q := 1280) (g_runSH hC ks_L_158 md_L_room (c_W_room _ hC.fl M _ A ρ W (sc (6 * n + 1)) o f hr hW ho) dL_law_1277 (by decide) (by decide) (by omega) (by omega) rfl rfl (Nat.le_of_ble_eq_true rfl)) rfl (fun r5 σ2 hw => ?_) (fun _ _ h9 => False.elim h9)
  obtain ⟨A2, W2, f2, hr2, hA2, h02, ho2, g1, g2⟩ := jE hr rfl h0 ho hw
  refine g_istore (q := 1282) (i := 5) hC dL_law_1280 (by decide) rfl ?_
  refine g_aload_n (q := 1283) (i := 2) hC dL_law_1282 rfl rfl rfl ?_
  refine g_aload_n (q := 1284) (i := 0) hC dL_law_1283 rfl rfl rfl ?_
  refine g_iload (q := 1286) (i := 4) hC dL_law_1284 rfl rfl ?_
  refine g_iconst (q := 1287) (v := nI 1) hC dL_law_1286 rfl rfl ?_
  refine g_iadd (q := 1288) (v := (nI ((6 * n) + 1))) hC dL_law_1287 (nI_add _ _) rfl ?_
  refine g_sld (q := 1289) (v := sc (((6 * n) + 1))) hC hX hbl hbA dL_law_1288 (vp_in_nI (by omega) (by omega)) (congrArg sc (nI_clamp (by omega))) rfl ?_
  refine g_ci (q := 1292) (g_runV hC kv_L_160 md_X5_room (c_M_room _ hC.fl M _ (rest0 σ2 m ad) m ad rf (sc (6 * n + 1)) S h02.mod hB) (ci := 5) rfl h02.1 dL_law_1289 (by decide) (by decide) (by omega) (by omega) rfl rfl (Nat.le_of_ble_eq_true rfl)) rfl (fun r6 σ3 ⟨e6, hM⟩ => ?_) (fun _ _ h9 => False.elim h9)
  obtain ⟨hJ3, ho3⟩ := jF hmt hz hkz hr2 hA2 h02 ho2 hM
  refine g_istore (q := 1294) (i := 6) hC dL_law_1292 (by decide) rfl ?_
  refine g_aload_n (q := 1295) (i := 2) hC dL_law_1294 rfl rfl rfl ?_
  refine g_ci (q := 1298) (g_runV hC kv_L_91 md_X5_thrown (c_M_thrown _ hC.fl M _ _ m ad _ _ hM) (ci := 5) rfl hM.1 dL_law_1295 (by decide) (by decide) (by omega) (by omega) rfl rfl (Nat.le_of_ble_eq_true rfl)) rfl (fun r7 σ3 ⟨e7, e8⟩ => ?_) (fun _ _ h9 => False.elim h9)
  subst e8
  have hjr := e7.trans (jr hmt (fun z => (g1 z).1) g2)
  refine g_iload (q := 1300) (i := 5) hC dL_law_1298 rfl rfl ?_
  refine g_icmp_eq (tgt := 1305) (q := 1303) hC dL_law_1300 (by decide) rfl (fun c_1300 => ?_) (fun c_1300 => ?_)
  · refine g_iload (q := 1307) (i := 5) hC dL_law_1305 rfl rfl ?_
    refine g_if_ne (tgt := 1322) (q := 1310) hC dL_law_1307 (by decide) rfl (fun c_1307 => ?_) (fun c_1307 => ?_)
    · refine g_goto (tgt := 1462) hC dL_law_1322 (by decide) ?_
      refine g_sub (lv0 := [(4, .int (nI (6 * n))), (3, .ref o), (2, .ref m), (1, .ref (A 0 0)), (0, .ref b)]) ⟨rfl, rfl, rfl, rfl, rfl, trivial⟩ ?_
      exact nx _ _ _ (by omega) (by omega) hJ3
    · refine g_aload_n (q := 1311) (i := 3) hC dL_law_1310 rfl rfl rfl ?_
      refine g_iconst (q := 1312) (v := nI 0) hC dL_law_1311 rfl rfl ?_
      refine g_lald (q := 1313) hC dL_law_1312 ho3 (vp_in_nI (by omega) (by omega)) rfl rfl ?_
      refine g_iload (q := 1315) (i := 6) hC dL_law_1313 rfl rfl ?_
      refine g_i2l (q := 1316) hC dL_law_1315 rfl rfl ?_
      refine g_lcmp (q := 1317) hC dL_law_1316 rfl rfl ?_
      refine g_if_eq (tgt := 1322) (q := 1320) hC dL_law_1317 (by decide) rfl (fun c_1317 => ?_) (fun c_1317 => ?_)
      · refine g_goto (tgt := 1462) hC dL_law_1322 (by decide) ?_
        refine g_sub (lv0 := [(4, .int (nI (6 * n))), (3, .ref o), (2, .ref m), (1, .ref (A 0 0)), (0, .ref b)]) ⟨rfl, rfl, rfl, rfl, rfl, trivial⟩ ?_
        exact nx _ _ _ (by omega) (by omega) hJ3
      · have e9 : lg_cmp (f2 (nI 0).toNatClampNeg) r6.toInt64 = 0 := (lg_cmp_eq _ _).mpr (by rw [nI_clamp (by decide), e6]; exact ja hmt g1 g2 (by assumption) hcd)
        exact absurd e9 (by assumption)
  · exact absurd hjr (by assumption)
set_option maxRecDepth 100000 in
set_option maxHeartbeats 4000000 in
theorem law_c21 {X : gX} {M : gMT} {Q : State → Prop} {b L : Nat} {sc : Nat → Int32} {a0 m o n : Nat} {σ : gS} (hx : LC X M b L sc) (hn : 6 * n + 6 ≤ L) (nx : nxt X M Q b a0 m o n) (hJ : Jn M a0 m o n σ) : G X M 7 Q (500 + 900 * n) (5000 + 13400 * n) σ 1325 [(4, .int (nI (6 * n))), (3, .ref o), (2, .ref m), (1, .ref a0), (0, .ref b)] [] := by
  obtain ⟨hC, hX, hbl, hbA, hL⟩ := hx
  obtain ⟨A, ρ, W, ad, rf, S, f, hA, hr, h0, ho, hRel, hz⟩ := hJ
  subst hA
  have hW := hRel.1.1
  have hE := hRel.1.2.1
  have hB := hRel.SB
  have hSL := hRel.SL
  have hN := hRel.2.2.2.2.2.2.2.2
  have hn6 : n ≤ 600 := by omega
  have hmt : Mt (cdf 1 1 1) n ρ (lo_beginRecount ρ) (mo_beginRecount S) := m_beginRecount hRel (cdf 1 1 1)
  have hkz : kz S (mo_beginRecount S).2.2 := z_beginRecount
  refine g_aload_n (q := 1326) (i := 1) hC dL_law_1325 rfl rfl rfl ?_
  refine g_ci (q := 1329) (g_runV hC kv_L_161 md_X4_beginRecount (c_L_beginRecount _ hC.fl M _ A ρ W hr hW) (ci := 4) rfl (hr.led hW) dL_law_1326 (by decide) (by decide) (by omega) (by omega) rfl rfl (Nat.le_of_ble_eq_true rfl)) rfl (fun r5 σ2 hw => ?_) (fun _ _ h9 => False.elim h9)
  obtain ⟨A2, W2, hr2, hA2, h02, ho2, g1, g2⟩ := jD rfl h0 ho hw
  refine g_aload_n (q := 1330) (i := 2) hC dL_law_1329 rfl rfl rfl ?_
  refine g_ci (q := 1333) (g_runV hC kv_L_164 md_X5_beginRecount (c_M_beginRecount _ hC.fl M _ (rest0 σ2 m ad) m ad rf S h02.mod) (ci := 5) rfl h02.1 dL_law_1330 (by decide) (by decide) (by omega) (by omega) rfl rfl (Nat.le_of_ble_eq_true rfl)) rfl (fun r6 σ3 ⟨e6, hM⟩ => ?_) (fun _ _ h9 => False.elim h9)
  obtain ⟨hJ3, ho3⟩ := jF hmt hz hkz hr2 hA2 h02 ho2 hM
  refine g_icmp_eq (tgt := 1462) (q := 1336) hC dL_law_1333 (by decide) rfl (fun c_1333 => ?_) (fun c_1333 => ?_)
  · refine g_sub (lv0 := [(4, .int (nI (6 * n))), (3, .ref o), (2, .ref m), (1, .ref (A 0 0)), (0, .ref b)]) ⟨rfl, rfl, rfl, rfl, rfl, trivial⟩ ?_
    exact nx _ _ _ (by omega) (by omega) hJ3
  · exact absurd (by rw [g2, e6]; exact jd hmt g1) c_1333
set_option maxRecDepth 100000 in
set_option maxHeartbeats 4000000 in
theorem law_c22 {X : gX} {M : gMT} {Q : State → Prop} {b L : Nat} {sc : Nat → Int32} {a0 m o n : Nat} {σ : gS} (hx : LC X M b L sc) (hn : 6 * n + 6 ≤ L) (nx : nxt X M Q b a0 m o n) (hJ : Jn M a0 m o n σ) : G X M 7 Q (500 + 900 * n) (5000 + 13400 * n) σ 1338 [(4, .int (nI (6 * n))), (3, .ref o), (2, .ref m), (1, .ref a0), (0, .ref b)] [] := by
  obtain ⟨hC, hX, hbl, hbA, hL⟩ := hx
  obtain ⟨A, ρ, W, ad, rf, S, f, hA, hr, h0, ho, hRel, hz⟩ := hJ
  subst hA
  have hW := hRel.1.1
  have hE := hRel.1.2.1
  have hB := hRel.SB
  have hSL := hRel.SL
  have hN := hRel.2.2.2.2.2.2.2.2
  have hn6 : n ≤ 600 := by omega
  have hmt : Mt (cdf 1 9 2) n ρ (lo_recount ρ (sc (6 * n + 1))) (mo_recount S (sc (6 * n + 1))) := m_recount hRel (by decide) (by decide) (sc (6 * n + 1))
  have hcd : ∀ E, cdf 1 9 2 E ≠ 0 := cdf_n (by decide) (by decide) (by decide)
  have hkz : kz S (mo_recount S (sc (6 * n + 1))).2.2 := z_recount (sc (6 * n + 1))
  refine g_aload_n (q := 1339) (i := 1) hC dL_law_1338 rfl rfl rfl ?_
  refine g_aload_n (q := 1340) (i := 0) hC dL_law_1339 rfl rfl rfl ?_
  refine g_iload (q := 1342) (i := 4) hC dL_law_1340 rfl rfl ?_
  refine g_iconst (q := 1343) (v := nI 1) hC dL_law_1342 rfl rfl ?_
  refine g_iadd (q := 1344) (v := (nI ((6 * n) + 1))) hC dL_law_1343 (nI_add _ _) rfl ?_
  refine g_sld (q := 1345) (v := sc (((6 * n) + 1))) hC hX hbl hbA dL_law_1344 (vp_in_nI (by omega) (by omega)) (congrArg sc (nI_clamp (by omega))) rfl ?_
  refine g_aload_n (q := 1346) (i := 3) hC dL_law_1345 rfl rfl rfl ?_
  refine g_ci (q := 1349) (g_runSH hC ks_L_165 md_L_recount (c_W_recount _ hC.fl M _ A ρ W (sc (6 * n + 1)) o f hr hW ho) dL_law_1346 (by decide) (by decide) (by omega) (by omega) rfl rfl (Nat.le_of_ble_eq_true rfl)) rfl (fun r5 σ2 hw => ?_) (fun _ _ h9 => False.elim h9)
  obtain ⟨A2, W2, f2, hr2, hA2, h02, ho2, g1, g2⟩ := jE hr rfl h0 ho hw
  refine g_istore (q := 1351) (i := 5) hC dL_law_1349 (by decide) rfl ?_
  refine g_aload_n (q := 1352) (i := 2) hC dL_law_1351 rfl rfl rfl ?_
  refine g_aload_n (q := 1353) (i := 0) hC dL_law_1352 rfl rfl rfl ?_
  refine g_iload (q := 1355) (i := 4) hC dL_law_1353 rfl rfl ?_
  refine g_iconst (q := 1356) (v := nI 1) hC dL_law_1355 rfl rfl ?_
  refine g_iadd (q := 1357) (v := (nI ((6 * n) + 1))) hC dL_law_1356 (nI_add _ _) rfl ?_
  refine g_sld (q := 1358) (v := sc (((6 * n) + 1))) hC hX hbl hbA dL_law_1357 (vp_in_nI (by omega) (by omega)) (congrArg sc (nI_clamp (by omega))) rfl ?_
  refine g_ci (q := 1361) (g_runV hC kv_L_167 md_X5_recount (c_M_recount _ hC.fl M _ (rest0 σ2 m ad) m ad rf (sc (6 * n + 1)) S h02.mod hB) (ci := 5) rfl h02.1 dL_law_1358 (by decide) (by decide) (by omega) (by omega) rfl rfl (Nat.le_of_ble_eq_true rfl)) rfl (fun r6 σ3 ⟨e6, hM⟩ => ?_) (fun _ _ h9 => False.elim h9)
  obtain ⟨hJ3, ho3⟩ := jF hmt hz hkz hr2 hA2 h02 ho2 hM
  refine g_istore (q := 1363) (i := 6) hC dL_law_1361 (by decide) rfl ?_
  refine g_aload_n (q := 1364) (i := 2) hC dL_law_1363 rfl rfl rfl ?_
  refine g_ci (q := 1367) (g_runV hC kv_L_91 md_X5_thrown (c_M_thrown _ hC.fl M _ _ m ad _ _ hM) (ci := 5) rfl hM.1 dL_law_1364 (by decide) (by decide) (by omega) (by omega) rfl rfl (Nat.le_of_ble_eq_true rfl)) rfl (fun r7 σ3 ⟨e7, e8⟩ => ?_) (fun _ _ h9 => False.elim h9)
  subst e8
  have hjr := e7.trans (jr hmt (fun z => (g1 z).1) g2)
  refine g_iload (q := 1369) (i := 5) hC dL_law_1367 rfl rfl ?_
  refine g_icmp_eq (tgt := 1374) (q := 1372) hC dL_law_1369 (by decide) rfl (fun c_1369 => ?_) (fun c_1369 => ?_)
  · refine g_iload (q := 1376) (i := 5) hC dL_law_1374 rfl rfl ?_
    refine g_if_ne (tgt := 1391) (q := 1379) hC dL_law_1376 (by decide) rfl (fun c_1376 => ?_) (fun c_1376 => ?_)
    · refine g_goto (tgt := 1462) hC dL_law_1391 (by decide) ?_
      refine g_sub (lv0 := [(4, .int (nI (6 * n))), (3, .ref o), (2, .ref m), (1, .ref (A 0 0)), (0, .ref b)]) ⟨rfl, rfl, rfl, rfl, rfl, trivial⟩ ?_
      exact nx _ _ _ (by omega) (by omega) hJ3
    · refine g_aload_n (q := 1380) (i := 3) hC dL_law_1379 rfl rfl rfl ?_
      refine g_iconst (q := 1381) (v := nI 0) hC dL_law_1380 rfl rfl ?_
      refine g_lald (q := 1382) hC dL_law_1381 ho3 (vp_in_nI (by omega) (by omega)) rfl rfl ?_
      refine g_iload (q := 1384) (i := 6) hC dL_law_1382 rfl rfl ?_
      refine g_i2l (q := 1385) hC dL_law_1384 rfl rfl ?_
      refine g_lcmp (q := 1386) hC dL_law_1385 rfl rfl ?_
      refine g_if_eq (tgt := 1391) (q := 1389) hC dL_law_1386 (by decide) rfl (fun c_1386 => ?_) (fun c_1386 => ?_)
      · refine g_goto (tgt := 1462) hC dL_law_1391 (by decide) ?_
        refine g_sub (lv0 := [(4, .int (nI (6 * n))), (3, .ref o), (2, .ref m), (1, .ref (A 0 0)), (0, .ref b)]) ⟨rfl, rfl, rfl, rfl, rfl, trivial⟩ ?_
        exact nx _ _ _ (by omega) (by omega) hJ3
      · have e9 : lg_cmp (f2 (nI 0).toNatClampNeg) r6.toInt64 = 0 := (lg_cmp_eq _ _).mpr (by rw [nI_clamp (by decide), e6]; exact ja hmt g1 g2 (by assumption) hcd)
        exact absurd e9 (by assumption)
  · exact absurd hjr (by assumption)
set_option maxRecDepth 100000 in
set_option maxHeartbeats 4000000 in
theorem law_c23 {X : gX} {M : gMT} {Q : State → Prop} {b L : Nat} {sc : Nat → Int32} {a0 m o n : Nat} {σ : gS} (hx : LC X M b L sc) (hn : 6 * n + 6 ≤ L) (nx : nxt X M Q b a0 m o n) (hJ : Jn M a0 m o n σ) : G X M 7 Q (500 + 900 * n) (5000 + 13400 * n) σ 1394 [(4, .int (nI (6 * n))), (3, .ref o), (2, .ref m), (1, .ref a0), (0, .ref b)] [] := by
  obtain ⟨hC, hX, hbl, hbA, hL⟩ := hx
  obtain ⟨A, ρ, W, ad, rf, S, f, hA, hr, h0, ho, hRel, hz⟩ := hJ
  subst hA
  have hW := hRel.1.1
  have hE := hRel.1.2.1
  have hB := hRel.SB
  have hSL := hRel.SL
  have hN := hRel.2.2.2.2.2.2.2.2
  have hn6 : n ≤ 600 := by omega
  have hmt : Mt (cdf 9 1 2) n ρ (lo_counted ρ (sc (6 * n + 1)) (sc (6 * n + 2))) (mo_counted S (sc (6 * n + 1)) (sc (6 * n + 2))) := m_counted hRel (by decide) (by decide) (sc (6 * n + 1)) (sc (6 * n + 2))
  have hcd : ∀ E, cdf 9 1 2 E ≠ 0 := cdf_n (by decide) (by decide) (by decide)
  have hkz : kz S (mo_counted S (sc (6 * n + 1)) (sc (6 * n + 2))).2.2 := z_counted (sc (6 * n + 1)) (sc (6 * n + 2))
  refine g_aload_n (q := 1395) (i := 1) hC dL_law_1394 rfl rfl rfl ?_
  refine g_aload_n (q := 1396) (i := 0) hC dL_law_1395 rfl rfl rfl ?_
  refine g_iload (q := 1398) (i := 4) hC dL_law_1396 rfl rfl ?_
  refine g_iconst (q := 1399) (v := nI 1) hC dL_law_1398 rfl rfl ?_
  refine g_iadd (q := 1400) (v := (nI ((6 * n) + 1))) hC dL_law_1399 (nI_add _ _) rfl ?_
  refine g_sld (q := 1401) (v := sc (((6 * n) + 1))) hC hX hbl hbA dL_law_1400 (vp_in_nI (by omega) (by omega)) (congrArg sc (nI_clamp (by omega))) rfl ?_
  refine g_aload_n (q := 1402) (i := 0) hC dL_law_1401 rfl rfl rfl ?_
  refine g_iload (q := 1404) (i := 4) hC dL_law_1402 rfl rfl ?_
  refine g_iconst (q := 1405) (v := nI 2) hC dL_law_1404 rfl rfl ?_
  refine g_iadd (q := 1406) (v := (nI ((6 * n) + 2))) hC dL_law_1405 (nI_add _ _) rfl ?_
  refine g_sld (q := 1407) (v := sc (((6 * n) + 2))) hC hX hbl hbA dL_law_1406 (vp_in_nI (by omega) (by omega)) (congrArg sc (nI_clamp (by omega))) rfl ?_
  refine g_aload_n (q := 1408) (i := 3) hC dL_law_1407 rfl rfl rfl ?_
  refine g_ci (q := 1411) (g_runSH hC ks_L_168 md_L_counted (c_W_counted _ hC.fl M _ A ρ W (sc (6 * n + 1)) (sc (6 * n + 2)) o f hr hW ho) dL_law_1408 (by decide) (by decide) (by omega) (by omega) rfl rfl (Nat.le_of_ble_eq_true rfl)) rfl (fun r5 σ2 hw => ?_) (fun _ _ h9 => False.elim h9)
  obtain ⟨A2, W2, f2, hr2, hA2, h02, ho2, g1, g2⟩ := jE hr rfl h0 ho hw
  refine g_istore (q := 1413) (i := 5) hC dL_law_1411 (by decide) rfl ?_
  refine g_aload_n (q := 1414) (i := 2) hC dL_law_1413 rfl rfl rfl ?_
  refine g_aload_n (q := 1415) (i := 0) hC dL_law_1414 rfl rfl rfl ?_
  refine g_iload (q := 1417) (i := 4) hC dL_law_1415 rfl rfl ?_
  refine g_iconst (q := 1418) (v := nI 1) hC dL_law_1417 rfl rfl ?_
  refine g_iadd (q := 1419) (v := (nI ((6 * n) + 1))) hC dL_law_1418 (nI_add _ _) rfl ?_
  refine g_sld (q := 1420) (v := sc (((6 * n) + 1))) hC hX hbl hbA dL_law_1419 (vp_in_nI (by omega) (by omega)) (congrArg sc (nI_clamp (by omega))) rfl ?_
  refine g_aload_n (q := 1421) (i := 0) hC dL_law_1420 rfl rfl rfl ?_
  refine g_iload (q := 1423) (i := 4) hC dL_law_1421 rfl rfl ?_
  refine g_iconst (q := 1424) (v := nI 2) hC dL_law_1423 rfl rfl ?_
  refine g_iadd (q := 1425) (v := (nI ((6 * n) + 2))) hC dL_law_1424 (nI_add _ _) rfl ?_
  refine g_sld (q := 1426) (v := sc (((6 * n) + 2))) hC hX hbl hbA dL_law_1425 (vp_in_nI (by omega) (by omega)) (congrArg sc (nI_clamp (by omega))) rfl ?_
  refine g_ci (q := 1429) (g_runV hC kv_L_170 md_X5_counted (c_M_counted _ hC.fl M _ (rest0 σ2 m ad) m ad rf (sc (6 * n + 1)) (sc (6 * n + 2)) S h02.mod hB) (ci := 5) rfl h02.1 dL_law_1426 (by decide) (by decide) (by omega) (by omega) rfl rfl (Nat.le_of_ble_eq_true rfl)) rfl (fun r6 σ3 ⟨e6, hM⟩ => ?_) (fun _ _ h9 => False.elim h9)
  obtain ⟨hJ3, ho3⟩ := jF hmt hz hkz hr2 hA2 h02 ho2 hM
  refine g_istore (q := 1431) (i := 6) hC dL_law_1429 (by decide) rfl ?_
  refine g_aload_n (q := 1432) (i := 2) hC dL_law_1431 rfl rfl rfl ?_
  refine g_ci (q := 1435) (g_runV hC kv_L_91 md_X5_thrown (c_M_thrown _ hC.fl M _ _ m ad _ _ hM) (ci := 5) rfl hM.1 dL_law_1432 (by decide) (by decide) (by omega) (by omega) rfl rfl (Nat.le_of_ble_eq_true rfl)) rfl (fun r7 σ3 ⟨e7, e8⟩ => ?_) (fun _ _ h9 => False.elim h9)
  subst e8
  have hjr := e7.trans (jr hmt (fun z => (g1 z).1) g2)
  refine g_iload (q := 1437) (i := 5) hC dL_law_1435 rfl rfl ?_
  refine g_icmp_eq (tgt := 1442) (q := 1440) hC dL_law_1437 (by decide) rfl (fun c_1437 => ?_) (fun c_1437 => ?_)
  · refine g_iload (q := 1444) (i := 5) hC dL_law_1442 rfl rfl ?_
    refine g_if_ne (tgt := 1459) (q := 1447) hC dL_law_1444 (by decide) rfl (fun c_1444 => ?_) (fun c_1444 => ?_)
    · refine g_goto (tgt := 1462) hC dL_law_1459 (by decide) ?_
      refine g_sub (lv0 := [(4, .int (nI (6 * n))), (3, .ref o), (2, .ref m), (1, .ref (A 0 0)), (0, .ref b)]) ⟨rfl, rfl, rfl, rfl, rfl, trivial⟩ ?_
      exact nx _ _ _ (by omega) (by omega) hJ3
    · refine g_aload_n (q := 1448) (i := 3) hC dL_law_1447 rfl rfl rfl ?_
      refine g_iconst (q := 1449) (v := nI 0) hC dL_law_1448 rfl rfl ?_
      refine g_lald (q := 1450) hC dL_law_1449 ho3 (vp_in_nI (by omega) (by omega)) rfl rfl ?_
      refine g_iload (q := 1452) (i := 6) hC dL_law_1450 rfl rfl ?_
      refine g_i2l (q := 1453) hC dL_law_1452 rfl rfl ?_
      refine g_lcmp (q := 1454) hC dL_law_1453 rfl rfl ?_
      refine g_if_eq (tgt := 1459) (q := 1457) hC dL_law_1454 (by decide) rfl (fun c_1454 => ?_) (fun c_1454 => ?_)
      · refine g_goto (tgt := 1462) hC dL_law_1459 (by decide) ?_
        refine g_sub (lv0 := [(4, .int (nI (6 * n))), (3, .ref o), (2, .ref m), (1, .ref (A 0 0)), (0, .ref b)]) ⟨rfl, rfl, rfl, rfl, rfl, trivial⟩ ?_
        exact nx _ _ _ (by omega) (by omega) hJ3
      · have e9 : lg_cmp (f2 (nI 0).toNatClampNeg) r6.toInt64 = 0 := (lg_cmp_eq _ _).mpr (by rw [nI_clamp (by decide), e6]; exact ja hmt g1 g2 (by assumption) hcd)
        exact absurd e9 (by assumption)
  · exact absurd hjr (by assumption)
