/-! ===== the model: its constructor (by wip/whole/gen_minit.py) ===== -/
/-- an object in the making: its fields, the arrays that it has so far -/
def PM (φ σ : gS) (m : Nat) (fs : List Value) (A : List (Nat × va_E)) : Prop := σ m = some (oB 5 fs) ∧ (∀ q, q ∈ A → σ q.1 = some q.2 ∧ q.1 ≠ m ∧ φ q.1 = none) ∧ (A.map Prod.fst).Nodup ∧ (∀ b e, φ b = some e → σ b = some e) ∧ φ m = none
theorem PM.push {φ σ : gS} {m : Nat} {fs : List Value} {A : List (Nat × va_E)} (h : PM φ σ m fs A) {a : Nat} (ha : σ a = none) (e : va_E) : PM φ (gUp σ a e) m fs ((a, e) :: A) := by
  have hne : ∀ b e', σ b = some e' → b ≠ a := fun b e' hb z => by
    rw [z, ha] at hb
    cases hb
  refine ⟨by rw [gUp_ne _ _ (hne _ _ h.1)]; exact h.1, fun q hq => ?_, ?_, fun b e' hb => by rw [gUp_ne _ _ (hne _ _ (h.2.2.2.1 b e' hb))]; exact h.2.2.2.1 b e' hb, h.2.2.2.2⟩
  · rcases List.mem_cons.mp hq with rfl | hq
    · refine ⟨gUp_self _ _ _, fun z => hne _ _ h.1 z.symm, ?_⟩
      cases hp : φ a with
      | none => rfl
      | some e' => exact absurd rfl (hne _ _ (h.2.2.2.1 a e' hp))
    · obtain ⟨h1, h2, h3⟩ := h.2.1 q hq
      exact ⟨by rw [gUp_ne _ _ (hne _ _ h1)]; exact h1, h2, h3⟩
  · rw [List.map_cons, List.nodup_cons]
    refine ⟨fun z => ?_, h.2.2.1⟩
    obtain ⟨q, hq, hqa⟩ := List.mem_map.mp z
    exact hne _ _ (h.2.1 q hq).1 hqa
theorem PM.put {φ σ : gS} {m : Nat} {fs : List Value} {A : List (Nat × va_E)} (h : PM φ σ m fs A) (fs2 : List Value) : PM φ (gUp σ m (oB 5 fs2)) m fs2 A :=
  ⟨gUp_self _ _ _, fun q hq => ⟨by rw [gUp_ne _ _ (h.2.1 q hq).2.1]; exact (h.2.1 q hq).1, (h.2.1 q hq).2⟩, h.2.2.1, fun b e hb => by rw [gUp_ne _ _ (fun z => by rw [z, h.2.2.2.2] at hb; cases hb)]; exact h.2.2.2.1 b e hb, h.2.2.2.2⟩
theorem PM.gen {X : gX} {M : gMT} {nL : Nat} {Q : State → Prop} {k n pc m : Nat} {φ σ : gS} {fs : List Value} {A : List (Nat × va_E)} {lv : List (Nat × Value)} {st : List Value} (h : PM φ σ m fs A) (kk : ∀ σ2, PM φ σ2 m fs A → G X M nL Q k n σ2 pc lv st) : G X M nL Q k n σ pc lv st := kk σ h
theorem nd_getD {l : List Nat} (h : l.Nodup) {i j : Nat} (hi : i < l.length) (hj : j < l.length) (e : l.getD i 0 = l.getD j 0) : i = j := by
  rw [List.getD_eq_getElem?_getD, List.getD_eq_getElem?_getD, List.getElem?_eq_getElem hi, List.getElem?_eq_getElem hj] at e
  have e : l[i] = l[j] := e
  have hp := List.pairwise_iff_getElem.mp h
  rcases Nat.lt_trichotomy i j with c | c | c
  · exact absurd e (hp i j hi hj c)
  · exact c
  · exact absurd e.symm (hp j i hj hi c)
def inN (i : Nat) : gSt := (fun c j => if c = 0 ∧ j = 2 then 1 else 0, fun c j => if 12 ≤ c ∧ c ≤ 15 ∧ j < i then -1 else 0, fun _ _ => false)
theorem inN_s (i : Nat) : sI (sI (sI (sI (inN i) 12 i (-1)) 13 i (-1)) 14 i (-1)) 15 i (-1) = inN (i + 1) := by
  have e : (sI (sI (sI (sI (inN i) 12 i (-1)) 13 i (-1)) 14 i (-1)) 15 i (-1)).2.1 = (inN (i + 1)).2.1 := by
    funext c j
    show up2 (up2 (up2 (up2 _ 12 i (-1)) 13 i (-1)) 14 i (-1)) 15 i (-1) c j = if 12 ≤ c ∧ c ≤ 15 ∧ j < i + 1 then -1 else 0
    unfold up2
    by_cases h : 12 ≤ c ∧ c ≤ 15 ∧ j < i + 1
    · rw [if_pos h]
      by_cases h5 : c = 15 ∧ j = i
      · rw [if_pos h5]
      · rw [if_neg h5]
        by_cases h4 : c = 14 ∧ j = i
        · rw [if_pos h4]
        · rw [if_neg h4]
          by_cases h3 : c = 13 ∧ j = i
          · rw [if_pos h3]
          · rw [if_neg h3]
            by_cases h2 : c = 12 ∧ j = i
            · rw [if_pos h2]
            · rw [if_neg h2]
              exact if_pos (by omega)
    · rw [if_neg h, if_neg (by omega), if_neg (by omega), if_neg (by omega), if_neg (by omega)]
      exact if_neg (by omega)
  exact Prod.ext rfl (Prod.ext e rfl)
def mf0 : List Value := [.int 0, .int 0, .null, .int 0, .null, .int 0, .null, .null, .int 0, .null, .null, .null, .null, .int 0, .null, .null, .null, .null, .null, .null, .null, .int 0, .int 0]
set_option maxRecDepth 100000 in
set_option maxHeartbeats 4000000 in
theorem c_M_init (l : Launch) (hfl : l.stackTraces = false) (M : gMT) (σ : gS) (φ : gS) (m : Nat) (h0 : σ m = some (oB 5 mf0)) (hp : ∀ b e, φ b = some e → σ b = some e) (hm : φ m = none) : Con l M yX5_init (.code yX5_init cX5_init 2 (Option.none : Option FieldType)) 2 15 601 [.ref m] σ (rV fun σ2 => ∃ ad, Mod M φ σ2 m ad 0 (inN 30)) (nX) := by
  refine g_con hfl (by decide) (lv := [(0, .ref m)]) rfl rfl (Nat.le_of_ble_eq_true rfl) (fun X hX hC hR htb => ?_)
  have hP0 : PM φ σ m mf0 [] := ⟨h0, fun q hq => absurd hq List.not_mem_nil, List.nodup_nil, hp, hm⟩
  refine g_aload_n (q := 1) (i := 0) hC dX5_init_0 rfl rfl rfl ?_
  refine g_objInit (q := 4) hC ko_X5_1 dX5_init_1 (by decide) (by decide) rfl ?_
  refine g_aload_n (q := 5) (i := 0) hC dX5_init_4 rfl rfl rfl ?_
  refine g_bipush (q := 7) (v := nI 8) hC dX5_init_5 rfl rfl ?_
  refine g_newa (q := 9) (atype := .char) (t := 1) (ty := .char) (len := 8) (x9 := (8, .inl (fun _ => 0))) hC ka_char rfl rfl (fun _ => rfl) (by decide) (by decide) (by decide) dX5_init_7 (by omega) (by omega) rfl (fun a1 hv => ?_)
  have hP1 := hP0.push hv (.inl (gk M 1, (8, .inl (fun _ => 0))))
  clear hP0 hv
  refine g_putF (q := 12) hC hR kf_X5_7 dX5_init_9 hP1.1 (Nat.le_of_ble_eq_true rfl) rfl rfl rfl ?_
  refine (hP1.put (mf0.set 2 (.ref a1))).gen (fun σ1 hP1 => ?_)
  refine g_aload_n (q := 13) (i := 0) hC dX5_init_12 rfl rfl rfl ?_
  refine g_bipush (q := 15) (v := nI 8) hC dX5_init_13 rfl rfl ?_
  refine g_newa (q := 17) (atype := .char) (t := 1) (ty := .char) (len := 8) (x9 := (8, .inl (fun _ => 0))) hC ka_char rfl rfl (fun _ => rfl) (by decide) (by decide) (by decide) dX5_init_15 (by omega) (by omega) rfl (fun a2 hv => ?_)
  have hP2 := hP1.push hv (.inl (gk M 1, (8, .inl (fun _ => 0))))
  clear hP1 hv
  refine g_putF (q := 20) hC hR kf_X5_13 dX5_init_17 hP2.1 (Nat.le_of_ble_eq_true rfl) rfl rfl rfl ?_
  refine (hP2.put ((mf0.set 2 (.ref a1)).set 4 (.ref a2))).gen (fun σ2 hP2 => ?_)
  refine g_aload_n (q := 21) (i := 0) hC dX5_init_20 rfl rfl rfl ?_
  refine g_iconst (q := 22) (v := nI 1) hC dX5_init_21 rfl rfl ?_
  refine g_putf (q := 25) hC kf_X5_16 dX5_init_22 hP2.1 (Nat.le_of_ble_eq_true rfl) rfl rfl rfl ?_
  have hP2 := hP2.put (((mf0.set 2 (.ref a1)).set 4 (.ref a2)).set 5 (.int (nI 1)))
  refine g_aload_n (q := 26) (i := 0) hC dX5_init_25 rfl rfl rfl ?_
  refine g_sipush (q := 29) (v := nI 168) hC dX5_init_26 rfl rfl ?_
  refine g_newa (q := 31) (atype := .char) (t := 1) (ty := .char) (len := 168) (x9 := (168, .inl (fun _ => 0))) hC ka_char rfl rfl (fun _ => rfl) (by decide) (by decide) (by decide) dX5_init_29 (by omega) (by omega) rfl (fun a3 hv => ?_)
  have hP3 := hP2.push hv (.inl (gk M 1, (168, .inl (fun _ => 0))))
  clear hP2 hv
  refine g_putF (q := 34) hC hR kf_X5_20 dX5_init_31 hP3.1 (Nat.le_of_ble_eq_true rfl) rfl rfl rfl ?_
  refine (hP3.put ((((mf0.set 2 (.ref a1)).set 4 (.ref a2)).set 5 (.int (nI 1))).set 6 (.ref a3))).gen (fun σ3 hP3 => ?_)
  refine g_aload_n (q := 35) (i := 0) hC dX5_init_34 rfl rfl rfl ?_
  refine g_bipush (q := 37) (v := nI 21) hC dX5_init_35 rfl rfl ?_
  refine g_newa (q := 39) (atype := .int) (t := 2) (ty := .int) (len := 21) (x9 := (21, .inl (fun _ => 0))) hC ka_int rfl rfl (fun _ => rfl) (by decide) (by decide) (by decide) dX5_init_37 (by omega) (by omega) rfl (fun a4 hv => ?_)
  have hP4 := hP3.push hv (.inl (gk M 2, (21, .inl (fun _ => 0))))
  clear hP3 hv
  refine g_putF (q := 42) hC hR kf_X5_23 dX5_init_39 hP4.1 (Nat.le_of_ble_eq_true rfl) rfl rfl rfl ?_
  refine (hP4.put (((((mf0.set 2 (.ref a1)).set 4 (.ref a2)).set 5 (.int (nI 1))).set 6 (.ref a3)).set 7 (.ref a4))).gen (fun σ4 hP4 => ?_)
  refine g_aload_n (q := 43) (i := 0) hC dX5_init_42 rfl rfl rfl ?_
  refine g_bipush (q := 45) (v := nI 40) hC dX5_init_43 rfl rfl ?_
  refine g_newa (q := 47) (atype := .int) (t := 2) (ty := .int) (len := 40) (x9 := (40, .inl (fun _ => 0))) hC ka_int rfl rfl (fun _ => rfl) (by decide) (by decide) (by decide) dX5_init_45 (by omega) (by omega) rfl (fun a5 hv => ?_)
  have hP5 := hP4.push hv (.inl (gk M 2, (40, .inl (fun _ => 0))))
  clear hP4 hv
  refine g_putF (q := 50) hC hR kf_X5_27 dX5_init_47 hP5.1 (Nat.le_of_ble_eq_true rfl) rfl rfl rfl ?_
  refine (hP5.put ((((((mf0.set 2 (.ref a1)).set 4 (.ref a2)).set 5 (.int (nI 1))).set 6 (.ref a3)).set 7 (.ref a4)).set 9 (.ref a5))).gen (fun σ5 hP5 => ?_)
  refine g_aload_n (q := 51) (i := 0) hC dX5_init_50 rfl rfl rfl ?_
  refine g_bipush (q := 53) (v := nI 40) hC dX5_init_51 rfl rfl ?_
  refine g_newa (q := 55) (atype := .int) (t := 2) (ty := .int) (len := 40) (x9 := (40, .inl (fun _ => 0))) hC ka_int rfl rfl (fun _ => rfl) (by decide) (by decide) (by decide) dX5_init_53 (by omega) (by omega) rfl (fun a6 hv => ?_)
  have hP6 := hP5.push hv (.inl (gk M 2, (40, .inl (fun _ => 0))))
  clear hP5 hv
  refine g_putF (q := 58) hC hR kf_X5_30 dX5_init_55 hP6.1 (Nat.le_of_ble_eq_true rfl) rfl rfl rfl ?_
  refine (hP6.put (((((((mf0.set 2 (.ref a1)).set 4 (.ref a2)).set 5 (.int (nI 1))).set 6 (.ref a3)).set 7 (.ref a4)).set 9 (.ref a5)).set 10 (.ref a6))).gen (fun σ6 hP6 => ?_)
  refine g_aload_n (q := 59) (i := 0) hC dX5_init_58 rfl rfl rfl ?_
  refine g_bipush (q := 61) (v := nI 40) hC dX5_init_59 rfl rfl ?_
  refine g_newa (q := 63) (atype := .int) (t := 2) (ty := .int) (len := 40) (x9 := (40, .inl (fun _ => 0))) hC ka_int rfl rfl (fun _ => rfl) (by decide) (by decide) (by decide) dX5_init_61 (by omega) (by omega) rfl (fun a7 hv => ?_)
  have hP7 := hP6.push hv (.inl (gk M 2, (40, .inl (fun _ => 0))))
  clear hP6 hv
  refine g_putF (q := 66) hC hR kf_X5_33 dX5_init_63 hP7.1 (Nat.le_of_ble_eq_true rfl) rfl rfl rfl ?_
  refine (hP7.put ((((((((mf0.set 2 (.ref a1)).set 4 (.ref a2)).set 5 (.int (nI 1))).set 6 (.ref a3)).set 7 (.ref a4)).set 9 (.ref a5)).set 10 (.ref a6)).set 11 (.ref a7))).gen (fun σ7 hP7 => ?_)
  refine g_aload_n (q := 67) (i := 0) hC dX5_init_66 rfl rfl rfl ?_
  refine g_bipush (q := 69) (v := nI 40) hC dX5_init_67 rfl rfl ?_
  refine g_newa (q := 71) (atype := .boolean) (t := 3) (ty := .boolean) (len := 40) (x9 := (40, .inl (fun _ => 0))) hC ka_boolean rfl rfl (fun _ => rfl) (by decide) (by decide) (by decide) dX5_init_69 (by omega) (by omega) rfl (fun a8 hv => ?_)
  have hP8 := hP7.push hv (.inl (gk M 3, (40, .inl (fun _ => 0))))
  clear hP7 hv
  refine g_putF (q := 74) hC hR kf_X5_36 dX5_init_71 hP8.1 (Nat.le_of_ble_eq_true rfl) rfl rfl rfl ?_
  refine (hP8.put (((((((((mf0.set 2 (.ref a1)).set 4 (.ref a2)).set 5 (.int (nI 1))).set 6 (.ref a3)).set 7 (.ref a4)).set 9 (.ref a5)).set 10 (.ref a6)).set 11 (.ref a7)).set 12 (.ref a8))).gen (fun σ8 hP8 => ?_)
  refine g_aload_n (q := 75) (i := 0) hC dX5_init_74 rfl rfl rfl ?_
  refine g_bipush (q := 77) (v := nI 30) hC dX5_init_75 rfl rfl ?_
  refine g_newa (q := 79) (atype := .int) (t := 2) (ty := .int) (len := 30) (x9 := (30, .inl (fun _ => 0))) hC ka_int rfl rfl (fun _ => rfl) (by decide) (by decide) (by decide) dX5_init_77 (by omega) (by omega) rfl (fun a9 hv => ?_)
  have hP9 := hP8.push hv (.inl (gk M 2, (30, .inl (fun _ => 0))))
  clear hP8 hv
  refine g_putF (q := 82) hC hR kf_X5_40 dX5_init_79 hP9.1 (Nat.le_of_ble_eq_true rfl) rfl rfl rfl ?_
  refine (hP9.put ((((((((((mf0.set 2 (.ref a1)).set 4 (.ref a2)).set 5 (.int (nI 1))).set 6 (.ref a3)).set 7 (.ref a4)).set 9 (.ref a5)).set 10 (.ref a6)).set 11 (.ref a7)).set 12 (.ref a8)).set 14 (.ref a9))).gen (fun σ9 hP9 => ?_)
  refine g_aload_n (q := 83) (i := 0) hC dX5_init_82 rfl rfl rfl ?_
  refine g_bipush (q := 85) (v := nI 30) hC dX5_init_83 rfl rfl ?_
  refine g_newa (q := 87) (atype := .int) (t := 2) (ty := .int) (len := 30) (x9 := (30, .inl (fun _ => 0))) hC ka_int rfl rfl (fun _ => rfl) (by decide) (by decide) (by decide) dX5_init_85 (by omega) (by omega) rfl (fun a10 hv => ?_)
  have hP10 := hP9.push hv (.inl (gk M 2, (30, .inl (fun _ => 0))))
  clear hP9 hv
  refine g_putF (q := 90) hC hR kf_X5_43 dX5_init_87 hP10.1 (Nat.le_of_ble_eq_true rfl) rfl rfl rfl ?_
  refine (hP10.put (((((((((((mf0.set 2 (.ref a1)).set 4 (.ref a2)).set 5 (.int (nI 1))).set 6 (.ref a3)).set 7 (.ref a4)).set 9 (.ref a5)).set 10 (.ref a6)).set 11 (.ref a7)).set 12 (.ref a8)).set 14 (.ref a9)).set 15 (.ref a10))).gen (fun σ10 hP10 => ?_)
  refine g_aload_n (q := 91) (i := 0) hC dX5_init_90 rfl rfl rfl ?_
  refine g_bipush (q := 93) (v := nI 30) hC dX5_init_91 rfl rfl ?_
  refine g_newa (q := 95) (atype := .boolean) (t := 3) (ty := .boolean) (len := 30) (x9 := (30, .inl (fun _ => 0))) hC ka_boolean rfl rfl (fun _ => rfl) (by decide) (by decide) (by decide) dX5_init_93 (by omega) (by omega) rfl (fun a11 hv => ?_)
  have hP11 := hP10.push hv (.inl (gk M 3, (30, .inl (fun _ => 0))))
  clear hP10 hv
  refine g_putF (q := 98) hC hR kf_X5_46 dX5_init_95 hP11.1 (Nat.le_of_ble_eq_true rfl) rfl rfl rfl ?_
  refine (hP11.put ((((((((((((mf0.set 2 (.ref a1)).set 4 (.ref a2)).set 5 (.int (nI 1))).set 6 (.ref a3)).set 7 (.ref a4)).set 9 (.ref a5)).set 10 (.ref a6)).set 11 (.ref a7)).set 12 (.ref a8)).set 14 (.ref a9)).set 15 (.ref a10)).set 16 (.ref a11))).gen (fun σ11 hP11 => ?_)
  refine g_aload_n (q := 99) (i := 0) hC dX5_init_98 rfl rfl rfl ?_
  refine g_bipush (q := 101) (v := nI 30) hC dX5_init_99 rfl rfl ?_
  refine g_newa (q := 103) (atype := .int) (t := 2) (ty := .int) (len := 30) (x9 := (30, .inl (fun _ => 0))) hC ka_int rfl rfl (fun _ => rfl) (by decide) (by decide) (by decide) dX5_init_101 (by omega) (by omega) rfl (fun a12 hv => ?_)
  have hP12 := hP11.push hv (.inl (gk M 2, (30, .inl (fun _ => 0))))
  clear hP11 hv
  refine g_putF (q := 106) hC hR kf_X5_49 dX5_init_103 hP12.1 (Nat.le_of_ble_eq_true rfl) rfl rfl rfl ?_
  refine (hP12.put (((((((((((((mf0.set 2 (.ref a1)).set 4 (.ref a2)).set 5 (.int (nI 1))).set 6 (.ref a3)).set 7 (.ref a4)).set 9 (.ref a5)).set 10 (.ref a6)).set 11 (.ref a7)).set 12 (.ref a8)).set 14 (.ref a9)).set 15 (.ref a10)).set 16 (.ref a11)).set 17 (.ref a12))).gen (fun σ12 hP12 => ?_)
  refine g_aload_n (q := 107) (i := 0) hC dX5_init_106 rfl rfl rfl ?_
  refine g_bipush (q := 109) (v := nI 30) hC dX5_init_107 rfl rfl ?_
  refine g_newa (q := 111) (atype := .int) (t := 2) (ty := .int) (len := 30) (x9 := (30, .inl (fun _ => 0))) hC ka_int rfl rfl (fun _ => rfl) (by decide) (by decide) (by decide) dX5_init_109 (by omega) (by omega) rfl (fun a13 hv => ?_)
  have hP13 := hP12.push hv (.inl (gk M 2, (30, .inl (fun _ => 0))))
  clear hP12 hv
  refine g_putF (q := 114) hC hR kf_X5_52 dX5_init_111 hP13.1 (Nat.le_of_ble_eq_true rfl) rfl rfl rfl ?_
  refine (hP13.put ((((((((((((((mf0.set 2 (.ref a1)).set 4 (.ref a2)).set 5 (.int (nI 1))).set 6 (.ref a3)).set 7 (.ref a4)).set 9 (.ref a5)).set 10 (.ref a6)).set 11 (.ref a7)).set 12 (.ref a8)).set 14 (.ref a9)).set 15 (.ref a10)).set 16 (.ref a11)).set 17 (.ref a12)).set 18 (.ref a13))).gen (fun σ13 hP13 => ?_)
  refine g_aload_n (q := 115) (i := 0) hC dX5_init_114 rfl rfl rfl ?_
  refine g_bipush (q := 117) (v := nI 30) hC dX5_init_115 rfl rfl ?_
  refine g_newa (q := 119) (atype := .int) (t := 2) (ty := .int) (len := 30) (x9 := (30, .inl (fun _ => 0))) hC ka_int rfl rfl (fun _ => rfl) (by decide) (by decide) (by decide) dX5_init_117 (by omega) (by omega) rfl (fun a14 hv => ?_)
  have hP14 := hP13.push hv (.inl (gk M 2, (30, .inl (fun _ => 0))))
  clear hP13 hv
  refine g_putF (q := 122) hC hR kf_X5_55 dX5_init_119 hP14.1 (Nat.le_of_ble_eq_true rfl) rfl rfl rfl ?_
  refine (hP14.put (((((((((((((((mf0.set 2 (.ref a1)).set 4 (.ref a2)).set 5 (.int (nI 1))).set 6 (.ref a3)).set 7 (.ref a4)).set 9 (.ref a5)).set 10 (.ref a6)).set 11 (.ref a7)).set 12 (.ref a8)).set 14 (.ref a9)).set 15 (.ref a10)).set 16 (.ref a11)).set 17 (.ref a12)).set 18 (.ref a13)).set 19 (.ref a14))).gen (fun σ14 hP14 => ?_)
  refine g_aload_n (q := 123) (i := 0) hC dX5_init_122 rfl rfl rfl ?_
  refine g_bipush (q := 125) (v := nI 30) hC dX5_init_123 rfl rfl ?_
  refine g_newa (q := 127) (atype := .int) (t := 2) (ty := .int) (len := 30) (x9 := (30, .inl (fun _ => 0))) hC ka_int rfl rfl (fun _ => rfl) (by decide) (by decide) (by decide) dX5_init_125 (by omega) (by omega) rfl (fun a15 hv => ?_)
  have hP15 := hP14.push hv (.inl (gk M 2, (30, .inl (fun _ => 0))))
  clear hP14 hv
  refine g_putF (q := 130) hC hR kf_X5_58 dX5_init_127 hP15.1 (Nat.le_of_ble_eq_true rfl) rfl rfl rfl ?_
  refine (hP15.put ((((((((((((((((mf0.set 2 (.ref a1)).set 4 (.ref a2)).set 5 (.int (nI 1))).set 6 (.ref a3)).set 7 (.ref a4)).set 9 (.ref a5)).set 10 (.ref a6)).set 11 (.ref a7)).set 12 (.ref a8)).set 14 (.ref a9)).set 15 (.ref a10)).set 16 (.ref a11)).set 17 (.ref a12)).set 18 (.ref a13)).set 19 (.ref a14)).set 20 (.ref a15))).gen (fun σ15 hP15 => ?_)
  have hM : Mod M φ σ15 m (fun c => [a15, a14, a13, a12, a11, a10, a9, a8, a7, a6, a5, a4, a3, a2, a1].getD (15 - c) 0) 0 (inN 0) := by
    obtain ⟨q1, q2, q3, q4, q5⟩ := hP15
    have el : ([(a15, .inl (gk M 2, (30, .inl (fun _ => 0)))), (a14, .inl (gk M 2, (30, .inl (fun _ => 0)))), (a13, .inl (gk M 2, (30, .inl (fun _ => 0)))), (a12, .inl (gk M 2, (30, .inl (fun _ => 0)))), (a11, .inl (gk M 3, (30, .inl (fun _ => 0)))), (a10, .inl (gk M 2, (30, .inl (fun _ => 0)))), (a9, .inl (gk M 2, (30, .inl (fun _ => 0)))), (a8, .inl (gk M 3, (40, .inl (fun _ => 0)))), (a7, .inl (gk M 2, (40, .inl (fun _ => 0)))), (a6, .inl (gk M 2, (40, .inl (fun _ => 0)))), (a5, .inl (gk M 2, (40, .inl (fun _ => 0)))), (a4, .inl (gk M 2, (21, .inl (fun _ => 0)))), (a3, .inl (gk M 1, (168, .inl (fun _ => 0)))), (a2, .inl (gk M 1, (8, .inl (fun _ => 0)))), (a1, .inl (gk M 1, (8, .inl (fun _ => 0))))] : List (Nat × va_E)).map Prod.fst = [a15, a14, a13, a12, a11, a10, a9, a8, a7, a6, a5, a4, a3, a2, a1] := rfl
    rw [el] at q3
    have hc : ∀ c, 1 ≤ c → c ≤ 15 → ∃ q : Nat × va_E, q ∈ ([(a15, .inl (gk M 2, (30, .inl (fun _ => 0)))), (a14, .inl (gk M 2, (30, .inl (fun _ => 0)))), (a13, .inl (gk M 2, (30, .inl (fun _ => 0)))), (a12, .inl (gk M 2, (30, .inl (fun _ => 0)))), (a11, .inl (gk M 3, (30, .inl (fun _ => 0)))), (a10, .inl (gk M 2, (30, .inl (fun _ => 0)))), (a9, .inl (gk M 2, (30, .inl (fun _ => 0)))), (a8, .inl (gk M 3, (40, .inl (fun _ => 0)))), (a7, .inl (gk M 2, (40, .inl (fun _ => 0)))), (a6, .inl (gk M 2, (40, .inl (fun _ => 0)))), (a5, .inl (gk M 2, (40, .inl (fun _ => 0)))), (a4, .inl (gk M 2, (21, .inl (fun _ => 0)))), (a3, .inl (gk M 1, (168, .inl (fun _ => 0)))), (a2, .inl (gk M 1, (8, .inl (fun _ => 0)))), (a1, .inl (gk M 1, (8, .inl (fun _ => 0))))] : List (Nat × va_E)) ∧ q.1 = [a15, a14, a13, a12, a11, a10, a9, a8, a7, a6, a5, a4, a3, a2, a1].getD (15 - c) 0 ∧ q.2 = mCell M (inN 0) c := by
      intro c h1 h2
      have h : c = 1 ∨ c = 2 ∨ c = 3 ∨ c = 4 ∨ c = 5 ∨ c = 6 ∨ c = 7 ∨ c = 8 ∨ c = 9 ∨ c = 10 ∨ c = 11 ∨ c = 12 ∨ c = 13 ∨ c = 14 ∨ c = 15 := by omega
      rcases h with rfl | rfl | rfl | rfl | rfl | rfl | rfl | rfl | rfl | rfl | rfl | rfl | rfl | rfl | rfl
      · exact ⟨_, List.mem_of_getElem? (i := 14) rfl, rfl, rfl⟩
      · exact ⟨_, List.mem_of_getElem? (i := 13) rfl, rfl, rfl⟩
      · exact ⟨_, List.mem_of_getElem? (i := 12) rfl, rfl, rfl⟩
      · exact ⟨_, List.mem_of_getElem? (i := 11) rfl, rfl, rfl⟩
      · exact ⟨_, List.mem_of_getElem? (i := 10) rfl, rfl, rfl⟩
      · exact ⟨_, List.mem_of_getElem? (i := 9) rfl, rfl, rfl⟩
      · exact ⟨_, List.mem_of_getElem? (i := 8) rfl, rfl, rfl⟩
      · exact ⟨_, List.mem_of_getElem? (i := 7) rfl, rfl, rfl⟩
      · exact ⟨_, List.mem_of_getElem? (i := 6) rfl, rfl, rfl⟩
      · exact ⟨_, List.mem_of_getElem? (i := 5) rfl, rfl, rfl⟩
      · exact ⟨_, List.mem_of_getElem? (i := 4) rfl, rfl, rfl⟩
      · exact ⟨_, List.mem_of_getElem? (i := 3) rfl, rfl, rfl⟩
      · exact ⟨_, List.mem_of_getElem? (i := 2) rfl, rfl, rfl⟩
      · exact ⟨_, List.mem_of_getElem? (i := 1) rfl, rfl, rfl⟩
      · exact ⟨_, List.mem_of_getElem? (i := 0) rfl, rfl, rfl⟩
    refine ⟨q1, fun c h1 h2 => ?_, fun c c' h1 h2 h3 h4 e => ?_, q4, q5, fun c h1 h2 => ?_⟩
    · obtain ⟨q, g1, g2, g3⟩ := hc c h1 h2
      show σ15 ([a15, a14, a13, a12, a11, a10, a9, a8, a7, a6, a5, a4, a3, a2, a1].getD (15 - c) 0) = _
      rw [← g2, ← g3]
      exact (q2 q g1).1
    · have h := nd_getD q3 (i := 15 - c) (j := 15 - c') (by show 15 - c < 15; omega) (by show 15 - c' < 15; omega) e
      omega
    · obtain ⟨q, g1, g2, g3⟩ := hc c h1 h2
      show φ ([a15, a14, a13, a12, a11, a10, a9, a8, a7, a6, a5, a4, a3, a2, a1].getD (15 - c) 0) = _
      rw [← g2]
      exact (q2 q g1).2.2
  clear hP15
  generalize (fun c => [a15, a14, a13, a12, a11, a10, a9, a8, a7, a6, a5, a4, a3, a2, a1].getD (15 - c) 0) = ad at hM
  refine g_widen (k9 := 15) (n9 := 601) (by omega) (by omega) ?_
  have loop : ∀ (d9 i : Nat) (σ3 : gS), i + d9 = 30 → Mod M φ σ3 m ad 0 (inN i) → G X M 2 (gQ X M 15 601 (rV fun σ2 => ∃ ad, Mod M φ σ2 m ad 0 (inN 30)) nX) 15 601 σ3 132 [(1, .int (nI i)), (0, .ref m)] [] := by
    intro d9
    induction d9 with
    | zero =>
      intro i σ3 h1 hM3
      refine g_iload_n (q := 133) (i := 1) hC dX5_init_132 rfl rfl rfl ?_
      refine g_bipush (q := 135) (v := nI 30) hC dX5_init_133 rfl rfl ?_
      refine g_icmp_ge (tgt := 172) (q := 138) hC dX5_init_135 (by decide) rfl (fun c_135 => ?_) (fun c_135 => ?_)
      · skip
        exact g_vret hC hR dX5_init_172 (by omega) (by omega) (⟨rfl, ad, by rw [show i = 30 by omega] at hM3; exact hM3⟩)
      · exact absurd (nI_le (show 30 ≤ i by omega) (by omega)) c_135
    | succ d9 ih =>
      intro i σ3 h1 hM3
      have hA := hM3.w12 i (-1)
      have hB := hA.w13 i (-1)
      have hD := hB.w14 i (-1)
      have hE := hD.w15 i (-1)
      refine g_iload_n (q := 133) (i := 1) hC dX5_init_132 rfl rfl rfl ?_
      refine g_bipush (q := 135) (v := nI 30) hC dX5_init_133 rfl rfl ?_
      refine g_icmp_ge (tgt := 172) (q := 138) hC dX5_init_135 (by decide) rfl (fun c_135 => ?_) (fun c_135 => ?_)
      · exact absurd c_135 (nI_ge (show i < 30 by omega) (by omega))
      · refine g_aload_n (q := 139) (i := 0) hC dX5_init_138 rfl rfl rfl ?_
        refine g_getf (q := 142) hC kg_X5_49 dX5_init_139 hM3.1 rfl rfl ?_
        refine g_iload_n (q := 143) (i := 1) hC dX5_init_142 rfl rfl rfl ?_
        refine g_iconst (q := 144) (v := (-1)) hC dX5_init_143 rfl rfl ?_
        refine g_iast (q := 145) hC dX5_init_144 hM3.a12 (vp_in_nI (by omega) (by omega)) rfl ?_
        rw [nI_clamp (by omega)]
        refine g_aload_n (q := 146) (i := 0) hC dX5_init_145 rfl rfl rfl ?_
        refine g_getf (q := 149) hC kg_X5_52 dX5_init_146 hA.1 rfl rfl ?_
        refine g_iload_n (q := 150) (i := 1) hC dX5_init_149 rfl rfl rfl ?_
        refine g_iconst (q := 151) (v := (-1)) hC dX5_init_150 rfl rfl ?_
        refine g_iast (q := 152) hC dX5_init_151 hA.a13 (vp_in_nI (by omega) (by omega)) rfl ?_
        rw [nI_clamp (by omega)]
        refine g_aload_n (q := 153) (i := 0) hC dX5_init_152 rfl rfl rfl ?_
        refine g_getf (q := 156) hC kg_X5_55 dX5_init_153 hB.1 rfl rfl ?_
        refine g_iload_n (q := 157) (i := 1) hC dX5_init_156 rfl rfl rfl ?_
        refine g_iconst (q := 158) (v := (-1)) hC dX5_init_157 rfl rfl ?_
        refine g_iast (q := 159) hC dX5_init_158 hB.a14 (vp_in_nI (by omega) (by omega)) rfl ?_
        rw [nI_clamp (by omega)]
        refine g_aload_n (q := 160) (i := 0) hC dX5_init_159 rfl rfl rfl ?_
        refine g_getf (q := 163) hC kg_X5_58 dX5_init_160 hD.1 rfl rfl ?_
        refine g_iload_n (q := 164) (i := 1) hC dX5_init_163 rfl rfl rfl ?_
        refine g_iconst (q := 165) (v := (-1)) hC dX5_init_164 rfl rfl ?_
        refine g_iast (q := 166) hC dX5_init_165 hD.a15 (vp_in_nI (by omega) (by omega)) rfl ?_
        rw [nI_clamp (by omega)]
        rw [inN_s] at hE
        refine g_iinc (q := 169) (i := 1) (v := (nI (i + 1))) hC dX5_init_166 rfl (nI_1 _) rfl ?_
        refine g_goto (tgt := 132) hC dX5_init_169 (by decide) ?_
        refine g_sub (lv0 := [(1, .int (nI (i + 1))), (0, .ref m)]) ⟨rfl, rfl, trivial⟩ ?_
        exact ih (i + 1) _ (by omega) hE
  refine g_iconst (q := 131) (v := nI 0) hC dX5_init_130 rfl rfl ?_
  refine g_istore_n (q := 132) (i := 1) hC dX5_init_131 rfl (by decide) rfl ?_
  refine g_sub (lv0 := [(1, .int (nI 0)), (0, .ref m)]) ⟨rfl, rfl, trivial⟩ ?_
  exact loop 30 0 _ (by omega) hM
