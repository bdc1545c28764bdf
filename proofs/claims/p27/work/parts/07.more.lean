/-! ===== more rows: arrays of references, casts, natives, throws, handlers ===== -/
/-- the map as a list, below N -/
def gWs (σ : gS) (N : Nat) : va_W := (List.range N).filterMap (fun a => (σ a).map (fun e => (a, e)))
theorem gWs_mem {σ : gS} {N : Nat} {q : Nat × va_E} : q ∈ gWs σ N ↔ q.1 < N ∧ σ q.1 = some q.2 := by
  constructor
  · intro h
    obtain ⟨i, hi, he⟩ := List.mem_filterMap.mp h
    cases hg : σ i with
    | none => rw [hg] at he; cases he
    | some v => rw [hg] at he; cases he; exact ⟨List.mem_range.mp hi, hg⟩
  · intro ⟨h1, h2⟩
    exact List.mem_filterMap.mpr ⟨q.1, List.mem_range.mpr h1, by rw [h2]; rfl⟩
theorem gWs_nd (σ : gS) (N : Nat) : ((gWs σ N).map Prod.fst).Nodup := by
  have e : ∀ l : List Nat, ((l.filterMap (fun a => (σ a).map (fun e => (a, e)))).map Prod.fst) = l.filter (fun a => (σ a).isSome) := by
    intro l
    induction l with
    | nil => rfl
    | cons a r ih =>
      cases h : σ a with
      | none => simp [h, ih]
      | some v => simp [h, ih]
  unfold gWs
  rw [e]
  exact List.Pairwise.filter _ List.nodup_range
theorem gWs_P {M : gMT} {σ : gS} {H : Heap} (h : gRep M σ H) : va_P (gD M) gCl (gWs σ H.size) H := fun k q hk => (h q.1 q.2 (gWs_mem.mp (List.mem_of_getElem? hk)).2).1
theorem gWs_inj {σ : gS} {N i j : Nat} {p q : Nat × va_E} (hi : (gWs σ N)[i]? = some p) (hj : (gWs σ N)[j]? = some q) (e : p.1 = q.1) : i = j := by
  have h1 : ((gWs σ N).map Prod.fst)[i]? = some p.1 := by rw [List.getElem?_map, hi]; rfl
  have h2 : ((gWs σ N).map Prod.fst)[j]? = some p.1 := by rw [List.getElem?_map, hj, e]; rfl
  have hl : i < ((gWs σ N).map Prod.fst).length := (List.getElem?_eq_some_iff.mp h1).1
  have hl2 : j < ((gWs σ N).map Prod.fst).length := (List.getElem?_eq_some_iff.mp h2).1
  have g1 := (List.getElem?_eq_some_iff.mp h1).2
  have g2 := (List.getElem?_eq_some_iff.mp h2).2
  have hp := List.pairwise_iff_getElem.mp (gWs_nd σ N)
  rcases Nat.lt_trichotomy i j with c | c | c
  · exact absurd (g1.trans g2.symm) (hp i j hl hl2 c)
  · exact c
  · exact absurd (g2.trans g1.symm) (hp j i hl2 hl c)
theorem gWs_D {M : gMT} {σ : gS} {H : Heap} (h : gRep M σ H) : va_D (gA M) (gWs σ H.size) := ⟨fun i j p q hi hj e => gWs_inj hi hj e, fun k q hk => (h q.1 q.2 (gWs_mem.mp (List.mem_of_getElem? hk)).2).2⟩
theorem gWs_at {M : gMT} {σ : gS} {H : Heap} (h : gRep M σ H) {a : Nat} {e : va_E} (ha : σ a = some e) : ∃ k : Nat, (gWs σ H.size)[k]? = some (a, e) := List.getElem?_of_mem (gWs_mem.mpr ⟨h.lt ha, ha⟩)
theorem gWs_up {M : gMT} {σ : gS} {H H1 : Heap} (h : gRep M σ H) {a k : Nat} {e e2 : va_E} (hk : (gWs σ H.size)[k]? = some (a, e)) (h1 : va_P (gD M) gCl ((gWs σ H.size).set k (a, e2)) H1) : gRep M (gUp σ a e2) H1 := by
  have hl := (List.getElem?_eq_some_iff.mp hk).1
  intro b eb hb
  by_cases hba : b = a
  · subst hba
    rw [gUp_self] at hb
    cases hb
    exact ⟨h1 k (b, e2) (List.getElem?_set_self hl), (h b e (gWs_mem.mp (List.mem_of_getElem? hk)).2).2⟩
  · rw [gUp_ne _ _ hba] at hb
    obtain ⟨j, hj⟩ := gWs_at h hb
    refine ⟨h1 j (b, eb) ?_, (h b eb hb).2⟩
    rw [List.getElem?_set_ne (fun z => hba ?_)]
    · exact hj
    · subst z
      rw [hk] at hj
      cases hj
      rfl
section GM
variable {X : gX} {M : gMT} {own : String} {cc : ByteArray} {nL d mc ms : Nat} {Q : State → Prop} {k n : Nat} {σ : gS} {pc q : Nat} {lv : List (Nat × Value)} {st st0 rest : List Value}
variable {P : Option Value → gS → Prop} {PX : String → gS → Prop}
theorem g_aast (hC : gOk X M own cc nL d mc ms) {a len v ci : Nat} {C : String} {T : u_T} {N : Nat} {vs : List Value} {f : Nat → Option Nat} {i : Int32} (hdg : decode cc pc = .ok (.aastore, 1)) (hσ : σ a = some (aQ M len f)) (hv : σ v = some (oB ci vs)) (hc : gCl[ci]? = some (C, T, N)) (hca : (C, "java/lang/Object") ∈ gCast) (hin : vp_in i len) (hq : pc + 1 = q) (kk : G X M nL Q k n (gUp σ a (aQ M len (va_up f i.toNatClampNeg (some v)))) q lv st) : G X M nL Q k n σ pc lv (.ref v :: .int i :: .ref a :: st) := by
  subst hq
  intro H locs ls hP hS hl
  obtain ⟨k0, hk0⟩ := gWs_at hP hσ
  obtain ⟨k1, hk1⟩ := gWs_at hP hv
  exact va_astqO hC.x hC.b hC.k (gWs_P hP) (gWs_D hP) hS k0 5 k1 ci (r := (C, T, N)) (E := "java/lang/Object") hk0 rfl (hC.amb.2.2.2.2.2.2.2.2.1 _ hca) hk1 hc hin hdg (fun H1 locs1 h1 _ hS1 => kk H1 locs1 ls (gWs_up hP hk0 h1) hS1 hl)
theorem g_aastN (hC : gOk X M own cc nL d mc ms) {a len : Nat} {f : Nat → Option Nat} {i : Int32} (hdg : decode cc pc = .ok (.aastore, 1)) (hσ : σ a = some (aQ M len f)) (hin : vp_in i len) (hq : pc + 1 = q) (kk : G X M nL Q k n (gUp σ a (aQ M len (va_up f i.toNatClampNeg none))) q lv st) : G X M nL Q k n σ pc lv (.null :: .int i :: .ref a :: st) := by
  subst hq
  intro H locs ls hP hS hl
  obtain ⟨k0, hk0⟩ := gWs_at hP hσ
  exact va_astqN hC.x hC.b hC.k (gWs_P hP) (gWs_D hP) hS k0 5 (C := "java/lang/Object") hk0 rfl hin hdg (fun H1 locs1 h1 _ hS1 => kk H1 locs1 ls (gWs_up hP hk0 h1) hS1 hl)
theorem g_anew (hC : gOk X M own cc nL d mc ms) {index len : Nat} {i : Int32} (hw : Cond.classLink own index "java/lang/Object" ∈ wG) (hdg : decode cc pc = .ok (.anewarray index, 3)) (hi : ¬ i < 0) (hlen : i.toNatClampNeg = len) (hb9 : len * 4 ≤ 536870912) (h1 : k + 1 ≤ mc) (h2 : n + len ≤ ms) (hq : pc + 3 = q) (kk : ∀ a : Nat, σ a = none → G X M nL Q (k + 1) (n + len) (gUp σ a (aQ M len (fun _ => none))) q lv (.ref a :: st)) : G X M nL Q k n σ pc lv (.int i :: st) := by
  subst hq
  subst hlen
  intro H locs ls hP hS hl
  refine W.anew hC.x hC.b hC.ow (hC.ts hw) (va_AO.use hC.amb.2.2.2.2.2.2.1) rfl hdg rfl hi hb9 (Nat.le_trans h1 hC.2.2.2.2.2.2.2.2.1) (Nat.le_trans h2 hC.2.2.2.2.2.2.2.2.2.1) fun cA kA comp f1 f2 f3 f4 => ?_
  obtain ⟨kB, comp2, g1, g2, g3, g4⟩ := (hC.k.2 5 _ rfl).2
  have hcA : cA = gk M 5 := Option.some.inj (f1.symm.trans g4)
  subst hcA
  generalize hH1 : H.push ({ cls := gk M 5, slots := Array.replicate i.toNatClampNeg .null, vm := .none } : Cell) = H1
  have z1 : H1.size = H.size + 1 := by rw [← hH1, Array.size_push]
  have e1 : H1[H.size]? = some (arrV (gk M 5) i.toNatClampNeg (fun _ => .null)) := by rw [← hH1, Array.getElem?_push_size, ← arrV_new]
  have o1 : ∀ q : Nat, q < H.size → H1[q]? = H[q]? := fun q hq => by rw [← hH1, Array.getElem?_push, if_neg (Nat.ne_of_lt hq)]
  refine kk H.size hP.fresh H1 locs ls (hP.up (e := aQ M i.toNatClampNeg (fun _ => none)) ?_ (hC.base _ hS.1) (fun y _ hy => o1 y hy)) ⟨Nat.le_trans hS.1 (by omega), fun x g1 g2 => (o1 x (Nat.lt_of_lt_of_le g1 hS.1)).trans (hS.2.1 x g1 g2), hS.2.2⟩ hl
  show H1[H.size]? = some (vp_cell _ _)
  rw [vp_cell_q]
  exact e1
/-- checkcast to the object's own class -/
theorem g_ccast (hC : gOk X M own cc nL d mc ms) {index a ci : Nat} {C : String} {T : u_T} {N : Nat} {fs : List Value} (hw : Cond.classLink own index C ∈ wG) (hdg : decode cc pc = .ok (.checkcast index, 3)) (hc : gCl[ci]? = some (C, T, N)) (ha : σ a = some (oB ci fs)) (hq : pc + 3 = q) (kk : G X M nL Q k n σ q lv (.ref a :: st)) : G X M nL Q k n σ pc lv (.ref a :: st) := by
  subst hq
  exact fun H locs ls hP hS hl => va_castS hC.x hC.b hC.ow (hC.ts hw) (hC.k.1 ci _ hc).2 (gRecv hC hP hc ha) hdg (kk H locs ls hP hS hl)
theorem g_getsF (hC : gOk X M own cc nL d mc ms) {index : Nat} (hlk : Cond.fieldLink own index "jdk/internal/util/Preconditions" "SIOOBE_FORMATTER" "Ljava/util/function/BiFunction;" ∈ wG) (hdg : decode cc pc = .ok (.getstatic index, 3)) (hq : pc + 3 = q) (kk : ∀ o : Option Nat, G X M nL Q k n σ q lv (va_rf o :: st)) : G X M nL Q k n σ pc lv st := by
  subst hq
  intro H locs ls hP hS hl
  rcases hC.amb.2.2.2.2.2.2.2.2.2.2.2.2.2 with h | ⟨t, h⟩
  · exact va_gets hC.x hC.b h hS hC.ow (hC.ts hlk) (fun _ h9 => h9) hdg (kk none H locs ls hP hS hl)
  · exact va_gets hC.x hC.b h hS hC.ow (hC.ts hlk) (fun _ h9 => h9) hdg (kk (some t) H locs ls hP hS hl)
/-- 'throw new E("text")' out of the method -/
def gThr (own : String) (ik is ic : Nat) (cls text : String) : Prop :=
  own = RX4 ∧ (is, text) ∈ gStr ∧ (cls, cls) ∈ gCast ∧ Bundle.fit cls = true ∧ Cond.classLink own ik cls ∈ wG ∧ Cond.initialized cls ∈ wG ∧
  ((vx_atS own ic cls ["java/lang/RuntimeException", "java/lang/Exception"]).all (fun w => (goodWord w && decide (w ∈ lw_tbl)) || decide (w = .castable cls cls) || decide (w ∈ gDecl.map Cond.declares))) = true ∧
  ((Cond.classLink own ik cls :: Cond.initialized cls :: vx_atS own ic cls ["java/lang/RuntimeException", "java/lang/Exception"]).all vx_ot) = true
theorem g_throwS {ret : Option FieldType} {nm : String} (hC : gOk X M own cc nL d mc ms) (hR : gRet X ret nm) (htb : ∀ x ∈ (xc X).exceptionTable.toList, False) {ik is ic : Nat} {cls text : String} (hw : gThr own ik is ic cls text) (d0 : decode cc pc = .ok (.new ik, 3)) (d3 : decode cc (pc + 3) = .ok (.dup, 1)) (d4 : decode cc (pc + 4) = .ok (.ldc is, 2)) (d6 : decode cc (pc + 6) = .ok (.invokespecial ic, 3)) (d9 : decode cc (pc + 9) = .ok (.athrow, 1)) (hd : 6 ≤ d) (hcat : (st.map fun v => v.category).sum ≤ 8) (hk : k + 1 ≤ mc) (hn : n + 6 ≤ ms) (hp : PX cls σ) : G X M nL (gQ X M mc ms P PX) k n σ pc lv st := by
  intro H locs ls hP hS hl
  obtain ⟨rfl, w1, w2, w3, w4, w5, w6, w7⟩ := hw
  obtain ⟨sa, hsa⟩ := hC.amb.2.2.2.2.2.2.2.1 _ w1
  have hd1 := hC.2.2.2.2.2.2.1
  have hd2 := hC.2.2.2.2.2.2.2.1
  refine vx_throwS (names := ["java/lang/RuntimeException", "java/lang/Exception"]) hC.x hC.b hC.fl hC.ow w3 (by decide +kernel) (hC.ts w4) (hC.ts w5) hsa ?_ (fun w hw => List.all_eq_true.mp w7 w hw) hC.amb.2.2.2.2.1 hC.amb.2.2.2.2.2.1 hS (hl.1.trans hC.nl.symm) d0 d3 d4 d6 d9 (fun x hx => (htb x hx).elim) (by show 2 + 3 < _; omega) (by show _ + (13 * (2 + 1) + 43) ≤ _; omega) (Nat.le_trans hk hC.2.2.2.2.2.2.2.2.1) (Nat.le_trans hn hC.2.2.2.2.2.2.2.2.2.1) hR.2.1 ?_ hS.2.2 hk hn
  · intro w hw
    have h1 := List.all_eq_true.mp w6 w hw
    simp only [Bool.or_eq_true, Bool.and_eq_true, decide_eq_true_eq] at h1
    rcases h1 with (⟨h2, h3⟩ | h2) | h2
    · exact hC.ts (wG_in h3 h2)
    · subst h2
      exact va_Nw.use rfl (hC.amb.2.2.2.2.2.2.2.2.1 _ w2)
    · obtain ⟨y, hy, rfl⟩ := List.mem_map.mp h2
      exact va_Nw.use rfl (hC.amb.2.2.2.2.2.2.2.2.2.2.1 _ hy)
  · intro t hvm hz hkeep
    refine ⟨σ, hp, hP.kept hkeep, Nat.le_trans hS.1 hz, fun y h1 h2 => ?_⟩
    rw [hkeep y (Nat.lt_of_lt_of_le h1 hS.1)]
    exact hS.2.1 y h1 h2
end GM
