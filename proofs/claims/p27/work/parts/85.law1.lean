/-! ===== the law: words, methods with handlers (by wip/p27/gen_law.py) ===== -/
def hL_types : List (Nat × Nat × Nat × Nat) := [(0, 5, 6, 13), (0, 5, 10, 16)]
theorem md_L_types : gMd yL_types (.codeWith yL_types cL_types 3 (some .int) hL_types) 2 := ⟨(wG_in (tb_1 (List.mem_of_getElem? (i := 0) (by decide +kernel))) (by decide +kernel)), (wG_in (tb_2 (List.mem_of_getElem? (i := 31) (by decide +kernel))) (by decide +kernel)), ⟨by decide, by decide⟩, by decide +kernel⟩
def hL_backs : List (Nat × Nat × Nat × Nat) := [(0, 4, 5, 16)]
theorem md_L_backs : gMd yL_backs (.codeWith yL_backs cL_backs 2 (some .int) hL_backs) 1 := ⟨(wG_in (tb_1 (List.mem_of_getElem? (i := 0) (by decide +kernel))) (by decide +kernel)), (wG_in (tb_5 (List.mem_of_getElem? (i := 40) (by decide +kernel))) (by decide +kernel)), ⟨by decide, by decide⟩, by decide +kernel⟩
def hL_makes : List (Nat × Nat × Nat × Nat) := [(0, 4, 5, 16)]
theorem md_L_makes : gMd yL_makes (.codeWith yL_makes cL_makes 2 (some .int) hL_makes) 1 := ⟨(wG_in (tb_1 (List.mem_of_getElem? (i := 0) (by decide +kernel))) (by decide +kernel)), (wG_in (tb_4 (List.mem_of_getElem? (i := 66) (by decide +kernel))) (by decide +kernel)), ⟨by decide, by decide⟩, by decide +kernel⟩
def hL_movesProject : List (Nat × Nat × Nat × Nat) := [(0, 5, 6, 30), (0, 5, 10, 16)]
theorem md_L_movesProject : gMd yL_movesProject (.codeWith yL_movesProject cL_movesProject 3 (some .int) hL_movesProject) 2 := ⟨(wG_in (tb_1 (List.mem_of_getElem? (i := 0) (by decide +kernel))) (by decide +kernel)), (wG_in (tb_2 (List.mem_of_getElem? (i := 214) (by decide +kernel))) (by decide +kernel)), ⟨by decide, by decide⟩, by decide +kernel⟩
def hL_letter : List (Nat × Nat × Nat × Nat) := [(0, 6, 7, 30)]
theorem md_L_letter : gMd yL_letter (.codeWith yL_letter cL_letter 4 (some .int) hL_letter) 3 := ⟨(wG_in (tb_1 (List.mem_of_getElem? (i := 0) (by decide +kernel))) (by decide +kernel)), (wG_in (tb_3 (List.mem_of_getElem? (i := 91) (by decide +kernel))) (by decide +kernel)), ⟨by decide, by decide⟩, by decide +kernel⟩
def hL_makesFile : List (Nat × Nat × Nat × Nat) := [(0, 6, 7, 30), (0, 6, 11, 16)]
theorem md_L_makesFile : gMd yL_makesFile (.codeWith yL_makesFile cL_makesFile 4 (some .int) hL_makesFile) 3 := ⟨(wG_in (tb_1 (List.mem_of_getElem? (i := 0) (by decide +kernel))) (by decide +kernel)), (wG_in (tb_3 (List.mem_of_getElem? (i := 99) (by decide +kernel))) (by decide +kernel)), ⟨by decide, by decide⟩, by decide +kernel⟩
def hL_writes : List (Nat × Nat × Nat × Nat) := [(0, 6, 7, 30), (0, 6, 11, 13)]
theorem md_L_writes : gMd yL_writes (.codeWith yL_writes cL_writes 4 (some .int) hL_writes) 3 := ⟨(wG_in (tb_1 (List.mem_of_getElem? (i := 0) (by decide +kernel))) (by decide +kernel)), (wG_in (tb_3 (List.mem_of_getElem? (i := 162) (by decide +kernel))) (by decide +kernel)), ⟨by decide, by decide⟩, by decide +kernel⟩
def hL_deletes : List (Nat × Nat × Nat × Nat) := [(0, 5, 6, 30)]
theorem md_L_deletes : gMd yL_deletes (.codeWith yL_deletes cL_deletes 3 (some .int) hL_deletes) 2 := ⟨(wG_in (tb_1 (List.mem_of_getElem? (i := 0) (by decide +kernel))) (by decide +kernel)), (wG_in (tb_3 (List.mem_of_getElem? (i := 175) (by decide +kernel))) (by decide +kernel)), ⟨by decide, by decide⟩, by decide +kernel⟩
def hL_movesFile : List (Nat × Nat × Nat × Nat) := [(0, 6, 7, 30)]
theorem md_L_movesFile : gMd yL_movesFile (.codeWith yL_movesFile cL_movesFile 4 (some .int) hL_movesFile) 3 := ⟨(wG_in (tb_1 (List.mem_of_getElem? (i := 0) (by decide +kernel))) (by decide +kernel)), (wG_in (tb_3 (List.mem_of_getElem? (i := 182) (by decide +kernel))) (by decide +kernel)), ⟨by decide, by decide⟩, by decide +kernel⟩
def hL_reserves : List (Nat × Nat × Nat × Nat) := [(0, 6, 7, 30), (0, 6, 11, 13), (0, 6, 15, 16)]
theorem md_L_reserves : gMd yL_reserves (.codeWith yL_reserves cL_reserves 4 (some .int) hL_reserves) 3 := ⟨(wG_in (tb_1 (List.mem_of_getElem? (i := 0) (by decide +kernel))) (by decide +kernel)), (wG_in (tb_3 (List.mem_of_getElem? (i := 189) (by decide +kernel))) (by decide +kernel)), ⟨by decide, by decide⟩, by decide +kernel⟩
def hL_settles : List (Nat × Nat × Nat × Nat) := [(0, 6, 7, 30), (0, 6, 11, 13)]
theorem md_L_settles : gMd yL_settles (.codeWith yL_settles cL_settles 4 (some .int) hL_settles) 3 := ⟨(wG_in (tb_1 (List.mem_of_getElem? (i := 0) (by decide +kernel))) (by decide +kernel)), (wG_in (tb_3 (List.mem_of_getElem? (i := 215) (by decide +kernel))) (by decide +kernel)), ⟨by decide, by decide⟩, by decide +kernel⟩
def hL_limits : List (Nat × Nat × Nat × Nat) := [(0, 11, 14, 30), (0, 11, 19, 13)]
theorem md_L_limits : gMd yL_limits (.codeWith yL_limits cL_limits 7 (some .int) hL_limits) 6 := ⟨(wG_in (tb_1 (List.mem_of_getElem? (i := 0) (by decide +kernel))) (by decide +kernel)), (wG_in (tb_3 (List.mem_of_getElem? (i := 223) (by decide +kernel))) (by decide +kernel)), ⟨by decide, by decide⟩, by decide +kernel⟩
def hL_passes : List (Nat × Nat × Nat × Nat) := [(0, 5, 6, 13), (0, 5, 10, 16)]
theorem md_L_passes : gMd yL_passes (.codeWith yL_passes cL_passes 3 (some .int) hL_passes) 2 := ⟨(wG_in (tb_1 (List.mem_of_getElem? (i := 0) (by decide +kernel))) (by decide +kernel)), (wG_in (tb_3 (List.mem_of_getElem? (i := 236) (by decide +kernel))) (by decide +kernel)), ⟨by decide, by decide⟩, by decide +kernel⟩
def hL_used : List (Nat × Nat × Nat × Nat) := [(0, 6, 7, 30)]
theorem md_L_used : gMd yL_used (.codeWith yL_used cL_used 4 (some .int) hL_used) 3 := ⟨(wG_in (tb_1 (List.mem_of_getElem? (i := 0) (by decide +kernel))) (by decide +kernel)), (wG_in (tb_4 (List.mem_of_getElem? (i := 5) (by decide +kernel))) (by decide +kernel)), ⟨by decide, by decide⟩, by decide +kernel⟩
def hL_files : List (Nat × Nat × Nat × Nat) := [(0, 6, 7, 30)]
theorem md_L_files : gMd yL_files (.codeWith yL_files cL_files 4 (some .int) hL_files) 3 := ⟨(wG_in (tb_1 (List.mem_of_getElem? (i := 0) (by decide +kernel))) (by decide +kernel)), (wG_in (tb_4 (List.mem_of_getElem? (i := 12) (by decide +kernel))) (by decide +kernel)), ⟨by decide, by decide⟩, by decide +kernel⟩
def hL_usedAnew : List (Nat × Nat × Nat × Nat) := [(0, 6, 7, 30)]
theorem md_L_usedAnew : gMd yL_usedAnew (.codeWith yL_usedAnew cL_usedAnew 4 (some .int) hL_usedAnew) 3 := ⟨(wG_in (tb_1 (List.mem_of_getElem? (i := 0) (by decide +kernel))) (by decide +kernel)), (wG_in (tb_4 (List.mem_of_getElem? (i := 19) (by decide +kernel))) (by decide +kernel)), ⟨by decide, by decide⟩, by decide +kernel⟩
def hL_grace : List (Nat × Nat × Nat × Nat) := [(0, 6, 7, 30)]
theorem md_L_grace : gMd yL_grace (.codeWith yL_grace cL_grace 4 (some .int) hL_grace) 3 := ⟨(wG_in (tb_1 (List.mem_of_getElem? (i := 0) (by decide +kernel))) (by decide +kernel)), (wG_in (tb_4 (List.mem_of_getElem? (i := 30) (by decide +kernel))) (by decide +kernel)), ⟨by decide, by decide⟩, by decide +kernel⟩
def hL_room : List (Nat × Nat × Nat × Nat) := [(0, 5, 6, 30)]
theorem md_L_room : gMd yL_room (.codeWith yL_room cL_room 3 (some .int) hL_room) 2 := ⟨(wG_in (tb_1 (List.mem_of_getElem? (i := 0) (by decide +kernel))) (by decide +kernel)), (wG_in (tb_4 (List.mem_of_getElem? (i := 38) (by decide +kernel))) (by decide +kernel)), ⟨by decide, by decide⟩, by decide +kernel⟩
def hL_recounts : List (Nat × Nat × Nat × Nat) := [(0, 5, 6, 13), (0, 5, 10, 16)]
theorem md_L_recounts : gMd yL_recounts (.codeWith yL_recounts cL_recounts 3 (some .int) hL_recounts) 2 := ⟨(wG_in (tb_1 (List.mem_of_getElem? (i := 0) (by decide +kernel))) (by decide +kernel)), (wG_in (tb_4 (List.mem_of_getElem? (i := 46) (by decide +kernel))) (by decide +kernel)), ⟨by decide, by decide⟩, by decide +kernel⟩
def hL_counted : List (Nat × Nat × Nat × Nat) := [(0, 6, 7, 30), (0, 6, 11, 16)]
theorem md_L_counted : gMd yL_counted (.codeWith yL_counted cL_counted 4 (some .int) hL_counted) 3 := ⟨(wG_in (tb_1 (List.mem_of_getElem? (i := 0) (by decide +kernel))) (by decide +kernel)), (wG_in (tb_4 (List.mem_of_getElem? (i := 59) (by decide +kernel))) (by decide +kernel)), ⟨by decide, by decide⟩, by decide +kernel⟩
theorem lwk_13 : Cond.classLink RL 13 eA ∈ wG := (wG_in (tb_2 (List.mem_of_getElem? (i := 32) (by decide +kernel))) (by decide +kernel))
theorem lwk_16 : Cond.classLink RL 16 eS ∈ wG := (wG_in (tb_2 (List.mem_of_getElem? (i := 33) (by decide +kernel))) (by decide +kernel))
theorem lwk_30 : Cond.classLink RL 30 eI ∈ wG := (wG_in (tb_2 (List.mem_of_getElem? (i := 215) (by decide +kernel))) (by decide +kernel))
/-- a contract of a method with handlers -/
theorem g_conW {l : Launch} {M : gMT} {y : MethodName} {cc : ByteArray} {maxL : Nat} {ret : Option FieldType} {hh : List (Nat × Nat × Nat × Nat)} {d mc ms : Nat} {av : List Value} {σ : gS} {P : Option Value → gS → Prop} {PX : String → gS → Prop} {lv : List (Nat × Value)} (hfl : l.stackTraces = false)
    (hy : plainName y.cls = true) (hlv : lv_args 0 av = lv) (hcat : lv.all (fun q => q.2.category == 1) = true) (hn : (lg_sl av).length ≤ maxL)
    (body : ∀ X : gX, xl X = l → gOk X M y.cls cc maxL d mc ms → gRet X ret y.name → (xc X).exceptionTable.toList = tableOf hh → G X M maxL (gQ X M mc ms P PX) 0 0 σ 0 lv []) : Con l M y (.codeWith y cc maxL ret hh) d mc ms av σ P PX := by
  refine vx_ofWH (cc := cc) (maxL := maxL) (ret := ret) (hh := hh) hy rfl ?_
  intro p e s m args below meth c s₁ B hml hv
  obtain ⟨rfl, hA, hP, hbs⟩ := hv
  have hts := atoms_spec (ws := .codeWith y cc maxL ret hh :: wG) B.pre
  have ht := vx_table (x := y) (y := y) (bytes := cc) (maxL' := maxL) (ret' := ret) (hh := hh) B (hts _ List.mem_cons_self)
  have hlocks := B.notSynchronized
  have h := body (p, l, e, gRoom d mc ms, s, m, av.toArray, below, meth, c) rfl ⟨B.exec, B.bytes, hml, findClass_of_methodNamed B.named, fun w hw => hts w (List.mem_cons_of_mem _ hw), hA, Nat.le_refl _, Nat.le_refl _, Nat.le_refl _, Nat.le_refl _, hbs, hfl⟩ ⟨B.returns, hlocks, (name_of_methodNamed B.named B.method).1⟩ ht
  rw [lg_entry_eq]
  have hl := lv_entry av (n := maxL) hn
  rw [hlv] at hl
  exact h s.heap [] _ hP va_S.rf (gL_of_has hl hcat)
section GH
variable {X : gX} {M : gMT} {own : String} {cc : ByteArray} {nL d mc ms : Nat} {Q : State → Prop} {k n : Nat} {σ : gS} {pc q : Nat} {lv : List (Nat × Value)} {st st0 rest : List Value}
variable {P : Option Value → gS → Prop} {PX : String → gS → Prop}
/-- caught by the row x of the method's table -/
theorem g_catch (hC : gOk X M own cc nL d mc ms) {E name : String} (pre : List ExceptionTableEntry) (x : ExceptionTableEntry) (suf : List ExceptionTableEntry) (hsplit : (xc X).exceptionTable.toList = pre ++ x :: suf)
    (hpass : ∀ z ∈ pre, covers z pc = false ∨ (z.catchType ≠ 0 ∧ ∃ nm : String, Cond.classLink own z.catchType nm ∈ wG ∧ (E, nm) ∈ gNcs)) (hx : covers x pc = true) (h0 : x.catchType ≠ 0) (hlink : Cond.classLink own x.catchType name ∈ wG) (hcast : (E, name) ∈ gCast)
    (kk : ∀ q : Nat, G X M nL Q k n σ x.handlerPc lv [.ref q]) : GX X M nL Q k n σ pc lv E := by
  intro H locs ls rest q ce hP hS hl hc hv hcl
  have h9 := hC.amb.2.2.2.2.2.2.2.2.1
  have h10 := hC.amb.2.2.2.2.2.2.2.2.2.1
  refine vx_catch hC.ow pre x suf hsplit (fun z hz => ?_) hx h0 (hC.ts hlink) (va_Nw.use rfl (h9 _ hcast)) hc hv hcl (kk q H locs ls hP hS hl)
  rcases hpass z hz with h | ⟨h1, nm, h2, h3⟩
  · exact Or.inl h
  · exact Or.inr ⟨h1, nm, hC.ts h2, h10 _ h3⟩
/-- a static call of a method with handlers -/
theorem g_runSH (hC : gOk X M own cc nL d mc ms) {index na d9 mc9 ms9 maxL : Nat} {y : MethodName} {bytes : ByteArray} {ret : Option FieldType} {hh : List (Nat × Nat × Nat × Nat)} {As : List Value} (hw : gSl own index y) (hm : gMd y (.codeWith y bytes maxL ret hh) na) (hcon : Con (xl X) M y (.codeWith y bytes maxL ret hh) d9 mc9 ms9 As σ P PX) (hdg : decode cc pc = .ok (.invokestatic index, 3)) (hd : d9 < d) (hml : maxL ≤ 40) (hk : k + mc9 ≤ mc) (hn : n + ms9 ≤ ms) (hna : As.length = na) (hst : st0 = As.reverse ++ rest) (hcat : (rest.map fun v => v.category).sum ≤ 8) : gRun X M nL k n mc9 ms9 σ pc lv st0 rest P PX := by
  intro H locs ls hP hS hl
  obtain ⟨hr1, hr2⟩ := gRm (maxL := maxL) (mc9 := mc9) (ms9 := ms9) hC hd hml
  exact vx_runSX (As := As) (hh := hh) hC.fix hcon ⟨⟨rfl, rfl, hr1, hr2, wG_pay hC.2.2.2.2.1 hm.2.1, List.mem_cons_self⟩, hC.ts hm.2.1, hC.ts hm.1, hm.2.2.1, hm.len, hC.ts hw.1, hC.ts hw.2⟩ ⟨gPc_blind, gPre hC hP hS⟩ rfl hna hl.1 hst (lv_room hcat) hdg (gFt hC hk hn)
end GH
/-! ===== one ledger's cells among others': the frame rule ===== -/
/-- the surroundings with the cells of φ kept out -/
def gOut (M : gMT) (φ : gS) : gMT := (M.1, M.2.1, M.2.2.1, M.2.2.2.1, M.2.2.2.2.1, fun a => gXc M a ∨ φ a ≠ none, M.2.2.2.2.2.2)
def Sep (σ σ1 φ : gS) : Prop := ∀ a, (φ a = none → σ a = σ1 a) ∧ ∀ e, φ a = some e → σ a = some e ∧ σ1 a = none
theorem gA_out {M : gMT} {φ : gS} {q : Nat} : gA (gOut M φ) q ↔ gA M q ∧ φ q = none := by
  constructor
  · rintro ⟨h1, h2⟩
    refine ⟨⟨h1, fun z => h2 (Or.inl z)⟩, ?_⟩
    cases h : φ q with
    | none => rfl
    | some e => exact absurd (Or.inr (by rw [h]; exact fun z => nomatch z)) h2
  · rintro ⟨⟨h1, h2⟩, h3⟩
    exact ⟨h1, fun z => z.elim h2 (fun y => y h3)⟩
theorem gAmb_out {M : gMT} {φ : gS} {U : State} {H : Heap} (h : gAmb M U H) : gAmb (gOut M φ) U H := by
  have hn : ∀ q, gA (gOut M φ) q → gA M q := fun q hq => ((gA_out (M := M) (φ := φ)).mp hq).1
  obtain ⟨h1, h2, h3, h4, h5, h6, h7, h8, h9, h10, h11, h12, h13, h14⟩ := h
  exact ⟨h1, h2, va_Z.narrow h3 hn, va_Z.narrow h4 hn, vx_Zq.narrow h5 hn, vx_Zq.narrow h6 hn, h7, h8, h9, h10, h11, h12, h13, va_Zq.narrow h14 hn⟩
theorem Sep.own {σ σ1 φ : gS} (h : Sep σ σ1 φ) {a : Nat} {e : va_E} (ha : σ1 a = some e) : φ a = none ∧ σ a = some e := by
  cases hp : φ a with
  | none => exact ⟨rfl, ((h a).1 hp).trans ha⟩
  | some x => rw [((h a).2 x hp).2] at ha; cases ha
theorem Sep.oth {σ σ1 φ : gS} (h : Sep σ σ1 φ) {a : Nat} {e : va_E} (ha : φ a = some e) : σ a = some e := ((h a).2 e ha).1
theorem gRep_out {M : gMT} {σ σ1 φ : gS} {H : Heap} (h : gRep M σ H) (hs : Sep σ σ1 φ) : gRep (gOut M φ) σ1 H := fun a e ha => by
  obtain ⟨h1, h2⟩ := hs.own ha
  obtain ⟨h3, h4⟩ := h a e h2
  exact ⟨h3, (gA_out (M := M) (φ := φ)).mpr ⟨h4, h1⟩⟩
/-- both parts -/
def uni (φ σ1 : gS) : gS := fun a => match φ a with
  | some e => some e
  | none => σ1 a
theorem gRep_in {M : gMT} {σ σ1 τ1 φ : gS} {s t : State} (h : gRep M σ s.heap) (hs : Sep σ σ1 φ) (h1 : gRep (gOut M φ) τ1 t.heap) (hF : va_F (gA (gOut M φ)) s t) : gRep M (uni φ τ1) t.heap ∧ Sep (uni φ τ1) τ1 φ := by
  have hd : ∀ a e, τ1 a = some e → φ a = none := fun a e ha => ((gA_out (M := M) (φ := φ)).mp (h1 a e ha).2).2
  refine ⟨fun a e ha => ?_, fun a => ⟨fun z => ?_, fun e z => ⟨?_, ?_⟩⟩⟩
  · unfold uni at ha
    cases hp : φ a with
    | none =>
      rw [hp] at ha
      obtain ⟨h3, h4⟩ := h1 a e ha
      exact ⟨h3, ((gA_out (M := M) (φ := φ)).mp h4).1⟩
    | some x =>
      rw [hp] at ha
      cases ha
      obtain ⟨h3, h4⟩ := h a _ (hs.oth hp)
      exact ⟨h3.kept (hF.2 a h3.lt (fun z => by rw [((gA_out (M := M) (φ := φ)).mp z).2] at hp; cases hp)), h4⟩
  · unfold uni
    rw [z]
  · unfold uni
    rw [z]
  · cases hx : τ1 a with
    | none => rfl
    | some x => rw [hd a x hx] at z; cases z
theorem Con.frame {l : Launch} {M : gMT} {y : MethodName} {cw : Cond} {d mc ms : Nat} {av : List Value} {σ σ1 φ : gS} {P : Option Value → gS → Prop} {PX : String → gS → Prop} (h : Con l (gOut M φ) y cw d mc ms av σ1 P PX) (hs : Sep σ σ1 φ) : Con l M y cw d mc ms av σ (fun v τ => ∃ τ1, P v τ1 ∧ Sep τ τ1 φ) (fun E τ => ∃ τ1, PX E τ1 ∧ Sep τ τ1 φ) := by
  intro p e ha hf hc s m args below hfr hap hP hK
  obtain ⟨hP0, hP1, hP2, hP3⟩ := hP
  have hfree : ∀ q, gA (gOut M φ) q → gA M q := fun q hq => ((gA_out (M := M) (φ := φ)).mp hq).1
  obtain ⟨n, o, h1, h2, h3, h4⟩ := h p e ha hf hc s m args below hfr hap ⟨hP0, gAmb_out hP1, gRep_out hP2 hs, fun q hq => (gA_out (M := M) (φ := φ)).mpr ⟨hP3 q hq, by
    cases hx : φ q with
    | none => rfl
    | some x =>
      have := hP2.lt (hs.oth hx)
      omega⟩⟩ hK
  refine ⟨n, o, h1, h2, h3, ?_⟩
  have fw : ∀ st t : State, va_F (gA (gOut M φ)) st t → va_F (gA M) st t := fun st t hF => ⟨hF.1, fun q hq hn => hF.2 q hq (fun z => hn (hfree q z))⟩
  rcases h4 with ⟨⟨v, τ1, ho, hp, hR, hF⟩, L, hE, hL⟩ | ⟨q, ho, E, ce, L, ⟨τ1, hp, hR, hF⟩, k1, k2, k3, k4, k5, k6⟩
  · obtain ⟨g1, g2⟩ := gRep_in hP2 hs hR hF
    exact Or.inl ⟨⟨v, uni φ τ1, ho, ⟨τ1, hp, g2⟩, g1, fw _ _ hF⟩, L, hE, fun z hz => hfree _ (hL z hz)⟩
  · obtain ⟨g1, g2⟩ := gRep_in hP2 hs hR hF
    exact Or.inr ⟨q, ho, E, ce, L, ⟨uni φ τ1, ⟨τ1, hp, g2⟩, g1, fw _ _ hF⟩, k1, k2, k3, k4, k5, fun z hz => hfree _ (k6 z hz)⟩
theorem Con.mono {l : Launch} {M : gMT} {y : MethodName} {cw : Cond} {d mc ms : Nat} {av : List Value} {σ : gS} {P P' : Option Value → gS → Prop} {PX PX' : String → gS → Prop} (h : Con l M y cw d mc ms av σ P PX) (h1 : ∀ v τ, P v τ → P' v τ) (h2 : ∀ E τ, PX E τ → PX' E τ) : Con l M y cw d mc ms av σ P' PX' := by
  intro p e ha hf hc s m args below hfr hap hP hK
  obtain ⟨n, o, g1, g2, g3, g4⟩ := h p e ha hf hc s m args below hfr hap hP hK
  refine ⟨n, o, g1, g2, g3, ?_⟩
  rcases g4 with ⟨⟨v, τ1, ho, hp, hR, hF⟩, L, hE, hL⟩ | ⟨q, ho, E, ce, L, ⟨τ1, hp, hR, hF⟩, k1⟩
  · exact Or.inl ⟨⟨v, τ1, ho, h1 _ _ hp, hR, hF⟩, L, hE, hL⟩
  · exact Or.inr ⟨q, ho, E, ce, L, ⟨τ1, h2 _ _ hp, hR, hF⟩, k1⟩
/-- the ledger at a0 with the state ρ, beside the cells of φ -/
def St (M : gMT) (φ : gS) (a0 : Nat) (ρ : gSt) (σ : gS) : Prop := ∃ σ1 A W, A 0 0 = a0 ∧ Raw M σ1 A ρ W ∧ Sep σ σ1 φ
theorem St.led {M : gMT} {φ : gS} {a0 : Nat} {ρ : gSt} {σ : gS} (h : St M φ a0 ρ σ) (hW : RW ρ) : ∃ A : gAd, σ a0 = some (oB 4 (ledF A ρ)) := by
  obtain ⟨σ1, A, W, h1, h2, h3⟩ := h
  have h4 := h2.led hW
  rw [h1] at h4
  exact ⟨A, (h3.own h4).2⟩
theorem St.oth {M : gMT} {φ : gS} {a0 : Nat} {ρ : gSt} {σ : gS} (h : St M φ a0 ρ σ) {a : Nat} {e : va_E} (ha : φ a = some e) : σ a = some e := by
  obtain ⟨σ1, A, W, h1, h2, h3⟩ := h
  exact h3.oth ha
/-- a call's code as an int: its answer, or the number that its exception has -/
def wr (a i s : Int32) (L : lRes) : Int32 := if L.1 = "" then L.2.1 else cdf a i s L.1
/-- what a call leaves -/
def nx (ρ : gSt) (L : lRes) : gSt := if L.1 = "" then L.2.2 else ρ
def wQ (M : gMT) (A : gAd) (ρ : gSt) (w : Int32) (L : lRes) : Int32 → gS → Prop := fun r σ2 => r = w ∧ ∃ A', A' 0 0 = A 0 0 ∧ RawE M σ2 A' (nx ρ L)
def sQ (M : gMT) (φ : gS) (a0 : Nat) (w : Int32) (ρ : gSt) : Int32 → gS → Prop := fun r σ2 => r = w ∧ St M φ a0 ρ σ2
theorem St.lift {l : Launch} {M : gMT} {y : MethodName} {cw : Cond} {d mc ms : Nat} {as : List Value} {φ σ : gS} {a0 : Nat} {ρ ρ' : gSt} {w : Int32} (hst : St M φ a0 ρ σ)
    (h : ∀ (M : gMT) (σ1 : gS) (A : gAd) (W : gWt), A 0 0 = a0 → Raw M σ1 A ρ W → Con l M y cw d mc ms as σ1 (rI fun r σ2 => r = w ∧ ∃ A', A' 0 0 = A 0 0 ∧ RawE M σ2 A' ρ') nX) : Con l M y cw d mc ms as σ (rI (sQ M φ a0 w ρ')) nX := by
  obtain ⟨σ1, A, W, h1, h2, h3⟩ := hst
  refine Con.mono (Con.frame (h (gOut M φ) σ1 A W h1 h2) h3) (fun v τ hv => ?_) (fun E τ hx => ?_)
  · obtain ⟨τ1, ⟨r, rfl, hr, A', hA', W', hR'⟩, hs⟩ := hv
    exact ⟨r, rfl, hr, τ1, A', W', hA'.trans h1, hR', hs⟩
  · obtain ⟨τ1, hx, -⟩ := hx
    exact hx
/-- a call that throws nothing -/
theorem lP_lift {M : gMT} {σ : gS} {A : gAd} {T : lRes} {r : Int32} {σ2 : gS} (h : lP M σ A T r σ2) : r = T.2.1 ∧ ∃ A', A' 0 0 = A 0 0 ∧ RawE M σ2 A' T.2.2 := ⟨h.2.1, h.2.2.1⟩

