/-! ===== the law: words, methods with handlers (by wip/whole/gen_law.py) ===== -/
def hL_type : List (Nat × Nat × Nat × Nat) := [(0, 9, 12, 13), (0, 9, 15, 15)]
theorem md_L_type : gMd yL_type (.codeWith yL_type cL_type 4 (some .int) hL_type) 3 := ⟨(wG_in (tb_1 (List.mem_of_getElem? (i := 0) (by decide +kernel))) (by decide +kernel)), (wG_in (tb_3 (List.mem_of_getElem? (i := 161) (by decide +kernel))) (by decide +kernel)), ⟨by decide, by decide⟩, by decide +kernel⟩
def hL_back : List (Nat × Nat × Nat × Nat) := [(0, 8, 11, 15)]
theorem md_L_back : gMd yL_back (.codeWith yL_back cL_back 3 (some .int) hL_back) 2 := ⟨(wG_in (tb_1 (List.mem_of_getElem? (i := 0) (by decide +kernel))) (by decide +kernel)), (wG_in (tb_3 (List.mem_of_getElem? (i := 206) (by decide +kernel))) (by decide +kernel)), ⟨by decide, by decide⟩, by decide +kernel⟩
def hL_makeProject : List (Nat × Nat × Nat × Nat) := [(0, 8, 11, 15)]
theorem md_L_makeProject : gMd yL_makeProject (.codeWith yL_makeProject cL_makeProject 3 (some .int) hL_makeProject) 2 := ⟨(wG_in (tb_1 (List.mem_of_getElem? (i := 0) (by decide +kernel))) (by decide +kernel)), (wG_in (tb_3 (List.mem_of_getElem? (i := 214) (by decide +kernel))) (by decide +kernel)), ⟨by decide, by decide⟩, by decide +kernel⟩
def hL_moveProject : List (Nat × Nat × Nat × Nat) := [(0, 9, 12, 28), (0, 9, 15, 15)]
theorem md_L_moveProject : gMd yL_moveProject (.codeWith yL_moveProject cL_moveProject 4 (some .int) hL_moveProject) 3 := ⟨(wG_in (tb_1 (List.mem_of_getElem? (i := 0) (by decide +kernel))) (by decide +kernel)), (wG_in (tb_3 (List.mem_of_getElem? (i := 224) (by decide +kernel))) (by decide +kernel)), ⟨by decide, by decide⟩, by decide +kernel⟩
def hL_letterAt : List (Nat × Nat × Nat × Nat) := [(0, 10, 13, 28)]
theorem md_L_letterAt : gMd yL_letterAt (.codeWith yL_letterAt cL_letterAt 5 (some .int) hL_letterAt) 4 := ⟨(wG_in (tb_1 (List.mem_of_getElem? (i := 0) (by decide +kernel))) (by decide +kernel)), (wG_in (tb_4 (List.mem_of_getElem? (i := 65) (by decide +kernel))) (by decide +kernel)), ⟨by decide, by decide⟩, by decide +kernel⟩
def hL_makeFile : List (Nat × Nat × Nat × Nat) := [(0, 10, 13, 28), (0, 10, 17, 15)]
theorem md_L_makeFile : gMd yL_makeFile (.codeWith yL_makeFile cL_makeFile 5 (some .int) hL_makeFile) 4 := ⟨(wG_in (tb_1 (List.mem_of_getElem? (i := 0) (by decide +kernel))) (by decide +kernel)), (wG_in (tb_4 (List.mem_of_getElem? (i := 73) (by decide +kernel))) (by decide +kernel)), ⟨by decide, by decide⟩, by decide +kernel⟩
def hL_write : List (Nat × Nat × Nat × Nat) := [(0, 10, 13, 28), (0, 10, 17, 13)]
theorem md_L_write : gMd yL_write (.codeWith yL_write cL_write 5 (some .int) hL_write) 4 := ⟨(wG_in (tb_1 (List.mem_of_getElem? (i := 0) (by decide +kernel))) (by decide +kernel)), (wG_in (tb_4 (List.mem_of_getElem? (i := 136) (by decide +kernel))) (by decide +kernel)), ⟨by decide, by decide⟩, by decide +kernel⟩
def hL_delete : List (Nat × Nat × Nat × Nat) := [(0, 9, 12, 28)]
theorem md_L_delete : gMd yL_delete (.codeWith yL_delete cL_delete 4 (some .int) hL_delete) 3 := ⟨(wG_in (tb_1 (List.mem_of_getElem? (i := 0) (by decide +kernel))) (by decide +kernel)), (wG_in (tb_4 (List.mem_of_getElem? (i := 149) (by decide +kernel))) (by decide +kernel)), ⟨by decide, by decide⟩, by decide +kernel⟩
def hL_moveFile : List (Nat × Nat × Nat × Nat) := [(0, 10, 13, 28)]
theorem md_L_moveFile : gMd yL_moveFile (.codeWith yL_moveFile cL_moveFile 5 (some .int) hL_moveFile) 4 := ⟨(wG_in (tb_1 (List.mem_of_getElem? (i := 0) (by decide +kernel))) (by decide +kernel)), (wG_in (tb_4 (List.mem_of_getElem? (i := 156) (by decide +kernel))) (by decide +kernel)), ⟨by decide, by decide⟩, by decide +kernel⟩
def hL_reserve : List (Nat × Nat × Nat × Nat) := [(0, 10, 13, 28), (0, 10, 17, 13), (0, 10, 21, 15)]
theorem md_L_reserve : gMd yL_reserve (.codeWith yL_reserve cL_reserve 5 (some .int) hL_reserve) 4 := ⟨(wG_in (tb_1 (List.mem_of_getElem? (i := 0) (by decide +kernel))) (by decide +kernel)), (wG_in (tb_4 (List.mem_of_getElem? (i := 163) (by decide +kernel))) (by decide +kernel)), ⟨by decide, by decide⟩, by decide +kernel⟩
def hL_settle : List (Nat × Nat × Nat × Nat) := [(0, 10, 13, 28), (0, 10, 17, 13)]
theorem md_L_settle : gMd yL_settle (.codeWith yL_settle cL_settle 5 (some .int) hL_settle) 4 := ⟨(wG_in (tb_1 (List.mem_of_getElem? (i := 0) (by decide +kernel))) (by decide +kernel)), (wG_in (tb_4 (List.mem_of_getElem? (i := 189) (by decide +kernel))) (by decide +kernel)), ⟨by decide, by decide⟩, by decide +kernel⟩
def hL_setLimits : List (Nat × Nat × Nat × Nat) := [(0, 11, 14, 28), (0, 11, 18, 13)]
theorem md_L_setLimits : gMd yL_setLimits (.codeWith yL_setLimits cL_setLimits 7 (some .int) hL_setLimits) 6 := ⟨(wG_in (tb_1 (List.mem_of_getElem? (i := 0) (by decide +kernel))) (by decide +kernel)), (wG_in (tb_4 (List.mem_of_getElem? (i := 197) (by decide +kernel))) (by decide +kernel)), ⟨by decide, by decide⟩, by decide +kernel⟩
def hL_pass : List (Nat × Nat × Nat × Nat) := [(0, 9, 12, 13), (0, 9, 15, 15)]
theorem md_L_pass : gMd yL_pass (.codeWith yL_pass cL_pass 4 (some .int) hL_pass) 3 := ⟨(wG_in (tb_1 (List.mem_of_getElem? (i := 0) (by decide +kernel))) (by decide +kernel)), (wG_in (tb_4 (List.mem_of_getElem? (i := 209) (by decide +kernel))) (by decide +kernel)), ⟨by decide, by decide⟩, by decide +kernel⟩
def hL_used : List (Nat × Nat × Nat × Nat) := [(0, 10, 13, 28)]
theorem md_L_used : gMd yL_used (.codeWith yL_used cL_used 5 (some .int) hL_used) 4 := ⟨(wG_in (tb_1 (List.mem_of_getElem? (i := 0) (by decide +kernel))) (by decide +kernel)), (wG_in (tb_4 (List.mem_of_getElem? (i := 218) (by decide +kernel))) (by decide +kernel)), ⟨by decide, by decide⟩, by decide +kernel⟩
def hL_filesOf : List (Nat × Nat × Nat × Nat) := [(0, 10, 13, 28)]
theorem md_L_filesOf : gMd yL_filesOf (.codeWith yL_filesOf cL_filesOf 5 (some .int) hL_filesOf) 4 := ⟨(wG_in (tb_1 (List.mem_of_getElem? (i := 0) (by decide +kernel))) (by decide +kernel)), (wG_in (tb_4 (List.mem_of_getElem? (i := 225) (by decide +kernel))) (by decide +kernel)), ⟨by decide, by decide⟩, by decide +kernel⟩
def hL_usedByFiles : List (Nat × Nat × Nat × Nat) := [(0, 10, 13, 28)]
theorem md_L_usedByFiles : gMd yL_usedByFiles (.codeWith yL_usedByFiles cL_usedByFiles 5 (some .int) hL_usedByFiles) 4 := ⟨(wG_in (tb_1 (List.mem_of_getElem? (i := 0) (by decide +kernel))) (by decide +kernel)), (wG_in (tb_4 (List.mem_of_getElem? (i := 232) (by decide +kernel))) (by decide +kernel)), ⟨by decide, by decide⟩, by decide +kernel⟩
def hL_grace : List (Nat × Nat × Nat × Nat) := [(0, 10, 13, 28)]
theorem md_L_grace : gMd yL_grace (.codeWith yL_grace cL_grace 5 (some .int) hL_grace) 4 := ⟨(wG_in (tb_1 (List.mem_of_getElem? (i := 0) (by decide +kernel))) (by decide +kernel)), (wG_in (tb_5 (List.mem_of_getElem? (i := 3) (by decide +kernel))) (by decide +kernel)), ⟨by decide, by decide⟩, by decide +kernel⟩
def hL_room : List (Nat × Nat × Nat × Nat) := [(0, 9, 12, 28)]
theorem md_L_room : gMd yL_room (.codeWith yL_room cL_room 4 (some .int) hL_room) 3 := ⟨(wG_in (tb_1 (List.mem_of_getElem? (i := 0) (by decide +kernel))) (by decide +kernel)), (wG_in (tb_5 (List.mem_of_getElem? (i := 11) (by decide +kernel))) (by decide +kernel)), ⟨by decide, by decide⟩, by decide +kernel⟩
def hL_recount : List (Nat × Nat × Nat × Nat) := [(0, 9, 12, 13), (0, 9, 15, 15)]
theorem md_L_recount : gMd yL_recount (.codeWith yL_recount cL_recount 4 (some .int) hL_recount) 3 := ⟨(wG_in (tb_1 (List.mem_of_getElem? (i := 0) (by decide +kernel))) (by decide +kernel)), (wG_in (tb_5 (List.mem_of_getElem? (i := 19) (by decide +kernel))) (by decide +kernel)), ⟨by decide, by decide⟩, by decide +kernel⟩
def hL_counted : List (Nat × Nat × Nat × Nat) := [(0, 10, 13, 28), (0, 10, 17, 15)]
theorem md_L_counted : gMd yL_counted (.codeWith yL_counted cL_counted 5 (some .int) hL_counted) 4 := ⟨(wG_in (tb_1 (List.mem_of_getElem? (i := 0) (by decide +kernel))) (by decide +kernel)), (wG_in (tb_5 (List.mem_of_getElem? (i := 32) (by decide +kernel))) (by decide +kernel)), ⟨by decide, by decide⟩, by decide +kernel⟩
theorem lwk_13 : Cond.classLink RL 13 eA ∈ wG := (wG_in (tb_3 (List.mem_of_getElem? (i := 162) (by decide +kernel))) (by decide +kernel))
theorem lwk_15 : Cond.classLink RL 15 eS ∈ wG := (wG_in (tb_3 (List.mem_of_getElem? (i := 163) (by decide +kernel))) (by decide +kernel))
theorem lwk_28 : Cond.classLink RL 28 eI ∈ wG := (wG_in (tb_3 (List.mem_of_getElem? (i := 225) (by decide +kernel))) (by decide +kernel))
/-- a contract of a method with handlers -/
theorem g_conW {l : Launch} {M : gMT} {y : MethodName} {cc : ByteArray} {maxL : Nat} {ret : Option FieldType} {hh : List (Nat × Nat × Nat × Nat)} {d mc ms : Nat} {av : List Value} {σ : gS} {P : Option Value → gS → Prop} {PX : String → gS → Prop} {lv : List (Nat × Value)} (hfl : l.stackTraces = false)
    (hy : plainName y.cls = true) (hlv : lv_args 0 av = lv) (hcat : lv.all (fun q => q.2.category == 1) = true) (hn : (lg_sl av).length ≤ maxL)
    (body : ∀ X : gX, xl X = l → gOk X M y.cls cc maxL d mc ms → gRet X ret y.name → (xc X).exceptionTable.toList = tableOf hh → G X M maxL (gQ X M mc ms P PX) 0 0 σ 0 lv []) : Con l M y (.codeWith y cc maxL ret hh) d mc ms av σ P PX := by
  refine vx_ofWH (cc := cc) (maxL := maxL) (ret := ret) (hh := hh) hy rfl ?_
  intro p e s m args below meth c s₁ B hml hv
  obtain ⟨rfl, hA, hP, hbs⟩ := hv
  have hts := atoms_spec (ws := .codeWith y cc maxL ret hh :: wG) B.pre
  have ht := vx_table (x := y) (y := y) (bytes := cc) (maxL' := maxL) (ret' := ret) (hh := hh) B (hts _ List.mem_cons_self)
  have hlocks := B.notSynchronized
  have h := body (p, l, e, gRoom d mc ms, s, m, av.toArray, below, meth, c) rfl ⟨B.exec, B.bytes, hml, findClass_of_methodNamed B.named, fun w hw => hts w (List.mem_cons_of_mem _ hw), hA, Nat.le_refl _, Nat.le_refl _, Nat.le_refl _, Nat.le_refl _, hbs, hfl⟩ ⟨B.returns, hlocks, (name_of_methodNamed B.named B.method).1⟩ ht
  rw [lg_entry_eq]
  have hl := lv_entry av (n := maxL) hn
  rw [hlv] at hl
  exact h s.heap [] _ hP va_S.rf (gL_of_has hl hcat)
section GH
variable {X : gX} {M : gMT} {own : String} {cc : ByteArray} {nL d mc ms : Nat} {Q : State → Prop} {k n : Nat} {σ : gS} {pc q : Nat} {lv : List (Nat × Value)} {st st0 rest : List Value}
variable {P : Option Value → gS → Prop} {PX : String → gS → Prop}
/-- caught by the row x of the method's table -/
theorem g_catch (hC : gOk X M own cc nL d mc ms) {E name : String} (pre : List ExceptionTableEntry) (x : ExceptionTableEntry) (suf : List ExceptionTableEntry) (hsplit : (xc X).exceptionTable.toList = pre ++ x :: suf)
    (hpass : ∀ z ∈ pre, covers z pc = false ∨ (z.catchType ≠ 0 ∧ ∃ nm : String, Cond.classLink own z.catchType nm ∈ wG ∧ (E, nm) ∈ gNcs)) (hx : covers x pc = true) (h0 : x.catchType ≠ 0) (hlink : Cond.classLink own x.catchType name ∈ wG) (hcast : (E, name) ∈ gCast)
    (kk : ∀ q : Nat, G X M nL Q k n σ x.handlerPc lv [.ref q]) : GX X M nL Q k n σ pc lv E := by
  intro H locs ls rest q ce hP hS hl hc hv hcl
  have h9 := hC.amb.2.2.2.2.2.2.2.2.1
  have h10 := hC.amb.2.2.2.2.2.2.2.2.2.1
  refine vx_catch hC.ow pre x suf hsplit (fun z hz => ?_) hx h0 (hC.ts hlink) (va_Nw.use rfl (h9 _ hcast)) hc hv hcl (kk q H locs ls hP hS hl)
  rcases hpass z hz with h | ⟨h1, nm, h2, h3⟩
  · exact Or.inl h
  · exact Or.inr ⟨h1, nm, hC.ts h2, h10 _ h3⟩
/-- a static call of a method with handlers -/
theorem g_runSH (hC : gOk X M own cc nL d mc ms) {index na d9 mc9 ms9 maxL : Nat} {y : MethodName} {bytes : ByteArray} {ret : Option FieldType} {hh : List (Nat × Nat × Nat × Nat)} {As : List Value} (hw : gSl own index y) (hm : gMd y (.codeWith y bytes maxL ret hh) na) (hcon : Con (xl X) M y (.codeWith y bytes maxL ret hh) d9 mc9 ms9 As σ P PX) (hdg : decode cc pc = .ok (.invokestatic index, 3)) (hd : d9 < d) (hml : maxL ≤ 40) (hk : k + mc9 ≤ mc) (hn : n + ms9 ≤ ms) (hna : As.length = na) (hst : st0 = As.reverse ++ rest) (hcat : (rest.map fun v => v.category).sum ≤ 8) : gRun X M nL k n mc9 ms9 σ pc lv st0 rest P PX := by
  intro H locs ls hP hS hl
  obtain ⟨hr1, hr2⟩ := gRm (maxL := maxL) (mc9 := mc9) (ms9 := ms9) hC hd hml
  exact vx_runSX (As := As) (hh := hh) hC.fix hcon ⟨⟨rfl, rfl, hr1, hr2, wG_pay hC.2.2.2.2.1 hm.2.1, List.mem_cons_self⟩, hC.ts hm.2.1, hC.ts hm.1, hm.2.2.1, hm.len, hC.ts hw.1, hC.ts hw.2⟩ ⟨gPc_blind, gPre hC hP hS⟩ rfl hna hl.1 hst (lv_room hcat) hdg (gFt hC hk hn)
end GH
section JO
variable {M : gMT} {σ σ2 : gS} {A : gAd} {ρ : gSt} {W : gWt} {φ : gS} {m : Nat} {ad : Nat → Nat} {rf : Int32} {S : gSt}
/-- the ledger's cells kept -/
theorem Raw.mono (h : Raw M σ A ρ W) (hk : ∀ b e, σ b = some e → ¬ gFr e → σ2 b = some e) : Raw M σ2 A ρ W := by
  obtain ⟨h1, h2, h3, h4, h5, h6, h7, h8⟩ := h
  have ho : ∀ b ci l, σ b = some (oB ci l) → ci ≠ 5 → σ2 b = some (oB ci l) := fun b ci l hb hc => hk b _ hb (fun z => hc z)
  refine ⟨fun k i hk' hi => ho _ _ _ (h1 k i hk' hi) (by have := kCl_lt hk'; omega), h2, fun j hj => ?_, h4, h5, ho _ _ _ h6 (by decide), hk _ _ h7 (fun z => z rfl), h8⟩
  obtain ⟨q1, q2, q3, q4, q5⟩ := h3 j hj
  refine ⟨ho _ _ _ q1 (by decide), ?_, q3, q4, q5⟩
  rcases q2 with ⟨q2, q2'⟩ | q2
  · exact Or.inl ⟨q2, hk _ _ q2' (fun z => z)⟩
  · exact Or.inr q2
/-- the model's cells -/
def Mod0 (M : gMT) (σ : gS) (m : Nat) (ad : Nat → Nat) (rf : Int32) (S : gSt) : Prop := σ m = some (oB 5 (modF ad rf S)) ∧ (∀ c, 1 ≤ c → c ≤ 15 → σ (ad c) = some (mCell M S c)) ∧ ∀ c c', 1 ≤ c → c ≤ 15 → 1 ≤ c' → c' ≤ 15 → ad c = ad c' → c = c'
theorem gFr_aI {M : gMT} {t n : Nat} {f : Nat → Int32} (h : n ≠ 16) : gFr (aI M t n f) := h
theorem mCell_fr (M : gMT) (S : gSt) (c : Nat) : gFr (mCell M S c) := by
  unfold mCell
  split <;> exact gFr_aI (by decide)
def mad (ad : Nat → Nat) (b : Nat) : Bool := anyB 16 (fun c => decide (1 ≤ c) && decide (b = ad c))
theorem mad_iff {ad : Nat → Nat} {b : Nat} : mad ad b = true ↔ ∃ c, 1 ≤ c ∧ c ≤ 15 ∧ b = ad c := by
  unfold mad
  rw [anyB_iff]
  constructor
  · rintro ⟨c, h1, h2⟩
    obtain ⟨h3, h4⟩ := Bool.and_eq_true_iff.mp h2
    exact ⟨c, of_decide_eq_true h3, by omega, of_decide_eq_true h4⟩
  · rintro ⟨c, h1, h2, h3⟩
    exact ⟨c, by omega, by rw [decide_eq_true h1, decide_eq_true h3]; rfl⟩
def rest0 (σ : gS) (m : Nat) (ad : Nat → Nat) : gS := fun b => if b = m ∨ mad ad b = true then none else σ b
theorem Mod0.mod (h : Mod0 M σ m ad rf S) : Mod M (rest0 σ m ad) σ m ad rf S := by
  obtain ⟨h1, h2, h3⟩ := h
  refine ⟨h1, h2, h3, fun b e hb => ?_, if_pos (Or.inl rfl), fun c c1 c2 => if_pos (Or.inr (mad_iff.mpr ⟨c, c1, c2, rfl⟩))⟩
  unfold rest0 at hb
  split at hb
  · cases hb
  · exact hb
theorem Mod.mod0 (h : Mod M φ σ m ad rf S) : Mod0 M σ m ad rf S := ⟨h.1, h.2.1, h.2.2.1⟩
/-- what a call of the model keeps -/
theorem Mod0.keep {rf2 : Int32} {S2 : gSt} (h : Mod0 M σ m ad rf S) (h2 : Mod M (rest0 σ m ad) σ2 m ad rf2 S2) : (∀ b e, σ b = some e → ¬ gFr e → σ2 b = some e) ∧ ∀ b n f, σ b = some (aL M n f) → σ2 b = some (aL M n f) := by
  have key : ∀ b e, σ b = some e → e ≠ oB 5 (modF ad rf S) → (∀ c, e ≠ mCell M S c) → σ2 b = some e := fun b e hb h5 hc => by
    refine h2.2.2.2.1 b e ?_
    unfold rest0
    rw [if_neg, hb]
    intro y
    rcases y with z | y
    · rw [z, h.1] at hb
      exact h5 (Option.some.inj hb).symm
    · obtain ⟨c, c1, c2, z⟩ := mad_iff.mp y
      rw [z, h.2.1 c c1 c2] at hb
      exact hc c (Option.some.inj hb).symm
  refine ⟨fun b e hb he => key b e hb (fun z => he (by rw [z]; exact rfl)) (fun c z => he (by rw [z]; exact mCell_fr M S c)), fun b n f hb => key b _ hb (fun z => by cases z) (fun c z => ?_)⟩
  unfold mCell at z
  split at z <;> simp [aL, aI] at z
/-- what a call of the ledger keeps -/
theorem Mod0.frame (h : Mod0 M σ m ad rf S) (hF : gFF σ σ2) : Mod0 M σ2 m ad rf S := ⟨hF _ _ h.1 rfl, fun c c1 c2 => hF _ _ (h.2.1 c c1 c2) (mCell_fr M S c), h.2.2⟩
/-- the answer's row written -/
theorem Mod0.out (h : Mod0 M σ m ad rf S) {o n : Nat} {f g : Nat → Int64} (ho : σ o = some (aL M n f)) : Mod0 M (gUp σ o (aL M n g)) m ad rf S := by
  refine ⟨?_, fun c c1 c2 => ?_, h.2.2⟩
  · rw [gUp_ne _ _ (fun z => by rw [← z, h.1] at ho; cases ho)]
    exact h.1
  · rw [gUp_ne _ _ (fun z => ?_)]
    · exact h.2.1 c c1 c2
    · rw [← z, h.2.1 c c1 c2] at ho
      have ho := Option.some.inj ho
      unfold mCell at ho
      split at ho <;> simp [aL, aI] at ho
theorem Raw.out (h : Raw M σ A ρ W) {o n : Nat} {f g : Nat → Int64} (ho : σ o = some (aL M n f)) : Raw M (gUp σ o (aL M n g)) A ρ W := h.mono (fun b e hb he => by
  rw [gUp_ne _ _ (fun z => ?_)]
  · exact hb
  · rw [z, ho] at hb
    exact he (by rw [← Option.some.inj hb]; exact trivial))
end JO
/-- what a wrapper gives -/
def wP (M : gMT) (σ : gS) (A : gAd) (o : Nat) (cd : String → Int32) (ρ : gSt) (L : lRes) : Int32 → gS → Prop := fun r σ2 => (L.1 = "" ∧ r = 0 ∧ ∃ σ1 f, ((∃ A', A' 0 0 = A 0 0 ∧ RawE M σ1 A' L.2.2) ∧ gFF σ σ1) ∧ σ2 = gUp σ1 o (aL M 1 f) ∧ f 0 = L.2.1.toInt64) ∨ (L.1 ≠ "" ∧ r = cd L.1 ∧ σ2 = σ)
theorem up0 (f : Nat → Int64) (x : Int64) : vp_updL f (nI 0).toNatClampNeg x 0 = x := by
  rw [nI_clamp (by decide)]
  exact if_pos rfl

