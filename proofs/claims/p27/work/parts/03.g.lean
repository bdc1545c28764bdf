/-! ===== the heap as a map; a walk over it (G); a contract over it (Con) ===== -/
abbrev gS : Type := Nat → Option va_E
/-- what stays the same in all of the claim: class numbers and slots, the array classes' numbers (byte, char, int, boolean, long, Object), where our own cells begin, the empty array of java.util.ArrayList -/
abbrev gMT : Type := va_G × (Nat → ClassId) × Nat × Nat × Nat × (Nat → Prop) × (Nat × Nat × (Nat → Int32))
def gD (M : gMT) : va_G := M.1
def gk (M : gMT) : Nat → ClassId := M.2.1
def gb (M : gMT) : Nat := M.2.2.1
def gE (M : gMT) : Nat := M.2.2.2.1
/-- the Class object of Object[] -/
def gMi (M : gMT) : Nat := M.2.2.2.2.1
/-- cells of others: kept out -/
def gXc (M : gMT) : Nat → Prop := M.2.2.2.2.2.1
/-- the script: its cell, its length, its ints -/
def gScB (M : gMT) : Nat := M.2.2.2.2.2.2.1
def gScL (M : gMT) : Nat := M.2.2.2.2.2.2.2.1
def gScV (M : gMT) : Nat → Int32 := M.2.2.2.2.2.2.2.2
def gA (M : gMT) : Nat → Prop := fun q => gb M ≤ q ∧ ¬ gXc M q
def gTys (M : gMT) : List (ClassId × FieldType) := [(gk M 0, .byte), (gk M 1, .byte), (gk M 2, .int), (gk M 3, .byte), (gk M 4, .byte), (gk M 5, .object "java/lang/Object")]
abbrev gCl : List vw_C := [(RX0, TX0, 8), (RX1, TX1, 4), (RX2, TX2, 3), (RX3, TX3, 6), (RX4, TX4, 11), (RX4, TX4, 11), (RJx4a65c, TJx4a65c, 3), (RJ4, TJ4, 4)]
def gUp (σ : gS) (a : Nat) (e : va_E) : gS := fun b => if b = a then some e else σ b
theorem gUp_self (σ : gS) (a : Nat) (e : va_E) : gUp σ a e a = some e := if_pos rfl
theorem gUp_ne (σ : gS) {a b : Nat} (e : va_E) (h : b ≠ a) : gUp σ a e b = σ b := if_neg h
theorem gUp_up (σ : gS) (a : Nat) (e e2 : va_E) : gUp (gUp σ a e) a e2 = gUp σ a e2 := by
  funext b
  by_cases h : b = a <;> simp [gUp, h]
def aI (M : gMT) (t n : Nat) (f : Nat → Int32) : va_E := .inl (gk M t, n, .inl f)
def aL (M : gMT) (n : Nat) (f : Nat → Int64) : va_E := .inl (gk M 4, n, .inr (.inl f))
def aQ (M : gMT) (n : Nat) (f : Nat → Option Nat) : va_E := .inl (gk M 5, n, .inr (.inr (.inr (.inr f))))
abbrev oB (ci : Nat) (fs : List Value) : va_E := .inr (ci, fs)
def gRep (M : gMT) (σ : gS) (H : Heap) : Prop := ∀ (a : Nat) (e : va_E), σ a = some e → va_at (gD M) gCl (a, e) H ∧ gA M a
theorem gRep.lt {M : gMT} {σ : gS} {H : Heap} (h : gRep M σ H) {a : Nat} {e : va_E} (ha : σ a = some e) : a < H.size := (h a e ha).1.lt
theorem gRep.fresh {M : gMT} {σ : gS} {H : Heap} (h : gRep M σ H) : σ H.size = none := by
  cases hs : σ H.size with
  | none => rfl
  | some e => exact absurd (h.lt hs) (Nat.lt_irrefl _)
/-- one cell changed -/
theorem gRep.up {M : gMT} {σ : gS} {H H1 : Heap} (h : gRep M σ H) {a : Nat} {e : va_E} (he : va_at (gD M) gCl (a, e) H1) (hb : gA M a) (oq : ∀ q : Nat, q ≠ a → q < H.size → H1[q]? = H[q]?) : gRep M (gUp σ a e) H1 := by
  intro b e' hb'
  by_cases hba : b = a
  · subst hba
    rw [gUp_self] at hb'
    cases hb'
    exact ⟨he, hb⟩
  · rw [gUp_ne _ _ hba] at hb'
    obtain ⟨h1, h2⟩ := h b e' hb'
    exact ⟨h1.kept (oq b hba h1.lt), h2⟩
theorem gRep.kept {M : gMT} {σ : gS} {H H1 : Heap} (h : gRep M σ H) (oq : ∀ q : Nat, q < H.size → H1[q]? = H[q]?) : gRep M σ H1 := fun a e ha => ⟨(h a e ha).1.kept (oq a (h.lt ha)), (h a e ha).2⟩
/-- the world of one cell -/
theorem gRep.one {M : gMT} {σ : gS} {H : Heap} (h : gRep M σ H) {a : Nat} {e : va_E} (ha : σ a = some e) : va_P (gD M) gCl [(a, e)] H := fun k q hk => by
  match k, hk with
  | 0, hk => cases hk; exact (h a e ha).1
  | k + 1, hk => simp at hk
/-! ===== words ===== -/
/-- a private method of a class above is selected of an object below -/
theorem g_selP {C : String} {n : Nat} {y : MethodName} {s : State} {args : Array Value} (hy : y.cls ≠ "java/lang/invoke/MethodHandle" ∧ y.cls ≠ "java/lang/invoke/VarHandle") (hins : (Cond.instantiable C n).before args s = true) (hpriv : (Cond.privateMethod y).before args s = true) (hinst : (Cond.instanceMethod y).before args s = true) (hsm : (Cond.sameMethod y.cls y.cls y.name y.desc).before args s = true) : (Cond.selects C y y).before args s = true := by
  obtain ⟨c, k, hc, hk, -, -, -, -⟩ := Cond.instantiable_spec hins
  obtain ⟨mk, methM, hnamed, hmethM, -, -⟩ := Cond.instanceMethod_spec hinst
  have hfound : s.methodFound? y.cls y.name y.desc = some mk := State.methodFound?_of_named hnamed hy
  have hsel : selectMethod {} s.vm c mk = .method mk := selectMethod_private hmethM (Cond.privateMethod_at hpriv mk methM hnamed hmethM)
  obtain ⟨-, k2, hk2, hni⟩ := Cond.sameMethod_spec (findClass_of_methodNamed hnamed) hfound hsm
  simp only [Cond.before, Cond.holds, Cond.value, hc, hfound, hnamed, hsel, hk2]
  simp; exact hni
def gExt : List Cond := [.selects RJ4 yJ5_ensureCapacityInternal_d00df yJ5_ensureCapacityInternal_d00df]
def wG : List Cond := (lw_tbl ++ gExt).filter goodWord
theorem wG_in {w : Cond} (h : w ∈ lw_tbl) (hg : goodWord w = true) : w ∈ wG := List.mem_filter.mpr ⟨List.mem_append_left _ h, hg⟩
theorem wG_ext {w : Cond} (h : w ∈ gExt) (hg : goodWord w = true) : w ∈ wG := List.mem_filter.mpr ⟨List.mem_append_right _ h, hg⟩
theorem wG_good {w : Cond} (h : w ∈ wG) : (w.onTables && w.keeps) = true ∨ ∃ ty, w = .arrayClass ty := good_of_word (List.mem_filter.mp h).2
theorem wG_pay {args : Array Value} {s : State} (hts : ∀ w ∈ wG, w.before args s = true) {cw : Cond} (hcw : cw ∈ wG) : ∀ w ∈ cw :: wG, ∀ (a' : Array Value) (U : State), s.WarmedH U.vm → w.before a' U = true := by
  intro w hw a' U hW
  have h : w ∈ wG := by
    rcases List.mem_cons.mp hw with rfl | h
    · exact hcw
    · exact h
  exact word_at hW (wG_good h) (hts w h)
/-- texts of exceptions (place in the pool of AllotmentLedger), castable words, pairs not castable, declared methods, nest links: words that are no good words -/
def gStr : List (Nat × String) := [(67, "the letter is not one of a to z"), (78, "the path has all its letters"), (85, "the path is empty"), (95, "the project is there"), (97, "the parent is not there"), (102, "there are all the projects that can be"), (268, "no such project"), (118, "the project cannot be moved there"), (136, "the place is below 0"), (276, "no such account"), (150, "there are all the files that can be"), (274, "no such file"), (177, "blocks is out of range"), (202, "there are all the reservations that can be"), (207, "no such open reservation"), (215, "a limit is out of range"), (229, "hours is out of range"), (231, "the clock would be beyond its last hour"), (260, "files is out of range"), (262, "no recount was begun")]
def eA : String := "java/lang/IllegalArgumentException"
def eS : String := "java/lang/IllegalStateException"
def eI : String := "java/lang/IndexOutOfBoundsException"
def gCast : List (String × String) := [(RX0, "java/lang/Object"), (RX1, "java/lang/Object"), (RX2, "java/lang/Object"), (RX3, "java/lang/Object"), (eA, eA), (eS, eS), (eI, eI)]
def gNcs : List (String × String) := [(eS, eA), (eS, eI), (eA, eI)]
def yGetClass : MethodName := ⟨"java/lang/Object", "getClass", "()Ljava/lang/Class;"⟩
def gDecl : List MethodName := [⟨"java/lang/RuntimeException", "<init>", "(Ljava/lang/String;)V"⟩, ⟨"java/lang/Exception", "<init>", "(Ljava/lang/String;)V"⟩, ⟨"java/lang/Throwable", "<init>", "(Ljava/lang/String;)V"⟩, yGetClass]
def gNest : List (String × Nat × MethodName × String) := [(RX4, 51, yX0_init, "AllotmentLedger"), (RX1, 9, yX0_init, "AllotmentLedger")]
/-- what the surroundings are, at a state's tables and a heap -/
def gAmb (M : gMT) (U : State) (H : Heap) : Prop :=
  va_K (gD M) gCl (gTys M) U ∧ ((∃ scr : Cell, H[gE M]? = some scr ∧ U.isArrayOf scr (.object "java/lang/Object") ∧ scr.slots.size = 0) ∧ gE M < gb M ∧ va_X (gScB M) (gScL M) (gScV M) U H ∧ gScB M < gb M) ∧
  va_Z "java/util/ArrayList" "DEFAULTCAPACITY_EMPTY_ELEMENTDATA" "[Ljava/lang/Object;" (.ref (gE M)) (gA M) U H ∧
  va_Z "java/lang/String" "COMPACT_STRINGS" "Z" (.int 1) (gA M) U H ∧
  vx_Zq Bundle.tN "UNASSIGNED_STACK" Bundle.steD (gA M) U H ∧ vx_Zq Bundle.tN "SUPPRESSED_SENTINEL" Bundle.listD (gA M) U H ∧
  va_AO "java/lang/Object" U ∧ (∀ q ∈ gStr, ∃ a, vk_R RX4 q.1 q.2 a U) ∧ (∀ q ∈ gCast, va_Nw (.castable q.1 q.2) U) ∧ (∀ q ∈ gNcs, va_Nc q.1 q.2 U) ∧
  (∀ y ∈ gDecl, va_Nw (.declares y) U) ∧ (∀ q ∈ gNest, va_Nw (.methodLinkNest q.1 q.2.1 q.2.2.1 q.2.2.2) U) ∧ va_Mi "[Ljava/lang/Object;" (gMi M) U ∧
  va_Zq "jdk/internal/util/Preconditions" "SIOOBE_FORMATTER" "Ljava/util/function/BiFunction;" (gA M) U H
theorem gAmb.warm {M : gMT} {s U : State} {H : Heap} (hW : s.WarmedH U.vm) (h : gAmb M s H) : gAmb M U H := by
  obtain ⟨h1, h2, h3, h4, h5, h6, h7, h8, h9, h10, h11, h12, h13, h14⟩ := h
  have hv := hW.alike
  exact ⟨va_K.moved hv h1, ⟨h2.1.imp fun scr q => ⟨q.1, State.isArrayOf_alike hv q.2.1, q.2.2⟩, h2.2.1, va_X.moved hv h2.2.2.1, h2.2.2.2⟩, va_Z.moved hv h3, va_Z.moved hv h4, vx_Zq.moved hv h5, vx_Zq.moved hv h6, va_AO.moved hv h7, fun q hq => (h8 q hq).imp fun a ha => vk_R.warm hW ha, fun q hq => va_Nw.warmC hW (h9 q hq), fun q hq => va_Nc.moved hv (h10 q hq), fun y hy => va_Nw.warmD hW (h11 y hy), fun q hq => va_Nw.warmM hW (h12 q hq), va_Mi.moved hv h13, va_Zq.moved hv h14⟩
theorem gAmb.kept {M : gMT} {U : State} {H H1 : Heap} (h : gAmb M U H) (hq : ∀ a : Nat, a < H.size → ¬ gA M a → H1[a]? = H[a]?) : gAmb M U H1 := by
  obtain ⟨h1, ⟨⟨scr, h2, h2a, h2b⟩, h2', hx, hb⟩, h3, h4, h5, h6, h7, h8, h9, h10, h11, h12, h13, h14⟩ := h
  exact ⟨h1, ⟨⟨scr, by rw [hq _ (Array.getElem?_eq_some_iff.mp h2).1 (fun z => Nat.not_le.mpr h2' z.1)]; exact h2, h2a, h2b⟩, h2', va_X.kept hx (hq _ (by obtain ⟨sc9, g1, -⟩ := hx; exact (Array.getElem?_eq_some_iff.mp g1).1) (fun z => Nat.not_le.mpr hb z.1)), hb⟩, va_Z.kept h3 hq, va_Z.kept h4 hq, vx_Zq.kept h5 hq, vx_Zq.kept h6 hq, h7, h8, h9, h10, h11, h12, h13, va_Zq.kept h14 hq⟩
/-! ===== locals: a list of (place, value), the newest first ===== -/
def gL : List (Nat × Value) → Nat → Option Value
  | [], _ => none
  | q :: r, i => bif Nat.beq q.1 i then some q.2 else gL r i
def lOk (ls : Array Slot) (nL : Nat) (lv : List (Nat × Value)) : Prop := ls.size = nL ∧ lv_wf ls ∧ ∀ (i : Nat) (v : Value), gL lv i = some v → ls[i]? = some (.val v) ∧ v.category = 1
theorem lOk.get {ls : Array Slot} {nL : Nat} {lv : List (Nat × Value)} (h : lOk ls nL lv) {i : Nat} {v : Value} (hv : gL lv i = some v) : ls[i]? = some (.val v) := (h.2.2 i v hv).1
def gAll (lv : List (Nat × Value)) : List (Nat × Value) → Prop
  | [] => True
  | q :: r => gL lv q.1 = some q.2 ∧ gAll lv r
theorem gAll.mem {lv lv0 : List (Nat × Value)} (h : gAll lv lv0) {i : Nat} {v : Value} (hv : gL lv0 i = some v) : gL lv i = some v := by
  induction lv0 with
  | nil => cases hv
  | cons q r ih =>
    obtain ⟨h1, h2⟩ := h
    unfold gL at hv
    cases hb : Nat.beq q.1 i with
    | true =>
      rw [hb] at hv
      have e : q.1 = i := Nat.eq_of_beq_eq_true hb
      subst e
      exact h1.trans hv
    | false =>
      rw [hb] at hv
      exact ih h2 hv
theorem lOk.sub {ls : Array Slot} {nL : Nat} {lv lv0 : List (Nat × Value)} (h : lOk ls nL lv) (ha : gAll lv lv0) : lOk ls nL lv0 := ⟨h.1, h.2.1, fun i v hv => h.2.2 i v (ha.mem hv)⟩
theorem gL_lt {lv : List (Nat × Value)} {ls : Array Slot} {nL : Nat} (h : lOk ls nL lv) {i : Nat} {v : Value} (hv : gL lv i = some v) : i < nL := by
  have h1 := (Array.getElem?_eq_some_iff.mp (h.get hv)).1
  rw [h.1] at h1
  exact h1
def gEnt (lv : List (Nat × Value)) (nL : Nat) : List (Nat × Value) := (List.range nL).filterMap (fun i => (gL lv i).map (fun v => (i, v)))
theorem gEnt_mem {lv : List (Nat × Value)} {nL : Nat} {q : Nat × Value} : q ∈ gEnt lv nL ↔ q.1 < nL ∧ gL lv q.1 = some q.2 := by
  constructor
  · intro h
    obtain ⟨i, hi, he⟩ := List.mem_filterMap.mp h
    cases hg : gL lv i with
    | none => rw [hg] at he; cases he
    | some v => rw [hg] at he; cases he; exact ⟨List.mem_range.mp hi, hg⟩
  · intro ⟨h1, h2⟩
    exact List.mem_filterMap.mpr ⟨q.1, List.mem_range.mpr h1, by rw [h2]; rfl⟩
theorem lOk.has {ls : Array Slot} {nL : Nat} {lv : List (Nat × Value)} (h : lOk ls nL lv) : lv_has ls nL (gEnt lv nL) := ⟨h.1, h.2.1, fun q hq => (h.2.2 _ _ (gEnt_mem.mp hq).2).1⟩
/-- behind a store of one word -/
theorem lOk.stored {ls ls' : Array Slot} {nL i : Nat} {v : Value} {lv : List (Nat × Value)} (h : lOk ls nL lv) (hc : v.category = 1) (h' : lv_has ls' nL ((i, v) :: (gEnt lv nL).filter (fun q => !(q.1 == i) && !(q.1 + 1 == i && q.2.category == 2)))) : lOk ls' nL ((i, v) :: lv) := by
  refine ⟨h'.1, h'.2.1, fun j w hw => ?_⟩
  unfold gL at hw
  cases hb : Nat.beq i j with
  | true =>
    rw [hb] at hw
    have e : i = j := Nat.eq_of_beq_eq_true hb
    subst e
    cases hw
    exact ⟨h'.2.2 (i, v) List.mem_cons_self, hc⟩
  | false =>
    rw [hb] at hw
    have hw : gL lv j = some w := hw
    have hne : i ≠ j := fun e => by subst e; simp at hb
    have hcat := (h.2.2 j w hw).2
    refine ⟨h'.2.2 (j, w) (List.mem_cons_of_mem _ (List.mem_filter.mpr ⟨gEnt_mem.mpr ⟨gL_lt h hw, hw⟩, ?_⟩)), hcat⟩
    have h1 : (j == i) = false := beq_eq_false_iff_ne.mpr (Ne.symm hne)
    simp [h1, hcat]
theorem gL_of_has {ls : Array Slot} {nL : Nat} {lv : List (Nat × Value)} (h : lv_has ls nL lv) (hc : lv.all (fun q => q.2.category == 1) = true) : lOk ls nL lv := by
  refine ⟨h.1, h.2.1, fun i v hv => ?_⟩
  have hm : (i, v) ∈ lv := by
    clear h hc
    induction lv with
    | nil => cases hv
    | cons q r ih =>
      unfold gL at hv
      cases hb : Nat.beq q.1 i with
      | true =>
        rw [hb] at hv
        have e : q.1 = i := Nat.eq_of_beq_eq_true hb
        cases hv
        rw [← e]
        exact List.mem_cons_self
      | false => rw [hb] at hv; exact List.mem_cons_of_mem _ (ih hv)
  exact ⟨h.2.2 (i, v) hm, by simpa using List.all_eq_true.mp hc (i, v) hm⟩
/-! ===== the walk ===== -/
abbrev gX : Type := Program × Launch × Env × Room × State × MethodId × Array Value × List Frame × Method × Code
abbrev xp (X : gX) : Program := X.1
abbrev xl (X : gX) : Launch := X.2.1
abbrev xe (X : gX) : Env := X.2.2.1
abbrev xR (X : gX) : Room := X.2.2.2.1
abbrev xs (X : gX) : State := X.2.2.2.2.1
abbrev xm (X : gX) : MethodId := X.2.2.2.2.2.1
abbrev xa (X : gX) : Array Value := X.2.2.2.2.2.2.1
abbrev xbl (X : gX) : List Frame := X.2.2.2.2.2.2.2.1
abbrev xmt (X : gX) : Method := X.2.2.2.2.2.2.2.2.1
abbrev xc (X : gX) : Code := X.2.2.2.2.2.2.2.2.2
abbrev gW (X : gX) (H : Heap) (locs : List Loc) (k n : Nat) (Q : State → Prop) (g : JFrame) : Prop := W (xp X) (xl X) (xe X) (xR X) (xs X) (xm X) (xa X) (xbl X) (xmt X) (xc X) H locs k n Q g
def G (X : gX) (M : gMT) (nL : Nat) (Q : State → Prop) (k n : Nat) (σ : gS) (pc : Nat) (lv : List (Nat × Value)) (st : List Value) : Prop :=
  ∀ (H : Heap) (locs : List Loc) (ls : Array Slot), gRep M σ H → va_S (gA M) (xs X).heap H locs → lOk ls nL lv → gW X H locs k n Q (F0 (xm X) pc ls st)
/-- an exception of class E thrown over the frame at pc -/
def GX (X : gX) (M : gMT) (nL : Nat) (Q : State → Prop) (k n : Nat) (σ : gS) (pc : Nat) (lv : List (Nat × Value)) (E : String) : Prop :=
  ∀ (H : Heap) (locs : List Loc) (ls : Array Slot) (rest : List Value) (q : Addr) (ce : Cell), gRep M σ H → va_S (gA M) (xs X).heap H locs → lOk ls nL lv → H[q]? = some ce → ce.vm = .none → (xs X).vm.findClass E = some ce.cls →
    vx_W (xp X) (xl X) (xe X) (xR X) (xs X) (xm X) (xa X) (xbl X) (xmt X) (xc X) H locs k n Q (F0 (xm X) pc ls rest) q
/-- the method's frame: its machine, code, class, words, surroundings and room -/
def gOk (X : gX) (M : gMT) (own : String) (cc : ByteArray) (nL d mc ms : Nat) : Prop :=
  (xp X).tables.exec = Jvm.exec ∧ (xc X).code = cc ∧ (xc X).maxLocals = nL ∧ (xs X).vm.findClass own = some (xm X).cls ∧ (∀ w ∈ wG, w.before (xa X) (xs X) = true) ∧ gAmb M (xs X) (xs X).heap ∧
  d ≤ (xR X).frames ∧ 64 * d ≤ (xR X).locals ∧ mc ≤ (xR X).cells ∧ ms ≤ (xR X).slots ∧ (∀ q, (xs X).heap.size ≤ q → gA M q) ∧ (xl X).stackTraces = false
section GB
variable {X : gX} {M : gMT} {own : String} {cc : ByteArray} {nL d mc ms : Nat}
theorem gOk.x (h : gOk X M own cc nL d mc ms) : (xp X).tables.exec = Jvm.exec := h.1
theorem gOk.b (h : gOk X M own cc nL d mc ms) : (xc X).code = cc := h.2.1
theorem gOk.nl (h : gOk X M own cc nL d mc ms) : (xc X).maxLocals = nL := h.2.2.1
theorem gOk.ow (h : gOk X M own cc nL d mc ms) : (xs X).vm.findClass own = some (xm X).cls := h.2.2.2.1
theorem gOk.ts (h : gOk X M own cc nL d mc ms) {w : Cond} (hw : w ∈ wG) : w.before (xa X) (xs X) = true := h.2.2.2.2.1 w hw
theorem gOk.amb (h : gOk X M own cc nL d mc ms) : gAmb M (xs X) (xs X).heap := h.2.2.2.2.2.1
theorem gOk.k (h : gOk X M own cc nL d mc ms) : va_K (gD M) gCl (gTys M) (xs X) := h.2.2.2.2.2.1.1
theorem gOk.base (h : gOk X M own cc nL d mc ms) : ∀ q, (xs X).heap.size ≤ q → gA M q := h.2.2.2.2.2.2.2.2.2.2.1
theorem gOk.fl (h : gOk X M own cc nL d mc ms) : (xl X).stackTraces = false := h.2.2.2.2.2.2.2.2.2.2.2
theorem gOk.fix (h : gOk X M own cc nL d mc ms) : CallFix (xp X) (xm X) (xc X) cc nL (xs X) (xa X) wG own := ⟨h.x, h.b, h.nl, h.ow, h.2.2.2.2.1⟩
/-- the surroundings at any later heap of the walk -/
theorem gOk.at (h : gOk X M own cc nL d mc ms) {H : Heap} {locs : List Loc} (hS : va_S (gA M) (xs X).heap H locs) : gAmb M (xs X) H := h.amb.kept hS.2.1
theorem gA_new (h : gOk X M own cc nL d mc ms) : ∀ q, (xs X).heap.size ≤ q → gA M q := h.base
end GB
/-! ===== a contract ===== -/
def gPc (M : gMT) (av : List Value) (σ : gS) : Array Value → State → Prop := va_Pc av (fun U => gAmb M U U.heap ∧ gRep M σ U.heap ∧ ∀ q, U.heap.size ≤ q → gA M q)
def gQc (M : gMT) (P : Option Value → gS → Prop) : Array Value → State → Outcome → State → Prop := fun _ st o t => ∃ (v : Option Value) (σ : gS), o = .returned v ∧ P v σ ∧ gRep M σ t.heap ∧ va_F (gA M) st t
def gXC (M : gMT) (PX : String → gS → Prop) : String → State → State → Prop := fun E st t => ∃ σ : gS, PX E σ ∧ gRep M σ t.heap ∧ va_F (gA M) st t
def gRoom (d mc ms : Nat) : Room := { frames := d, cells := mc, slots := ms, locals := 64 * d }
def Con (l : Launch) (M : gMT) (y : MethodName) (cw : Cond) (d mc ms : Nat) (av : List Value) (σ : gS) (P : Option Value → gS → Prop) (PX : String → gS → Prop) : Prop :=
  vx_Met l y (cw :: wG) (gRoom d mc ms) (gPc M av σ) (gQc M P) (gXC M PX) mc ms (gA M)
def gQ (X : gX) (M : gMT) (mc ms : Nat) (P : Option Value → gS → Prop) (PX : String → gS → Prop) : State → Prop := vx_MQ (xbl X) (gQc M P) (gXC M PX) (xa X) (xs X) mc ms (gA M)
/-- what a method's ends ask -/
def gRet (X : gX) (ret : Option FieldType) (nm : String) : Prop := (xmt X).sig.returnType = ret ∧ (xmt X).locks = false ∧ (xmt X).name = nm
theorem gPc_blind {M : gMT} {av : List Value} {σ : gS} : FrameBlind (gPc M av σ) := fun a U g mk q => by
  obtain ⟨q0, q1, q2, q3⟩ := q
  exact ⟨q0, gAmb.warm (s := U) (U := U.calling g mk a) (State.WarmedH.refl U) q1, q2, q3⟩
theorem g_con {l : Launch} {M : gMT} {y : MethodName} {cc : ByteArray} {maxL : Nat} {ret : Option FieldType} {d mc ms : Nat} {av : List Value} {σ : gS} {P : Option Value → gS → Prop} {PX : String → gS → Prop} {lv : List (Nat × Value)} (hfl : l.stackTraces = false)
    (hy : plainName y.cls = true) (hlv : lv_args 0 av = lv) (hcat : lv.all (fun q => q.2.category == 1) = true) (hn : (lg_sl av).length ≤ maxL)
    (body : ∀ X : gX, xl X = l → gOk X M y.cls cc maxL d mc ms → gRet X ret y.name → (∀ x ∈ (xc X).exceptionTable.toList, False) → G X M maxL (gQ X M mc ms P PX) 0 0 σ 0 lv []) : Con l M y (.code y cc maxL ret) d mc ms av σ P PX := by
  refine vx_ofW (cc := cc) (maxL := maxL) (ret := ret) hy rfl ?_
  intro p e s m args below meth c s₁ B hml ht hv
  obtain ⟨rfl, hA, hP, hbs⟩ := hv
  have hts := atoms_spec (ws := .code y cc maxL ret :: wG) B.pre
  have hlocks := B.notSynchronized
  have h := body (p, l, e, gRoom d mc ms, s, m, av.toArray, below, meth, c) rfl ⟨B.exec, B.bytes, hml, findClass_of_methodNamed B.named, fun w hw => hts w (List.mem_cons_of_mem _ hw), hA, Nat.le_refl _, Nat.le_refl _, Nat.le_refl _, Nat.le_refl _, hbs, hfl⟩ ⟨B.returns, hlocks, (name_of_methodNamed B.named B.method).1⟩ ht
  rw [lg_entry_eq]
  have hl := lv_entry av (n := maxL) hn
  rw [hlv] at hl
  exact h s.heap [] _ hP va_S.rf (gL_of_has hl hcat)
