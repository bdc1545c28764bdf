section
/-! ===== BEGIN words of one list among another's, by their places ===== -/
theorem goodIn_r {big : List Cond} (ws : List Cond) (ps : List Nat) (hp : ws = ps.filterMap (fun i => big[i]?)) (h : ws.all goodWord = true) : GoodIn big ws := by
  intro w hw
  have h1 := List.all_eq_true.mp h w hw
  rw [hp] at hw
  obtain ⟨i, -, hi⟩ := List.mem_filterMap.mp hw
  have hm : w ∈ big := by first | exact List.mem_of_getElem? hi | exact List.getElem?_mem hi
  exact ⟨hm, good_of_word h1⟩
theorem goodIn_app {big a b : List Cond} (ha : GoodIn big a) (hb : GoodIn big b) : GoodIn big (a ++ b) := fun w h => (List.mem_append.mp h).elim (ha w) (hb w)
theorem goodIn_ca {big a b : List Cond} {c : Cond} (ha : GoodIn big (c :: a)) (hb : GoodIn big b) : GoodIn big (c :: (a ++ b)) := fun w h => (List.mem_cons.mp h).elim (fun e => ha w (List.mem_cons.mpr (Or.inl e))) (fun h => (List.mem_append.mp h).elim (fun h => ha w (List.mem_cons.mpr (Or.inr h))) (hb w))
theorem goodIn_sub {big ws : List Cond} (hm : ∀ w ∈ ws, w ∈ big) (h : ws.all goodWord = true) : GoodIn big ws := fun w hw => ⟨hm w hw, good_of_word (List.all_eq_true.mp h w hw)⟩
/-! ===== END ===== -/
/-! ===== BEGIN exceptions that leave a method, and their catching by the caller (launches without stack traces) ===== -/
section VXA
/-! The laws vx_back, vx_callV, vx_callS, vx_callSW, vx_throw0, vx_throwS follow proofs of the library, with one case more: JvmDerived/Free/Laws.lean (Back.of_free), Shelf42/LK1.lean (callV, callS), Shelf/KitTraced.lean (throwNew0V, throwNewS). -/
/-- where a method has thrown q: the class by its name, the cell, what was written, the world -/
def vx_T (XC : String → State → State → Prop) (st : State) (q : Addr) (t : State) (mc ms : Nat) (free : Addr → Prop) : Prop :=
  ∃ (E : String) (ce : Cell) (L : List Loc), XC E st t ∧ t.heap[q]? = some ce ∧ ce.vm = .none ∧ st.vm.findClass E = some ce.cls ∧ st.WarmedH t.vm ∧ st.sameButNew ({ t with vm := st.vm } : State) L mc ms ∧ ∀ z ∈ L, free z.base
def vx_Q (Qc : Array Value → State → Outcome → State → Prop) (XC : String → State → State → Prop) (mc ms : Nat) (free : Addr → Prop) : Array Value → State → Outcome → State → Prop := fun a st o t =>
  (Qc a st o t ∧ ∃ L, FrameEnd st o t L mc ms ∧ ∀ q ∈ L, free q.base) ∨ ∃ q, o = .threw q ∧ vx_T XC st q t mc ms free
/-- a callee that returns or throws -/
def vx_Met (l : Launch) (y : MethodName) (ws : List Cond) (rm : Room) (Pc : Array Value → State → Prop) (Qc : Array Value → State → Outcome → State → Prop) (XC : String → State → State → Prop) (mc ms : Nat) (free : Addr → Prop) : Prop :=
  MetFree l y (headSpec ws rm) Pc (fun _ _ _ _ _ => True) (vx_Q Qc XC mc ms free)
def vx_Post (XC : String → State → State → Prop) (mc ms : Nat) (free : Addr → Prop) : Pt → Array Value → Addr → Pt → Prop := fun A a q B =>
  ∃ (g : JFrame) (mk : MethodId) (t : State) (L : List Loc) (E : String) (ce : Cell), B.U.heap = t.heap ∧ B.U.vm = t.vm ∧ XC E (A.U.calling g mk a) t ∧ t.heap[q]? = some ce ∧ ce.vm = .none ∧ A.U.vm.findClass E = some ce.cls ∧ B.locs = A.locs ++ L ∧ (∀ z ∈ L, free z.base) ∧ B.cells = A.cells + mc ∧ B.slots = A.slots + ms
def vx_Back (l : Launch) (R : Room) (p : Program) (e : Env) (below : List Frame) (s : State) (sargs : Array Value) (y : MethodName) (len W9 : Nat)
    (Pre : Pt → Array Value → Prop) (Post : Pt → Array Value → Option Value → Pt → Prop) (PostX : Pt → Array Value → Addr → Pt → Prop) : Prop :=
  ∀ (m : MethodId) (meth : Method) (c : Code) (A : Pt) (g : JFrame) (ig : Instr) (mk : MethodId) (a : Array Value),
    Stand p l e R s m sargs below meth c A.U A.locs A.cells A.slots → g.method = m → g.locals.size = c.maxLocals → decode c.code g.pc = .ok (ig, len) →
    2 * g.monitorRoom + (g.stack.map fun v => v.category).sum ≤ W9 → A.U.methodNamed? y = some mk → Pre A a →
    (∃ (v : Option Value) (B : Pt), Stand p l e R s m sargs below meth c B.U B.locs B.cells B.slots ∧ Post A a v B ∧
      Steps p.tables e below (doInvoke e (A.U.setTop g) [] mk a).1 (B.U.setTop { g with pc := g.pc + len, stack := v.toList ++ g.stack })) ∨
    (∃ (q : Addr) (B : Pt), Stand p l e R s m sargs below meth c B.U B.locs B.cells B.slots ∧ PostX A a q B ∧
      Steps p.tables e below (doInvoke e (A.U.setTop g) [] mk a).1 ((B.U.setTop g).pushFrame (.throwing q)))
section Payer
variable {l : Launch} {R : Room} {p : Program} {e : Env} {below : List Frame} {s : State} {sargs : Array Value} {y : MethodName} {len W9 : Nat}
theorem vx_back {ws : List Cond} {rm : Room} {Pc : Array Value → State → Prop} {Qc : Array Value → State → Outcome → State → Prop} {XC : String → State → State → Prop} {mc ms : Nat} {free : Addr → Prop} {bytes : ByteArray} {maxL : Nat} {ret : Option FieldType}
    (hM : vx_Met l y ws rm Pc Qc XC mc ms free) (hblind : FrameBlind Pc) (hrc : rm.cells = mc) (hrs : rm.slots = ms)
    (hframes : rm.frames + 1 ≤ R.frames) (hlocals : W9 + (maxL + 11) + rm.locals ≤ R.locals)
    (hws : ∀ w ∈ ws, ∀ a' U, s.WarmedH U.vm → w.before a' U = true) (hcode : Cond.code y bytes maxL ret ∈ ws) (hinit : ∀ a' U, s.WarmedH U.vm → (Cond.initialized y.cls).before a' U = true) :
    vx_Back l R p e below s sargs y len W9 (PreOf R mc ms Pc) (PostOf Qc mc ms free) (vx_Post XC mc ms free) := by
  intro m meth c A g ig mk a X hg hsize hdg hW hn hp
  have h1 : (headSpec ws rm).pre.before a A.U = true := atoms_intro fun w hw => hws w hw _ _ X.warmed
  have h2 : (Cond.code y bytes maxL ret).before a A.U = true := hws _ hcode _ _ X.warmed
  have h3 : (Cond.initialized y.cls).before a A.U = true := hinit _ _ X.warmed
  have h4 : A.cells + (headSpec ws rm).room.cells ≤ R.cells := by rw [show (headSpec ws rm).room.cells = mc from hrc]; exact hp.1
  have h5 : A.slots + (headSpec ws rm).room.slots ≤ R.slots := by rw [show (headSpec ws rm).room.slots = ms from hrs]; exact hp.2.1
  have hPc : Pc a (A.U.calling g mk a) := hblind _ _ _ _ hp.2.2
  obtain ⟨U, Ls, c0, s0⟩ := A
  dsimp only [Pt.U, Pt.locs, Pt.cells, Pt.slots] at h1 h2 h3 h4 h5 X hn hPc ⊢
  obtain ⟨methY, cY, hmY, hcY, -, hlY, -, -, -, -⟩ := Cond.code_spec hn h2
  obtain ⟨kY, hkY, -⟩ := className_of_methodNamed hn
  have hinitY : kY.init = .initialized := Cond.initialized_spec (findClass_of_methodNamed hn) hkY h3
  have h : At U g.method c below := by rw [hg]; exact X.here
  have hlocals9 : W9 + (maxL + 11) + (headSpec ws rm).room.locals ≤ R.locals := hlocals
  have happ : (headSpec ws rm).appliesLoose y e.platform (U.calling g mk a) = true :=
    Spec.appliesLoose_calling (g := g) h hdg hn hkY hinitY
      (X.room_calling (g := g) (R' := (headSpec ws rm).room) hsize hmY hcY hframes (by rw [hlY]; omega) h4 h5) h1
  obtain ⟨mid, hmid⟩ := h.above
  have hfr : (U.setTop g).frames = (.java g :: mid) ++ below := by rw [State.frames_setTop' g h.top, hmid]; rfl
  obtain ⟨o, s₂, hsteps, -, hend, hq⟩ := Steps.callFree hM p X.admits X.cas X.clock (acts := []) hfr happ hPc trivial
  have hq' : vx_Q Qc XC mc ms free a (U.calling g mk a) o s₂ := hq
  rw [State.frames_setTop' g h.top] at hend
  obtain ⟨g₀, hg0⟩ := Option.isSome_iff_exists.mp h.top
  obtain ⟨r, hr⟩ := State.topJava?_eq_some.mp hg0
  have hr' : (({ U with heap := s₂.heap, slotsUsed := s₂.slotsUsed } : State).setVm s₂.vm).frames = .java g₀ :: r := hr
  rcases hq' with ⟨hqc, L, hfe, hL⟩ | ⟨q, rfl, E, ce, L, hx, hce, hcv, hcl, hW₂, hsm, hL⟩
  · obtain ⟨⟨v, rfl⟩, hW₂, e2, q2, q3, q4, q5, q6⟩ := id hfe
    have e3 : s₂ = ({ (U.calling g mk a).setFrames s₂.frames with heap := s₂.heap, slotsUsed := s₂.slotsUsed } : State).setVm s₂.vm := by
      have : s₂ = ({ s₂ with vm := (U.calling g mk a).vm } : State).setVm s₂.vm := rfl
      rw [e2] at this
      exact this
    obtain ⟨c₂, i₂, len₂, hc₂, hd₂, hf₂⟩ := hend
    have hW' : U.WarmedH s₂.vm := hW₂
    have hcc : c₂ = c := by
      have h1 : s₂.code? g.method = U.code? g.method := by
        rw [State.code?_eq, State.code?_eq, hW'.alike.method?]
      exact Option.some.inj (hc₂.symm.trans (h1.trans h.code))
    subst hcc
    have hlen : len₂ = len := by rw [hdg] at hd₂; cases hd₂; rfl
    subst hlen
    have hs₂ : s₂ = (({ U with heap := s₂.heap, slotsUsed := s₂.slotsUsed } : State).setVm s₂.vm).setTop { g with pc := g.pc + len₂, stack := v.toList ++ g.stack } := by
      refine e3.trans ?_
      rw [hf₂, State.calling_eq h.top, State.setFrames_setFrames, State.setTop_of_frames _ hr', hr]
      rfl
    have hsame : U.sameButNew ({ U with heap := s₂.heap, slotsUsed := s₂.slotsUsed } : State) L mc ms := by
      refine ⟨?_, q2, q3, q4, q5, q6⟩
      obtain ⟨t, ht, -⟩ := State.frames_cons hr
      show ({ U with heap := s₂.heap, slotsUsed := s₂.slotsUsed } : State) = { U.setFrames U.frames with heap := s₂.heap, slotsUsed := s₂.slotsUsed }
      rw [State.setFrames_self ht]
    subst hg
    refine Or.inl ⟨v, ⟨(({ U with heap := s₂.heap, slotsUsed := s₂.slotsUsed } : State).setVm s₂.vm), Ls ++ L, c0 + mc, s0 + ms⟩,
      ⟨X.admits, X.cas, X.clock, X.frames, X.room, X.hears, X.method, X.code, (X.here.setHeapUsed s₂.heap s₂.slotsUsed).setVm hW'.alike, X.tail, State.WarmedH.trans X.warmed hW', X.limits, X.bytes, X.same.trans (hsame.setVm s.vm)⟩,
      ⟨g, mk, s₂, L, rfl, rfl, hqc, rfl, hL, rfl, rfl⟩, ?_⟩
    show Steps p.tables e below _ ((({ U with heap := s₂.heap, slotsUsed := s₂.slotsUsed } : State).setVm s₂.vm).setTop { g with pc := g.pc + len₂, stack := v.toList ++ g.stack })
    rw [← hs₂]
    exact hsteps
  · obtain ⟨e2, q2, q3, q4, q5, q6⟩ := id hsm
    have e3 : s₂ = ({ (U.calling g mk a).setFrames s₂.frames with heap := s₂.heap, slotsUsed := s₂.slotsUsed } : State).setVm s₂.vm := by
      have : s₂ = ({ s₂ with vm := (U.calling g mk a).vm } : State).setVm s₂.vm := rfl
      rw [e2] at this
      exact this
    have hf₂ : s₂.frames = .throwing q :: .java g :: U.frames.tail := hend
    have hW' : U.WarmedH s₂.vm := hW₂
    have hs₂ : s₂ = ((({ U with heap := s₂.heap, slotsUsed := s₂.slotsUsed } : State).setVm s₂.vm).setTop g).pushFrame (.throwing q) := by
      refine e3.trans ?_
      rw [hf₂, State.calling_eq h.top, State.setFrames_setFrames, State.pushFrame, State.frames_setTop _ hr', State.setTop_of_frames _ hr', State.setFrames_setFrames, hr]
      rfl
    have hsame : U.sameButNew ({ U with heap := s₂.heap, slotsUsed := s₂.slotsUsed } : State) L mc ms := by
      refine ⟨?_, q2, q3, q4, q5, q6⟩
      obtain ⟨t, ht, -⟩ := State.frames_cons hr
      show ({ U with heap := s₂.heap, slotsUsed := s₂.slotsUsed } : State) = { U.setFrames U.frames with heap := s₂.heap, slotsUsed := s₂.slotsUsed }
      rw [State.setFrames_self ht]
    subst hg
    refine Or.inr ⟨q, ⟨(({ U with heap := s₂.heap, slotsUsed := s₂.slotsUsed } : State).setVm s₂.vm), Ls ++ L, c0 + mc, s0 + ms⟩,
      ⟨X.admits, X.cas, X.clock, X.frames, X.room, X.hears, X.method, X.code, (X.here.setHeapUsed s₂.heap s₂.slotsUsed).setVm hW'.alike, X.tail, State.WarmedH.trans X.warmed hW', X.limits, X.bytes, X.same.trans (hsame.setVm s.vm)⟩,
      ⟨g, mk, s₂, L, E, ce, rfl, rfl, hx, hce, hcv, hcl, rfl, hL, rfl, rfl⟩, ?_⟩
    show Steps p.tables e below _ (((({ U with heap := s₂.heap, slotsUsed := s₂.slotsUsed } : State).setVm s₂.vm).setTop g).pushFrame (.throwing q))
    rw [← hs₂]
    exact hsteps
end Payer
section Calls
variable {p : Program} {l : Launch} {e : Env} {R : Room} {s : State} {m : MethodId} {args : Array Value} {below : List Frame} {meth : Method} {c : Code} {T : State} {locs : List Loc} {cells slots : Nat}
theorem vx_callV (X : Stand p l e R s m args below meth c T locs cells slots) (hexec : p.tables.exec = Jvm.exec) {own C : String} {index : Nat} {y : MethodName} {bytes : ByteArray} {maxL : Nat} {ret : Option FieldType}
    (hown : s.vm.findClass own = some m.cls) (hlink : (Cond.methodLink own index y).before args s = true) (hinst : (Cond.instanceMethod y).before args s = true) (hsel : (Cond.selects C y y).before args s = true)
    (hcode : (Cond.code y bytes maxL ret).before args s = true) (hy : y.cls ≠ "java/lang/invoke/MethodHandle" ∧ y.cls ≠ "java/lang/invoke/VarHandle")
    {W9 : Nat} {Pre : Pt → Array Value → Prop} {Post : Pt → Array Value → Option Value → Pt → Prop} {PostX : Pt → Array Value → Addr → Pt → Prop} (hK : vx_Back l R p e below s args y 3 W9 Pre Post PostX)
    {b : Addr} {cellB : Cell} (hcell : T.heap[b]? = some cellB) (hobj : cellB.vm.isStatics = false) (hcls : s.vm.findClass C = some cellB.cls)
    {g : JFrame} (hg : g.method = m) (hsize : g.locals.size = c.maxLocals) {argsL rest : List Value} (hlen : ∀ sig, parseMethodDescriptor y.desc = some sig → argsL.length = sig.parameters.length)
    (hstack : g.stack = argsL.reverse ++ .ref b :: rest) (hW : 2 * g.monitorRoom + (rest.map fun v => v.category).sum ≤ W9) (hdg : decode c.code g.pc = .ok (.invokevirtual index, 3))
    (hpre : ∀ vm₁, s.WarmedH vm₁ → Pre ⟨T.setVm vm₁, locs, cells, slots⟩ (Value.ref b :: argsL).toArray) :
    (∃ (v : Option Value) (vm₁ : Vm) (B : Pt), s.WarmedH vm₁ ∧ Stand p l e R s m args below meth c B.U B.locs B.cells B.slots ∧ Post ⟨T.setVm vm₁, locs, cells, slots⟩ (Value.ref b :: argsL).toArray v B ∧
      ∀ target, Steps p.tables e below (B.U.setTop { g with pc := g.pc + 3, stack := v.toList ++ rest }) target → Steps p.tables e below (T.setTop g) target) ∨
    (∃ (q : Addr) (vm₁ : Vm) (B : Pt), s.WarmedH vm₁ ∧ Stand p l e R s m args below meth c B.U B.locs B.cells B.slots ∧ PostX ⟨T.setVm vm₁, locs, cells, slots⟩ (Value.ref b :: argsL).toArray q B ∧
      Steps p.tables e below (T.setTop g) ((B.U.setTop { g with stack := rest }).pushFrame (.throwing q))) := by
  obtain ⟨mk, methM, hnamed, hmethM, hstM, habM⟩ := Cond.instanceMethod_spec hinst
  obtain ⟨methM', cM, hmethM', -, -, -, -, -, -, hsigM⟩ := Cond.code_spec hnamed hcode
  cases hmethM.symm.trans hmethM'
  obtain ⟨c2, r2, m2, q1, q2, q3, q4, kP, hkP, hkPi⟩ := Cond.selects_spec hsel
  cases hcls.symm.trans q1
  cases (State.methodFound?_of_named hnamed hy).symm.trans q2
  cases hnamed.symm.trans q3
  have hselP : selectMethod e.platform s.vm cellB.cls mk = .method mk := by rw [Launch.admits_selectMethod X.admits]; exact q4
  obtain ⟨vm₁, X₁, hstep₁⟩ := X.invokevirtual hexec hown hlink hnamed hmethM hstM hkP hkPi hy (a := b) (cell := cellB) hcell
    (fun z h => by rw [h] at hobj; cases hobj) hselP hmethM habM hkP hkPi (g := g) hg (argsL := argsL) (rest := rest) (hlen _ hsigM) hstack hdg
  rcases hK m meth c ⟨T.setVm vm₁, locs, cells, slots⟩ { g with stack := rest } (.invokevirtual index) mk (Value.ref b :: argsL).toArray X₁ hg hsize hdg hW (X₁.named hnamed) (hpre vm₁ X₁.warmed) with ⟨v, B, X', hpost, hsteps⟩ | ⟨q, B, X', hpost, hsteps⟩
  · exact Or.inl ⟨v, vm₁, B, X₁.warmed, X', hpost, fun target h => hstep₁ _ fun acts => by rw [doInvoke_state]; exact hsteps.trans h⟩
  · exact Or.inr ⟨q, vm₁, B, X₁.warmed, X', hpost, hstep₁ _ fun acts => by rw [doInvoke_state]; exact hsteps⟩
theorem vx_callS (X : Stand p l e R s m args below meth c T locs cells slots) (hexec : p.tables.exec = Jvm.exec) {own : String} {index : Nat} {y : MethodName} {bytes : ByteArray} {maxL : Nat} {ret : Option FieldType}
    (hown : s.vm.findClass own = some m.cls) (hlink : (Cond.methodLink own index y).before args s = true) (hstat : (Cond.static y).before args s = true) (hinit : (Cond.initialized y.cls).before args s = true)
    (hcode : (Cond.code y bytes maxL ret).before args s = true) (hy : y.cls ≠ "java/lang/invoke/MethodHandle" ∧ y.cls ≠ "java/lang/invoke/VarHandle")
    {W9 : Nat} {Pre : Pt → Array Value → Prop} {Post : Pt → Array Value → Option Value → Pt → Prop} {PostX : Pt → Array Value → Addr → Pt → Prop} (hK : vx_Back l R p e below s args y 3 W9 Pre Post PostX)
    {g : JFrame} (hg : g.method = m) (hsize : g.locals.size = c.maxLocals) {argsL rest : List Value} (hlen : ∀ sig, parseMethodDescriptor y.desc = some sig → argsL.length = sig.parameters.length)
    (hstack : g.stack = argsL.reverse ++ rest) (hW : 2 * g.monitorRoom + (rest.map fun v => v.category).sum ≤ W9) (hdg : decode c.code g.pc = .ok (.invokestatic index, 3))
    (hpre : ∀ vm₁, s.WarmedH vm₁ → Pre ⟨T.setVm vm₁, locs, cells, slots⟩ argsL.toArray) :
    (∃ (v : Option Value) (vm₁ : Vm) (B : Pt), s.WarmedH vm₁ ∧ Stand p l e R s m args below meth c B.U B.locs B.cells B.slots ∧ Post ⟨T.setVm vm₁, locs, cells, slots⟩ argsL.toArray v B ∧
      ∀ target, Steps p.tables e below (B.U.setTop { g with pc := g.pc + 3, stack := v.toList ++ rest }) target → Steps p.tables e below (T.setTop g) target) ∨
    (∃ (q : Addr) (vm₁ : Vm) (B : Pt), s.WarmedH vm₁ ∧ Stand p l e R s m args below meth c B.U B.locs B.cells B.slots ∧ PostX ⟨T.setVm vm₁, locs, cells, slots⟩ argsL.toArray q B ∧
      Steps p.tables e below (T.setTop g) ((B.U.setTop { g with stack := rest }).pushFrame (.throwing q))) := by
  obtain ⟨mk, hnamed⟩ := Cond.code_named hcode
  obtain ⟨methM, cM, hmethM, -, -, -, -, -, -, hsigM⟩ := Cond.code_spec hnamed hcode
  have hstatic : methM.isStatic = true := Cond.static_spec hnamed hmethM hstat
  obtain ⟨kP, hkP, -⟩ := className_of_methodNamed hnamed
  have hinitP : kP.init = .initialized := Cond.initialized_spec (findClass_of_methodNamed hnamed) hkP hinit
  obtain ⟨vm₁, X₁, hstep₁⟩ := X.invokestatic hexec hown hlink hnamed hmethM hstatic hkP hinitP hy (g := g) hg (argsL := argsL) (rest := rest) (hlen _ hsigM) hstack hdg
  rcases hK m meth c ⟨T.setVm vm₁, locs, cells, slots⟩ { g with stack := rest } (.invokestatic index) mk argsL.toArray X₁ hg hsize hdg hW (X₁.named hnamed) (hpre vm₁ X₁.warmed) with ⟨v, B, X', hpost, hsteps⟩ | ⟨q, B, X', hpost, hsteps⟩
  · exact Or.inl ⟨v, vm₁, B, X₁.warmed, X', hpost, fun target h => hstep₁ _ fun acts => by rw [doInvoke_state]; exact hsteps.trans h⟩
  · exact Or.inr ⟨q, vm₁, B, X₁.warmed, X', hpost, hstep₁ _ fun acts => by rw [doInvoke_state]; exact hsteps⟩
end Calls
theorem vx_cls {s : State} {T : State} {vm₁ : Vm} {E : String} {k : ClassId} (hW : s.WarmedH vm₁) (h : (T.setVm vm₁).vm.findClass E = some k) : s.vm.findClass E = some k := by
  have h1 : vm₁.findClass E = some k := h
  rw [hW.alike.findClass] at h1
  exact h1
/-- the method's frame g, with q thrown over it -/
def vx_W (p : Program) (l : Launch) (e : Env) (R : Room) (s : State) (m : MethodId) (args : Array Value) (below : List Frame) (meth : Method) (c : Code) (H : Heap) (locs : List Loc) (cells slots : Nat) (Q : State → Prop) (g : JFrame) (q : Addr) : Prop :=
  ∀ T : State, T.heap = H → Stand p l e R s m args below meth c T locs cells slots → ∃ t, Steps p.tables e below ((T.setTop g).pushFrame (.throwing q)) t ∧ Q t
def vx_Run (p : Program) (l : Launch) (e : Env) (R : Room) (s : State) (m : MethodId) (args : Array Value) (below : List Frame) (meth : Method) (c : Code) (H : Heap) (locs : List Loc) (cells slots mc ms : Nat) (g : JFrame) (rest : List Value) (Qa : State → Outcome → State → Prop) (XC : String → State → State → Prop) (free : Addr → Prop) : Prop :=
  ∀ T : State, T.heap = H → Stand p l e R s m args below meth c T locs cells slots →
    (∃ (v : Option Value) (st₀ t T' : State) (L : List Loc), st₀.heap = H ∧ Stand p l e R s m args below meth c T' (locs ++ L) (cells + mc) (slots + ms) ∧ (∀ q ∈ L, free q.base) ∧ T'.heap = t.heap ∧ T'.vm = t.vm ∧ Qa st₀ (.returned v) t ∧
      Goes p e below T g T' { g with pc := g.pc + 3, stack := v.toList ++ rest }) ∨
    (∃ (q : Addr) (st₀ t T' : State) (L : List Loc) (E : String) (ce : Cell), st₀.heap = H ∧ Stand p l e R s m args below meth c T' (locs ++ L) (cells + mc) (slots + ms) ∧ (∀ z ∈ L, free z.base) ∧ T'.heap = t.heap ∧ T'.vm = t.vm ∧ XC E st₀ t ∧ t.heap[q]? = some ce ∧ ce.vm = .none ∧ s.vm.findClass E = some ce.cls ∧
      Steps p.tables e below (T.setTop g) ((T'.setTop { g with stack := rest }).pushFrame (.throwing q)))
def vx_X {S : Type} (px : S → Prop) (B : String → S → State → Prop) (A : Nat → Prop) : String → State → State → Prop := fun E st t => ∃ u : S, px u ∧ B E u t ∧ va_F A st t
section Runs
variable {p : Program} {l : Launch} {e : Env} {R : Room} {s : State} {m : MethodId} {args : Array Value} {below : List Frame} {meth : Method} {c : Code} {H : Heap} {locs : List Loc} {cells slots : Nat}
variable {y : MethodName} {bytes cc : ByteArray} {maxL nL mc ms n index : Nat} {ret : Option FieldType} {ws : List Cond} {rm : Room} {Pc : Array Value → State → Prop} {Qc : Array Value → State → Outcome → State → Prop} {XC : String → State → State → Prop} {free : Addr → Prop} {Ts : List Cond} {own C : String} {b : Addr} {As rest : List Value} {g : JFrame}
theorem vx_callBack (cb : CallB R s args own index y bytes maxL ret ws rm mc ms n) (hM : vx_Met l y ws rm Pc Qc XC mc ms free) (hbl : FrameBlind Pc) : vx_Back l R p e below s args y 3 8 (PreOf R mc ms Pc) (PostOf Qc mc ms free) (vx_Post XC mc ms free) := by
  obtain ⟨hrc, hrs, hfr, hlo, hws, hcw, -, hini, -⟩ := cb
  exact vx_back (bytes := bytes) (maxL := maxL) (ret := ret) hM hbl hrc hrs hfr hlo hws hcw (fun a' U hW => word_at hW (Or.inl (by first | rfl | simp [Cond.onTables, Cond.keeps, Cond.steady])) hini)
theorem vx_runV (S : CallFix p m c cc nL s args Ts own) (hM : vx_Met l y ws rm Pc Qc XC mc ms free) (cw : CallW R s args own C index y bytes maxL ret ws rm mc ms n) (hp : PreV s H C b Pc As)
    (hg : g.method = m) (hn : As.length = n) (hsize : g.locals.size = nL) (hstack : g.stack = As.reverse ++ .ref b :: rest) (hW : 2 * g.monitorRoom + (rest.map fun v => v.category).sum ≤ 8) (hdg : decode cc g.pc = .ok (.invokevirtual index, 3)) (hf : cells + mc ≤ R.cells ∧ slots + ms ≤ R.slots) :
    vx_Run p l e R s m args below meth c H locs cells slots mc ms g rest (Qc (Value.ref b :: As).toArray) XC free := by
  have hK : vx_Back l R p e below s args y 3 8 (PreOf R mc ms Pc) (PostOf Qc mc ms free) (vx_Post XC mc ms free) := vx_callBack cw.1 hM hp.1
  obtain ⟨⟨-, -, -, -, -, -, hcode, -, hy, hlen, hl⟩, hin, hse⟩ := cw
  obtain ⟨hx, hb, hml, ho, -⟩ := S
  obtain ⟨-, ⟨cellB, hcB, hoB, hclB⟩, hPc⟩ := hp
  intro T hT X
  rcases vx_callV X hx (C := C) (bytes := bytes) (maxL := maxL) (ret := ret) ho hl hin hse hcode hy hK (by rw [hT]; exact hcB) hoB hclB hg (hsize.trans hml.symm) (argsL := As) (rest := rest) (fun sig h => hn.trans (hlen sig h)) hstack hW (by rw [hb]; exact hdg)
    (fun vm₁ hW₁ => ⟨hf.1, hf.2, hPc (T.setVm vm₁) hT hW₁⟩) with ⟨v, vm₁, ⟨U', l2, c2, s2⟩, hW₁, X', ⟨g', mk, t, L, e1, e2, hq, h1, hL, h2, h3⟩, st⟩ | ⟨q, vm₁, ⟨U', l2, c2, s2⟩, hW₁, X', ⟨g', mk, t, L, E, ce, e1, e2, hq, hce, hcv, hcl, h1, hL, h2, h3⟩, st⟩
  · dsimp only [Pt.U, Pt.locs, Pt.cells, Pt.slots] at X' e1 e2 h1 h2 h3 st
    subst h1; subst h2; subst h3
    exact Or.inl ⟨v, (T.setVm vm₁).calling g' mk (Value.ref b :: As).toArray, t, U', L, hT, X', hL, e1, e2, hq, st⟩
  · dsimp only [Pt.U, Pt.locs, Pt.cells, Pt.slots] at X' e1 e2 h1 h2 h3 st hcl
    subst h1; subst h2; subst h3
    exact Or.inr ⟨q, (T.setVm vm₁).calling g' mk (Value.ref b :: As).toArray, t, U', L, E, ce, hT, X', hL, e1, e2, hq, hce, hcv, vx_cls hW₁ hcl, st⟩
theorem vx_runS (S : CallFix p m c cc nL s args Ts own) (hM : vx_Met l y ws rm Pc Qc XC mc ms free) (cw : CallB R s args own index y bytes maxL ret ws rm mc ms n ∧ (Cond.static y).before args s = true) (hp : PreS s H Pc As)
    (hg : g.method = m) (hn : As.length = n) (hsize : g.locals.size = nL) (hstack : g.stack = As.reverse ++ rest) (hW : 2 * g.monitorRoom + (rest.map fun v => v.category).sum ≤ 8) (hdg : decode cc g.pc = .ok (.invokestatic index, 3)) (hf : cells + mc ≤ R.cells ∧ slots + ms ≤ R.slots) :
    vx_Run p l e R s m args below meth c H locs cells slots mc ms g rest (Qc As.toArray) XC free := by
  have hK : vx_Back l R p e below s args y 3 8 (PreOf R mc ms Pc) (PostOf Qc mc ms free) (vx_Post XC mc ms free) := vx_callBack cw.1 hM hp.1
  obtain ⟨⟨-, -, -, -, -, -, hcode, hini, hy, hlen, hl⟩, hstt⟩ := cw
  obtain ⟨hx, hb, hml, ho, -⟩ := S
  intro T hT X
  rcases vx_callS X hx (bytes := bytes) (maxL := maxL) (ret := ret) ho hl hstt hini hcode hy hK hg (hsize.trans hml.symm) (argsL := As) (rest := rest) (fun sig h => hn.trans (hlen sig h)) hstack hW (by rw [hb]; exact hdg)
    (fun vm₁ hW₁ => ⟨hf.1, hf.2, hp.2 (T.setVm vm₁) hT hW₁⟩) with ⟨v, vm₁, ⟨U', l2, c2, s2⟩, hW₁, X', ⟨g', mk, t, L, e1, e2, hq, h1, hL, h2, h3⟩, st⟩ | ⟨q, vm₁, ⟨U', l2, c2, s2⟩, hW₁, X', ⟨g', mk, t, L, E, ce, e1, e2, hq, hce, hcv, hcl, h1, hL, h2, h3⟩, st⟩
  · dsimp only [Pt.U, Pt.locs, Pt.cells, Pt.slots] at X' e1 e2 h1 h2 h3 st
    subst h1; subst h2; subst h3
    exact Or.inl ⟨v, (T.setVm vm₁).calling g' mk As.toArray, t, U', L, hT, X', hL, e1, e2, hq, st⟩
  · dsimp only [Pt.U, Pt.locs, Pt.cells, Pt.slots] at X' e1 e2 h1 h2 h3 st hcl
    subst h1; subst h2; subst h3
    exact Or.inr ⟨q, (T.setVm vm₁).calling g' mk As.toArray, t, U', L, E, ce, hT, X', hL, e1, e2, hq, hce, hcv, vx_cls hW₁ hcl, st⟩
end Runs
section Rows
variable {p : Program} {l : Launch} {e : Env} {R : Room} {s : State} {m : MethodId} {args : Array Value} {below : List Frame} {meth : Method} {c : Code} {H : Heap} {locs : List Loc} {cells slots : Nat} {Q : State → Prop}
variable {mc ms : Nat} {free : Addr → Prop} {A0 A1 : Nat → Prop} {H0 : Heap} {a : Array Value} {pc : Nat} {ls : Array Slot} {st0 rest : List Value}
theorem vx_keep {st₀ t T' : State} {L : List Loc} (h0 : st₀.heap = H) (e1 : T'.heap = t.heap) (hS : va_S A0 H0 H locs) (hA : ∀ q, q < H.size → A1 q → A0 q) (hf : ∀ q, free q → A0 q) (hL : ∀ q ∈ L, free q.base) (hF : va_F A1 st₀ t) :
    H.size ≤ T'.heap.size ∧ (∀ q : Nat, q < H.size → ¬ A1 q → T'.heap[q]? = H[q]?) ∧ va_S A0 H0 T'.heap (locs ++ L) := by
  obtain ⟨hz, hk⟩ := hF
  rw [h0] at hz hk
  exact ⟨by rw [e1]; exact hz, fun q h1 h2 => by rw [e1]; exact hk q h1 h2,
    ⟨Nat.le_trans hS.1 (by rw [e1]; exact hz), fun q h1 h2 => by rw [e1, hk q (Nat.lt_of_lt_of_le h1 hS.1) (fun z => h2 (hA q (Nat.lt_of_lt_of_le h1 hS.1) z))]; exact hS.2.1 q h1 h2, fun q hq => by
      rcases List.mem_append.mp hq with h | h
      · exact hS.2.2 q h
      · exact hf _ (hL q h)⟩⟩
theorem vx_calli {S SX : Type} {post : Int32 → S → Prop} {px : SX → Prop} {B : S → State → Prop} {BX : String → SX → State → Prop} {AX : Nat → Prop} (hr : vx_Run p l e R s m args below meth c H locs cells slots mc ms (F0 m pc ls st0) rest (va_Qi post B A1 a) (vx_X px BX AX) free) (hS : va_S A0 H0 H locs) (hA : ∀ q, q < H.size → A1 q → A0 q) (hf : ∀ q, free q → A0 q) (hAX : ∀ q, q < H.size → AX q → A0 q)
    (kx : ∀ (E : String) (ce : Cell) (q9 : Addr) (u : SX) (t : State) (H1 : Heap) (locs1 : List Loc), t.heap = H1 → s.vm.Alike t.vm → px u → BX E u t → H.size ≤ H1.size → (∀ q : Nat, q < H.size → ¬ AX q → H1[q]? = H[q]?) → va_S A0 H0 H1 locs1 → H1[q9]? = some ce → ce.vm = .none → s.vm.findClass E = some ce.cls → vx_W p l e R s m args below meth c H1 locs1 (cells + mc) (slots + ms) Q (F0 m pc ls rest) q9)
    (kk : ∀ (r : Int32) (u : S) (t : State) (H1 : Heap) (locs1 : List Loc), t.heap = H1 → s.vm.Alike t.vm → post r u → B u t → H.size ≤ H1.size → (∀ q : Nat, q < H.size → ¬ A1 q → H1[q]? = H[q]?) → va_S A0 H0 H1 locs1 → W p l e R s m args below meth c H1 locs1 (cells + mc) (slots + ms) Q (F0 m (pc + 3) ls (.int r :: rest))) : W p l e R s m args below meth c H locs cells slots Q (F0 m pc ls st0) := by
  intro T hT X
  rcases hr T hT X with ⟨v, st₀, t, T', L, h0, X', hL, e1, e2, ⟨⟨r, u, hv, hp, hb⟩, hF⟩, st⟩ | ⟨q, st₀, t, T', L, E, ce, h0, X', hL, e1, e2, ⟨u, hp, hb, hF⟩, hce, hcv, hcl, st⟩
  · cases hv
    obtain ⟨k1, k2, k3⟩ := vx_keep h0 e1 hS hA hf hL hF
    obtain ⟨t2, a1, b1⟩ := kk r u t T'.heap (locs ++ L) e1.symm (by rw [← e2]; exact X'.warmed.alike) hp hb k1 k2 k3 T' rfl X'
    exact ⟨t2, st t2 a1, b1⟩
  · obtain ⟨k1, k2, k3⟩ := vx_keep h0 e1 hS hAX hf hL hF
    obtain ⟨t2, a1, b1⟩ := kx E ce q u t T'.heap (locs ++ L) e1.symm (by rw [← e2]; exact X'.warmed.alike) hp hb k1 k2 k3 (by rw [e1]; exact hce) hcv hcl T' rfl X'
    exact ⟨t2, st.trans a1, b1⟩
theorem vx_calll {S SX : Type} {post : Int64 → S → Prop} {px : SX → Prop} {B : S → State → Prop} {BX : String → SX → State → Prop} {AX : Nat → Prop} (hr : vx_Run p l e R s m args below meth c H locs cells slots mc ms (F0 m pc ls st0) rest (va_Ql post B A1 a) (vx_X px BX AX) free) (hS : va_S A0 H0 H locs) (hA : ∀ q, q < H.size → A1 q → A0 q) (hf : ∀ q, free q → A0 q) (hAX : ∀ q, q < H.size → AX q → A0 q)
    (kx : ∀ (E : String) (ce : Cell) (q9 : Addr) (u : SX) (t : State) (H1 : Heap) (locs1 : List Loc), t.heap = H1 → s.vm.Alike t.vm → px u → BX E u t → H.size ≤ H1.size → (∀ q : Nat, q < H.size → ¬ AX q → H1[q]? = H[q]?) → va_S A0 H0 H1 locs1 → H1[q9]? = some ce → ce.vm = .none → s.vm.findClass E = some ce.cls → vx_W p l e R s m args below meth c H1 locs1 (cells + mc) (slots + ms) Q (F0 m pc ls rest) q9)
    (kk : ∀ (r : Int64) (u : S) (t : State) (H1 : Heap) (locs1 : List Loc), t.heap = H1 → s.vm.Alike t.vm → post r u → B u t → H.size ≤ H1.size → (∀ q : Nat, q < H.size → ¬ A1 q → H1[q]? = H[q]?) → va_S A0 H0 H1 locs1 → W p l e R s m args below meth c H1 locs1 (cells + mc) (slots + ms) Q (F0 m (pc + 3) ls (.long r :: rest))) : W p l e R s m args below meth c H locs cells slots Q (F0 m pc ls st0) := by
  intro T hT X
  rcases hr T hT X with ⟨v, st₀, t, T', L, h0, X', hL, e1, e2, ⟨⟨r, u, hv, hp, hb⟩, hF⟩, st⟩ | ⟨q, st₀, t, T', L, E, ce, h0, X', hL, e1, e2, ⟨u, hp, hb, hF⟩, hce, hcv, hcl, st⟩
  · cases hv
    obtain ⟨k1, k2, k3⟩ := vx_keep h0 e1 hS hA hf hL hF
    obtain ⟨t2, a1, b1⟩ := kk r u t T'.heap (locs ++ L) e1.symm (by rw [← e2]; exact X'.warmed.alike) hp hb k1 k2 k3 T' rfl X'
    exact ⟨t2, st t2 a1, b1⟩
  · obtain ⟨k1, k2, k3⟩ := vx_keep h0 e1 hS hAX hf hL hF
    obtain ⟨t2, a1, b1⟩ := kx E ce q u t T'.heap (locs ++ L) e1.symm (by rw [← e2]; exact X'.warmed.alike) hp hb k1 k2 k3 (by rw [e1]; exact hce) hcv hcl T' rfl X'
    exact ⟨t2, st.trans a1, b1⟩
theorem vx_callf {S SX : Type} {post : UInt32 → S → Prop} {px : SX → Prop} {B : S → State → Prop} {BX : String → SX → State → Prop} {AX : Nat → Prop} (hr : vx_Run p l e R s m args below meth c H locs cells slots mc ms (F0 m pc ls st0) rest (va_Qf post B A1 a) (vx_X px BX AX) free) (hS : va_S A0 H0 H locs) (hA : ∀ q, q < H.size → A1 q → A0 q) (hf : ∀ q, free q → A0 q) (hAX : ∀ q, q < H.size → AX q → A0 q)
    (kx : ∀ (E : String) (ce : Cell) (q9 : Addr) (u : SX) (t : State) (H1 : Heap) (locs1 : List Loc), t.heap = H1 → s.vm.Alike t.vm → px u → BX E u t → H.size ≤ H1.size → (∀ q : Nat, q < H.size → ¬ AX q → H1[q]? = H[q]?) → va_S A0 H0 H1 locs1 → H1[q9]? = some ce → ce.vm = .none → s.vm.findClass E = some ce.cls → vx_W p l e R s m args below meth c H1 locs1 (cells + mc) (slots + ms) Q (F0 m pc ls rest) q9)
    (kk : ∀ (r : UInt32) (u : S) (t : State) (H1 : Heap) (locs1 : List Loc), t.heap = H1 → s.vm.Alike t.vm → post r u → B u t → H.size ≤ H1.size → (∀ q : Nat, q < H.size → ¬ A1 q → H1[q]? = H[q]?) → va_S A0 H0 H1 locs1 → W p l e R s m args below meth c H1 locs1 (cells + mc) (slots + ms) Q (F0 m (pc + 3) ls (.float r :: rest))) : W p l e R s m args below meth c H locs cells slots Q (F0 m pc ls st0) := by
  intro T hT X
  rcases hr T hT X with ⟨v, st₀, t, T', L, h0, X', hL, e1, e2, ⟨⟨r, u, hv, hp, hb⟩, hF⟩, st⟩ | ⟨q, st₀, t, T', L, E, ce, h0, X', hL, e1, e2, ⟨u, hp, hb, hF⟩, hce, hcv, hcl, st⟩
  · cases hv
    obtain ⟨k1, k2, k3⟩ := vx_keep h0 e1 hS hA hf hL hF
    obtain ⟨t2, a1, b1⟩ := kk r u t T'.heap (locs ++ L) e1.symm (by rw [← e2]; exact X'.warmed.alike) hp hb k1 k2 k3 T' rfl X'
    exact ⟨t2, st t2 a1, b1⟩
  · obtain ⟨k1, k2, k3⟩ := vx_keep h0 e1 hS hAX hf hL hF
    obtain ⟨t2, a1, b1⟩ := kx E ce q u t T'.heap (locs ++ L) e1.symm (by rw [← e2]; exact X'.warmed.alike) hp hb k1 k2 k3 (by rw [e1]; exact hce) hcv hcl T' rfl X'
    exact ⟨t2, st.trans a1, b1⟩
theorem vx_calld {S SX : Type} {post : UInt64 → S → Prop} {px : SX → Prop} {B : S → State → Prop} {BX : String → SX → State → Prop} {AX : Nat → Prop} (hr : vx_Run p l e R s m args below meth c H locs cells slots mc ms (F0 m pc ls st0) rest (va_Qd post B A1 a) (vx_X px BX AX) free) (hS : va_S A0 H0 H locs) (hA : ∀ q, q < H.size → A1 q → A0 q) (hf : ∀ q, free q → A0 q) (hAX : ∀ q, q < H.size → AX q → A0 q)
    (kx : ∀ (E : String) (ce : Cell) (q9 : Addr) (u : SX) (t : State) (H1 : Heap) (locs1 : List Loc), t.heap = H1 → s.vm.Alike t.vm → px u → BX E u t → H.size ≤ H1.size → (∀ q : Nat, q < H.size → ¬ AX q → H1[q]? = H[q]?) → va_S A0 H0 H1 locs1 → H1[q9]? = some ce → ce.vm = .none → s.vm.findClass E = some ce.cls → vx_W p l e R s m args below meth c H1 locs1 (cells + mc) (slots + ms) Q (F0 m pc ls rest) q9)
    (kk : ∀ (r : UInt64) (u : S) (t : State) (H1 : Heap) (locs1 : List Loc), t.heap = H1 → s.vm.Alike t.vm → post r u → B u t → H.size ≤ H1.size → (∀ q : Nat, q < H.size → ¬ A1 q → H1[q]? = H[q]?) → va_S A0 H0 H1 locs1 → W p l e R s m args below meth c H1 locs1 (cells + mc) (slots + ms) Q (F0 m (pc + 3) ls (.double r :: rest))) : W p l e R s m args below meth c H locs cells slots Q (F0 m pc ls st0) := by
  intro T hT X
  rcases hr T hT X with ⟨v, st₀, t, T', L, h0, X', hL, e1, e2, ⟨⟨r, u, hv, hp, hb⟩, hF⟩, st⟩ | ⟨q, st₀, t, T', L, E, ce, h0, X', hL, e1, e2, ⟨u, hp, hb, hF⟩, hce, hcv, hcl, st⟩
  · cases hv
    obtain ⟨k1, k2, k3⟩ := vx_keep h0 e1 hS hA hf hL hF
    obtain ⟨t2, a1, b1⟩ := kk r u t T'.heap (locs ++ L) e1.symm (by rw [← e2]; exact X'.warmed.alike) hp hb k1 k2 k3 T' rfl X'
    exact ⟨t2, st t2 a1, b1⟩
  · obtain ⟨k1, k2, k3⟩ := vx_keep h0 e1 hS hAX hf hL hF
    obtain ⟨t2, a1, b1⟩ := kx E ce q u t T'.heap (locs ++ L) e1.symm (by rw [← e2]; exact X'.warmed.alike) hp hb k1 k2 k3 (by rw [e1]; exact hce) hcv hcl T' rfl X'
    exact ⟨t2, st.trans a1, b1⟩
theorem vx_callv {S SX : Type} {post : S → Prop} {px : SX → Prop} {B : S → State → Prop} {BX : String → SX → State → Prop} {AX : Nat → Prop} (hr : vx_Run p l e R s m args below meth c H locs cells slots mc ms (F0 m pc ls st0) rest (va_Qv post B A1 a) (vx_X px BX AX) free) (hS : va_S A0 H0 H locs) (hA : ∀ q, q < H.size → A1 q → A0 q) (hf : ∀ q, free q → A0 q) (hAX : ∀ q, q < H.size → AX q → A0 q)
    (kx : ∀ (E : String) (ce : Cell) (q9 : Addr) (u : SX) (t : State) (H1 : Heap) (locs1 : List Loc), t.heap = H1 → s.vm.Alike t.vm → px u → BX E u t → H.size ≤ H1.size → (∀ q : Nat, q < H.size → ¬ AX q → H1[q]? = H[q]?) → va_S A0 H0 H1 locs1 → H1[q9]? = some ce → ce.vm = .none → s.vm.findClass E = some ce.cls → vx_W p l e R s m args below meth c H1 locs1 (cells + mc) (slots + ms) Q (F0 m pc ls rest) q9)
    (kk : ∀ (u : S) (t : State) (H1 : Heap) (locs1 : List Loc), t.heap = H1 → s.vm.Alike t.vm → post u → B u t → H.size ≤ H1.size → (∀ q : Nat, q < H.size → ¬ A1 q → H1[q]? = H[q]?) → va_S A0 H0 H1 locs1 → W p l e R s m args below meth c H1 locs1 (cells + mc) (slots + ms) Q (F0 m (pc + 3) ls (rest))) : W p l e R s m args below meth c H locs cells slots Q (F0 m pc ls st0) := by
  intro T hT X
  rcases hr T hT X with ⟨v, st₀, t, T', L, h0, X', hL, e1, e2, ⟨⟨u, hv, hp, hb⟩, hF⟩, st⟩ | ⟨q, st₀, t, T', L, E, ce, h0, X', hL, e1, e2, ⟨u, hp, hb, hF⟩, hce, hcv, hcl, st⟩
  · cases hv
    obtain ⟨k1, k2, k3⟩ := vx_keep h0 e1 hS hA hf hL hF
    obtain ⟨t2, a1, b1⟩ := kk u t T'.heap (locs ++ L) e1.symm (by rw [← e2]; exact X'.warmed.alike) hp hb k1 k2 k3 T' rfl X'
    exact ⟨t2, st t2 a1, b1⟩
  · obtain ⟨k1, k2, k3⟩ := vx_keep h0 e1 hS hAX hf hL hF
    obtain ⟨t2, a1, b1⟩ := kx E ce q u t T'.heap (locs ++ L) e1.symm (by rw [← e2]; exact X'.warmed.alike) hp hb k1 k2 k3 (by rw [e1]; exact hce) hcv hcl T' rfl X'
    exact ⟨t2, st.trans a1, b1⟩
/-- caught by the row x of this method's table; the rows ahead don't take it -/
theorem vx_catch {own name : String} {E : String} {ce : Cell} {q : Addr} (hown : s.vm.findClass own = some m.cls) (pre : List ExceptionTableEntry) (x : ExceptionTableEntry) (suf : List ExceptionTableEntry) (hsplit : c.exceptionTable.toList = pre ++ x :: suf)
    (hpass : ∀ z ∈ pre, covers z pc = false ∨ (z.catchType ≠ 0 ∧ ∃ nm : String, (Cond.classLink own z.catchType nm).before args s = true ∧ va_Nc E nm s)) (hx : covers x pc = true) (h0 : x.catchType ≠ 0)
    (hlink : (Cond.classLink own x.catchType name).before args s = true) (hcast : (Cond.castable E name).before args s = true) (hcell : H[q]? = some ce) (hv : ce.vm = .none) (hcl : s.vm.findClass E = some ce.cls)
    (kk : W p l e R s m args below meth c H locs cells slots Q (F0 m x.handlerPc ls [.ref q])) : vx_W p l e R s m args below meth c H locs cells slots Q (F0 m pc ls rest) q := by
  intro T hT X
  have hpl : e.platform.magicAccessors = ({} : Platform).magicAccessors := by rw [X.admits.platform]
  obtain ⟨c3, c4, hc3, hc4, hasg⟩ := Cond.castable_spec hcast
  cases Option.some.inj (hc3.symm.trans hcl)
  obtain ⟨c5, hc5, hcl5⟩ := Cond.classLink_spec hown hlink e.platform hpl
  cases Option.some.inj (hc4.symm.trans hc5)
  obtain ⟨vm', X', st⟩ := X.thenCaughtThrough q (g := F0 m pc ls rest) rfl (Steps.refl _) (by rw [hT]; exact hcell) (by rw [hv]; rfl) (by obtain ⟨k9, h9, -⟩ := Vm.findClass_spec hcl; exact ⟨k9, h9⟩) pre x suf hsplit
    (fun z hz => by
      rcases hpass z hz with h | ⟨hz0, nm, hl1, hn1⟩
      · exact Or.inl h
      · obtain ⟨c6, hc6, hcl6⟩ := Cond.classLink_spec hown hl1 e.platform hpl
        obtain ⟨a8, b8, h1, h2, h3⟩ := hn1
        cases Option.some.inj (h1.symm.trans hcl)
        cases Option.some.inj (h2.symm.trans hc6)
        exact Or.inr ⟨hz0, _, hcl6, h3⟩) hx (Or.inr ⟨h0, c4, hcl5, hasg⟩)
  obtain ⟨t, a1, b1⟩ := kk (T.setVm vm') hT X'
  exact ⟨t, st.trans a1, b1⟩
end Rows
section Ends
variable {p : Program} {l : Launch} {e : Env} {R : Room} {s : State} {m : MethodId} {args : Array Value} {below : List Frame} {meth : Method} {c : Code} {H : Heap} {locs : List Loc} {cells slots : Nat} {Q : State → Prop}
variable {mc ms : Nat} {free : Addr → Prop} {A0 A1 : Nat → Prop} {H0 : Heap} {a : Array Value} {ls : Array Slot} {st0 rest : List Value}
variable {Qc : Array Value → State → Outcome → State → Prop} {XC : String → State → State → Prop}
/-- what a body that may throw owes at its end -/
def vx_MQ (below : List Frame) (Qc : Array Value → State → Outcome → State → Prop) (XC : String → State → State → Prop) (a : Array Value) (s : State) (mc ms : Nat) (free : Addr → Prop) : State → Prop := fun t =>
  ∃ o, t.status = .running ∧ Ended t below o ∧ vx_Q Qc XC mc ms free a s o t
theorem vx_ret {g : JFrame} {mc ms : Nat} (k : W p l e R s m args below meth c H locs cells slots (MQ below Qc args s mc ms free) g) : W p l e R s m args below meth c H locs cells slots (vx_MQ below Qc XC args s mc ms free) g := by
  intro T hT X
  obtain ⟨t, a1, o, b1, b2, b3, b4⟩ := k T hT X
  exact ⟨t, a1, o, b1, b2, Or.inl ⟨b3, b4⟩⟩
/-- not caught here: it goes on to the caller -/
theorem vx_widen {g : JFrame} {q : Addr} {k n : Nat} (h1 : cells ≤ k) (h2 : slots ≤ n) (kk : vx_W p l e R s m args below meth c H locs k n Q g q) : vx_W p l e R s m args below meth c H locs cells slots Q g q := fun T hT X => kk T hT (stand_widen X h1 h2)
theorem vx_out {pc : Nat} {E : String} {ce : Cell} {q : Addr} {mc ms : Nat} (hout : ∀ x ∈ c.exceptionTable.toList, covers x pc = false) (hlocks : meth.locks = false) (hcell : H[q]? = some ce) (hv : ce.vm = .none) (hcl : s.vm.findClass E = some ce.cls)
    (hx : ∀ t : State, t.heap = H → s.vm.Alike t.vm → XC E s t) (hf : ∀ z ∈ locs, free z.base) (hc : cells ≤ mc) (hs : slots ≤ ms) :
    vx_W p l e R s m args below meth c H locs cells slots (vx_MQ below Qc XC args s mc ms free) (F0 m pc ls rest) q := by
  intro T hT X
  obtain ⟨st1, hrun, hend, hW, hsm⟩ := X.leaveThrown q (g := F0 m pc ls rest) rfl rfl rfl hout hlocks
  have hcell9 : (T.setFrames (.throwing q :: below)).heap[q]? = some ce := by
    show T.heap[q]? = some ce
    rw [hT]; exact hcell
  exact ⟨_, st1, .threw q, hrun, hend, Or.inr ⟨q, rfl, E, ce, locs, hx _ hT hW.alike, hcell9, hv, hcl, hW, hsm.mono hc hs, hf⟩⟩
theorem vx_frame {U : State} {k n : Nat} (h : s.sameButNew ({ U with vm := s.vm } : State) locs k n) : s.heap.size ≤ U.heap.size ∧ ∀ q : Nat, q < s.heap.size → (∀ z ∈ locs, z.base ≠ q) → U.heap[q]? = s.heap[q]? := by
  obtain ⟨-, h2, -, -, -, h6⟩ := h
  refine ⟨h2, fun q hq hz => ?_⟩
  obtain ⟨c9, e1, e2, e3, e4⟩ := h6 q _ (Array.getElem?_eq_getElem hq)
  have hs : c9.slots = (s.heap[q]).slots := Array.ext_getElem? fun i => e4 i fun hm => hz _ hm rfl
  have h9 : c9 = s.heap[q] := by
    rw [hs] at e2
    exact e2
  have e5 : U.heap[q]? = some c9 := e1
  rw [e5, h9, Array.getElem?_eq_getElem hq]
/-- the words of a throw but the four that speak of the heap -/
def vx_no (w : Cond) : Bool := decide (w ≠ .isRef (.static Bundle.tN "UNASSIGNED_STACK" Bundle.steD)) && decide (w ≠ .isRef (.static Bundle.tN "SUPPRESSED_SENTINEL" Bundle.listD)) && decide (w ≠ .laysStatic Bundle.tN "UNASSIGNED_STACK" Bundle.steD) && decide (w ≠ .laysStatic Bundle.tN "SUPPRESSED_SENTINEL" Bundle.listD)
def vx_at0 (own : String) (ic : Nat) (X : String) (names : List String) : List Cond := (Bundle.ownAtoms0 own ic X names).filter vx_no
def vx_atS (own : String) (ic : Nat) (X : String) (names : List String) : List Cond := (Bundle.ownAtoms own ic X names).filter vx_no
/-- a word that the tables alone decide, or a good one -/
def vx_ot (w : Cond) : Bool := w.onTables || goodWord w
theorem vx_ot_at {args a' : Array Value} {s U : State} {w : Cond} (hW : s.WarmedH U.vm) (hvm : s.vm = U.vm) (hg : vx_ot w = true) (h : w.before args s = true) : w.before a' U = true := by
  simp only [vx_ot, Bool.or_eq_true] at hg
  rcases hg with hg | hg
  · exact va_tabs hg hvm h
  · exact word_at hW (good_of_word hg) h
/-- a list's words: the good ones out of the method's own list, the others by premises of their own -/
theorem vx_hat {args : Array Value} {s : State} {L B : List Cond} (h1 : ∀ w ∈ L.filter goodWord, w.before args s = true) (h2 : ∀ w ∈ L.filter (fun w => !goodWord w), w ∈ B) (h3 : ∀ w ∈ B, w.before args s = true) : ∀ w ∈ L, w.before args s = true := by
  intro w hw
  by_cases g : goodWord w = true
  · exact h1 w (List.mem_filter.mpr ⟨hw, g⟩)
  · refine h3 w (h2 w (List.mem_filter.mpr ⟨hw, ?_⟩))
    show (!goodWord w) = true
    cases hgw : goodWord w
    · rfl
    · exact absurd hgw g
theorem vx_c {args : Array Value} {s : State} {w : Cond} {B : List Cond} (h : w.before args s = true) (t : ∀ w ∈ B, w.before args s = true) : ∀ w' ∈ w :: B, w'.before args s = true := fun w' h' => (List.mem_cons.mp h').elim (fun e => by rw [e]; exact h) (t w')
theorem vx_n {args : Array Value} {s : State} : ∀ w ∈ ([] : List Cond), w.before args s = true := fun _ h => nomatch h
theorem vx_own {args : Array Value} {s : State} {L : List Cond} (h1 : ∀ w ∈ L.filter vx_no, w.before args s = true)
    (hU : (Cond.isRef (.static Bundle.tN "UNASSIGNED_STACK" Bundle.steD)).before args s = true) (hN : (Cond.isRef (.static Bundle.tN "SUPPRESSED_SENTINEL" Bundle.listD)).before args s = true)
    (lU : (Cond.laysStatic Bundle.tN "UNASSIGNED_STACK" Bundle.steD).before args s = true) (lN : (Cond.laysStatic Bundle.tN "SUPPRESSED_SENTINEL" Bundle.listD).before args s = true) : ∀ w ∈ L, w.before args s = true := by
  intro w hw
  by_cases e1 : w = .isRef (.static Bundle.tN "UNASSIGNED_STACK" Bundle.steD)
  · rw [e1]; exact hU
  · by_cases e2 : w = .isRef (.static Bundle.tN "SUPPRESSED_SENTINEL" Bundle.listD)
    · rw [e2]; exact hN
    · by_cases e3 : w = .laysStatic Bundle.tN "UNASSIGNED_STACK" Bundle.steD
      · rw [e3]; exact lU
      · by_cases e4 : w = .laysStatic Bundle.tN "SUPPRESSED_SENTINEL" Bundle.listD
        · rw [e4]; exact lN
        · exact h1 w (List.mem_filter.mpr ⟨hw, by unfold vx_no; rw [decide_eq_true e1, decide_eq_true e2, decide_eq_true e3, decide_eq_true e4]; rfl⟩)
/-- where a static field lies, its class's statics cell in H -/
def vx_L (C n d : String) (A : Nat → Prop) (U : State) (H : Heap) : Prop := ∃ (c : ClassId) (k : Class) (i : Nat) (f : Field) (a : Nat) (cell : Cell), U.vm.findClass C = some c ∧ U.fieldFound? C n d = some (c, k, i, f) ∧ f.isStatic = true ∧ k.statics = some a ∧ H[a]? = some cell ∧ cell.vm.isStatics = true ∧ cell.cls = c ∧ f.slot < cell.slots.size ∧ k.staticTypes[f.slot]? = some f.type ∧ ¬ A a
theorem vx_L.moved {C n d : String} {A : Nat → Prop} {u U : State} {H : Heap} (hvm : u.vm.Alike U.vm) (h : vx_L C n d A u H) : vx_L C n d A U H := by
  obtain ⟨c, k, i, f, a, cell, h1, h2, h3, h4, h5, h6, h7, h8, h9, h10⟩ := h
  obtain ⟨k', hi', he⟩ := State.fieldFound?_setVm hvm h2
  exact ⟨c, k', i, f, a, cell, by rw [hvm.findClass]; exact h1, hi', h3, by rw [he]; exact h4, h5, h6, h7, h8, by rw [he]; exact h9, h10⟩
theorem vx_L.kept {C n d : String} {A : Nat → Prop} {U : State} {H H1 : Heap} (h : vx_L C n d A U H) (hq : ∀ a : Nat, a < H.size → ¬ A a → H1[a]? = H[a]?) : vx_L C n d A U H1 := by
  obtain ⟨c, k, i, f, a, cell, h1, h2, h3, h4, h5, h6, h7, h8, h9, h10⟩ := h
  exact ⟨c, k, i, f, a, cell, h1, h2, h3, h4, by rw [hq a (Array.getElem?_eq_some_iff.mp h5).1 h10]; exact h5, h6, h7, h8, h9, h10⟩
theorem vx_L.narrow {C n d : String} {A B : Nat → Prop} {U : State} {H : Heap} (h : vx_L C n d A U H) (hAB : ∀ q, B q → A q) : vx_L C n d B U H := by
  obtain ⟨c, k, i, f, a, cell, h1, h2, h3, h4, h5, h6, h7, h8, h9, h10⟩ := h
  exact ⟨c, k, i, f, a, cell, h1, h2, h3, h4, h5, h6, h7, h8, h9, fun z => h10 (hAB _ z)⟩
theorem vx_L.word {C n d : String} {A : Nat → Prop} {s : State} {args : Array Value} (h : vx_L C n d A s s.heap) : (Cond.laysStatic C n d).before args s = true := by
  obtain ⟨c, k, i, f, a, cell, h1, h2, h3, h4, h5, h6, h7, h8, h9, -⟩ := h
  show (Cond.laysStatic C n d).holds args s none s [] = true
  exact Cond.laysStatic_of h1 h2 h3 h4 h5 h6 h7 h8 h9
/-- .. and what it holds: null or some reference -/
def vx_Zq (C n d : String) (A : Nat → Prop) (U : State) (H : Heap) : Prop := va_Zq C n d A U H ∧ vx_L C n d A U H
theorem vx_Zq.moved {C n d : String} {A : Nat → Prop} {u U : State} {H : Heap} (hvm : u.vm.Alike U.vm) (h : vx_Zq C n d A u H) : vx_Zq C n d A U H := ⟨va_Zq.moved hvm h.1, vx_L.moved hvm h.2⟩
theorem vx_Zq.kept {C n d : String} {A : Nat → Prop} {U : State} {H H1 : Heap} (h : vx_Zq C n d A U H) (hq : ∀ a : Nat, a < H.size → ¬ A a → H1[a]? = H[a]?) : vx_Zq C n d A U H1 := ⟨va_Zq.kept h.1 hq, vx_L.kept h.2 hq⟩
theorem vx_Zq.narrow {C n d : String} {A B : Nat → Prop} {U : State} {H : Heap} (h : vx_Zq C n d A U H) (hAB : ∀ q, B q → A q) : vx_Zq C n d B U H := ⟨va_Zq.narrow h.1 hAB, vx_L.narrow h.2 hAB⟩
theorem vx_Zqof {args : Array Value} {s : State} {C n d : String} {A : Nat → Prop} (hl : (Cond.laysStatic C n d).before args s = true) (hini : (Cond.initialized C).before args s = true) (h : (Cond.isRef (.static C n d)).before args s = true) (hA : ∀ a : Nat, a < s.heap.size → ¬ A a) : vx_Zq C n d A s s.heap := by
  refine ⟨va_Zqof hl hini h hA, ?_⟩
  obtain ⟨c, k, i, f, a, cell, h1, h2, h3, h4, h5, h6, h7, h8, h9⟩ := Cond.laysStatic_spec hl
  exact ⟨c, k, i, f, a, cell, h1, h2, h3, h4, h5, h6, h7, h8, h9, hA a (Array.getElem?_eq_some_iff.mp h5).1⟩
theorem vx_isRef {C n d : String} {v : Value} {A : Nat → Prop} {s : State} {args : Array Value} (h : va_Z C n d v A s s.heap) (hv : v.isRef = true) : (Cond.isRef (.static C n d)).before args s = true := by
  obtain ⟨cf, kf, fi, f, a, cell, h1, h2, h3, h4, h5, h6, h7, -⟩ := h
  have he : (Term.static C n d).eval args s none [] s = some v := by
    simp [Term.eval, State.fieldNamed?, h1, h2, h4, h5, h6, h7]
  simp only [Cond.before, Cond.holds, Cond.value, he]
  cases v <;> simp_all [Value.isRef]
theorem vx_isRefq {C n d : String} {A : Nat → Prop} {s : State} {args : Array Value} (h : va_Zq C n d A s s.heap) : (Cond.isRef (.static C n d)).before args s = true := by
  rcases h with h | ⟨t, h⟩
  · exact vx_isRef h rfl
  · exact vx_isRef h rfl
/-- the same frame, seen from here: as if the method were called anew in this heap -/
theorem vx_rebase {T : State} (X : Stand p l e R s m args below meth c T locs cells slots) {R' : Room} (hf : R'.frames ≤ R.frames) (hl : R'.locals ≤ R.locals) (hc : cells + R'.cells ≤ R.cells) (hs : slots + R'.slots ≤ R.slots) :
    Stand p l e R' ((T.setVm s.vm).setFrames (.invoking m args :: below)) m args below meth c T [] 0 0 := by
  have htop : (T.setVm s.vm).topJava?.isSome := X.here.top
  have hF : ((T.setVm s.vm).setFrames (.invoking m args :: below)).frames = .invoking m args :: below := State.frames_setFrames _ (State.cur_lt_of_top htop)
  obtain ⟨g₀, hg0⟩ := Option.isSome_iff_exists.mp htop
  obtain ⟨r, hr⟩ := State.topJava?_eq_some.mp hg0
  have hl9 : e.platform.stackLimits (T.setVm s.vm).me = e.platform.stackLimits s.me := X.limits
  have hb9 : (T.setVm s.vm).me.stackBytes = s.me.stackBytes := X.bytes
  refine ⟨X.admits, X.cas, X.clock, hF, ?_, X.hears, X.method, X.code, X.here, X.tail, X.warmed, ?_, ?_, ?_⟩
  · have h := X.room
    have hU : ((T.setVm s.vm).setFrames (.invoking m args :: below)).localsInUse = s.localsInUse := by
      rw [State.localsInUse_invoking hF (meth := meth) (c := c) X.method X.code, State.localsInUse_invoking X.frames X.method X.code]
    simp only [State.hasRoom, Bool.and_eq_true, decide_eq_true_eq] at h ⊢
    obtain ⟨⟨⟨⟨h1, h2, h3, h4, h5, h6⟩, h7⟩, h8⟩, h9⟩ := h
    rw [X.frames, List.length_cons] at h2 h3
    have q1 := X.heapSize
    have q2 := X.used
    simp only [hF, hU, List.length_cons, State.stackLimits_setFrames, State.stackBytes_setFrames, hl9, hb9]
    refine ⟨⟨⟨⟨by omega, by omega, by omega, by omega, by omega, h6⟩, ?_⟩, ?_⟩, X.book⟩
    · show T.heap.size + R'.cells ≤ e.platform.maxCells
      omega
    · show T.slotsUsed + R'.slots ≤ e.platform.maxSlots
      omega
  · rw [State.stackLimits_setFrames]; rfl
  · rw [State.stackBytes_setFrames]; rfl
  · refine ⟨?_, Nat.le_refl _, Nat.le_refl _, ?_, ?_, fun a c9 h9 => ⟨c9, h9, rfl, rfl, fun _ _ => rfl⟩⟩
    · obtain ⟨t, ht, -⟩ := State.frames_cons hr
      show T.setVm s.vm = { ((T.setVm s.vm).setFrames (.invoking m args :: below)).setFrames (T.setVm s.vm).frames with heap := T.heap, slotsUsed := T.slotsUsed }
      rw [State.setFrames_setFrames, State.setFrames_self ht]
      rfl
    · show T.slotsUsed = T.slotsUsed + ((T.heap.toList.drop T.heap.size).map (·.slots.size)).sum
      rw [List.drop_eq_nil_of_le (Nat.le_of_eq Array.length_toList)]
      rfl
    · show ((T.heap.toList.drop T.heap.size).map (·.slots.size)).sum ≤ 0
      rw [List.drop_eq_nil_of_le (Nat.le_of_eq Array.length_toList)]
      exact Nat.le_refl _
/-- 'throw new E()': new; dup; invokespecial; athrow -/
theorem vx_throw0 {cc : ByteArray} {pc : Nat} (hexec : p.tables.exec = Jvm.exec) (hb : c.code = cc) (hl : l.stackTraces = false) {own cls : String} {names : List String} {ik ic mc ms : Nat} {A : Nat → Prop}
    (hown : s.vm.findClass own = some m.cls) (hcls : Bundle.fit cls = true) (hnames : ∀ n ∈ names, Bundle.fit n = true)
    (hk : (Cond.classLink own ik cls).before args s = true) (hini : (Cond.initialized cls).before args s = true) (hat : ∀ w ∈ vx_at0 own ic cls names, w.before args s = true)
    (hgood : ∀ w ∈ Cond.classLink own ik cls :: Cond.initialized cls :: vx_at0 own ic cls names, vx_ot w = true)
    (hU : vx_Zq Bundle.tN "UNASSIGNED_STACK" Bundle.steD A s s.heap) (hN : vx_Zq Bundle.tN "SUPPRESSED_SENTINEL" Bundle.listD A s s.heap) (hS : va_S A s.heap H locs) (hsize : ls.size = c.maxLocals)
    (d0 : decode cc pc = .ok (.new ik, 3)) (d3 : decode cc (pc + 3) = .ok (.dup, 1)) (d4 : decode cc (pc + 4) = .ok (.invokespecial ic, 3)) (d7 : decode cc (pc + 7) = .ok (.athrow, 1))
    (hout : ∀ x ∈ c.exceptionTable.toList, covers x (pc + 7) = false)
    (hRframes : names.length + 3 < R.frames) (hRlocals : (rest.map fun v => v.category).sum + (13 * (names.length + 1) + 42) ≤ R.locals) (hRcells : cells + 1 ≤ R.cells) (hRslots : slots + 6 ≤ R.slots) (hlocks : meth.locks = false)
    (hx : ∀ t : State, s.vm.Alike t.vm → H.size ≤ t.heap.size → (∀ q : Nat, q < H.size → t.heap[q]? = H[q]?) → XC cls s t)
    (hf : ∀ z ∈ locs, free z.base) (hc : cells + 1 ≤ mc) (hs : slots + 6 ≤ ms) :
    W p l e R s m args below meth c H locs cells slots (vx_MQ below Qc XC args s mc ms free) (F0 m pc ls rest) := by
  intro T hT X
  have htr : e.platform.stackTraces = false := (show e.platform.stackTraces = l.stackTraces by rw [X.admits.platform]).trans hl
  have Y := vx_rebase X (R' := { frames := R.frames, locals := R.locals, cells := 1, slots := 6 }) (Nat.le_refl _) (Nat.le_refl _) hRcells hRslots
  obtain ⟨s', hA⟩ : ∃ z, z = (T.setVm s.vm).setFrames (.invoking m args :: below) := ⟨_, rfl⟩
  rw [← hA] at Y
  have hvm : s'.vm = s.vm := by rw [hA]; rfl
  have hhp : s'.heap = H := by rw [hA]; exact hT
  have hW0 : s.WarmedH s'.vm := by rw [hvm]; exact State.WarmedH.refl s
  have hat' : ∀ w ∈ vx_at0 own ic cls names, w.before args s' = true := fun w hw => vx_ot_at hW0 hvm.symm (hgood w (List.mem_cons_of_mem _ (List.mem_cons_of_mem _ hw))) (hat w hw)
  have hk' : (Cond.classLink own ik cls).before args s' = true := vx_ot_at hW0 hvm.symm (hgood _ List.mem_cons_self) hk
  have hini' : (Cond.initialized cls).before args s' = true := vx_ot_at hW0 hvm.symm (hgood _ (List.mem_cons_of_mem _ List.mem_cons_self)) hini
  have hU' : vx_Zq Bundle.tN "UNASSIGNED_STACK" Bundle.steD A s' s'.heap := by rw [hhp]; exact vx_Zq.moved hW0.alike (hU.kept hS.2.1)
  have hN' : vx_Zq Bundle.tN "SUPPRESSED_SENTINEL" Bundle.listD A s' s'.heap := by rw [hhp]; exact vx_Zq.moved hW0.alike (hN.kept hS.2.1)
  have h : ∀ w ∈ Bundle.ownAtoms0 own ic cls names, w.before args s' = true := vx_own hat' (vx_isRefq hU'.1) (vx_isRefq hN'.1) hU'.2.word hN'.2.word
  have hown' : s'.vm.findClass own = some m.cls := by rw [hvm]; exact hown
  have hins : (Cond.instantiable cls 6).before args s' = true := h _ (by simp [Bundle.ownAtoms0])
  obtain ⟨vm₁, cX, kX, hfX, hkX, -, -, X₁, st1⟩ := Y.newCold hexec (own := own) (C := cls) (index := ik) (n := 6) hown' hk' hins hini'
    (g := F0 m pc ls rest) rfl (by rw [hb]; exact d0) (Nat.le_refl _) (Nat.le_refl _)
  generalize hT1 : (T.setVm vm₁).pushCell { cls := cX, slots := kX.instanceTypes.map defaultValue, vm := .none } = T1 at X₁ st1
  have hcat : (Value.ref T.heap.size).category = 1 := rfl
  have hcellA : T1.heap[T.heap.size]? = some (freshCell cX kX) := by rw [← hT1]; exact State.heap_pushCell_size _ _
  have d3' : decode c.code (pc + 3) = .ok (.dup, 1) := by rw [hb]; exact d3
  obtain ⟨U, hsteps, hrun, hend, hW, hsame, ce, hce, hO⟩ := X₁.ctorThrow0 hexec htr (own := own) (cls := cls) (names := names) (ic := ic) hown' hcls hnames h (fun x hx => nomatch hx) hfX hkX hcellA (by rw [hhp, hT]; exact Nat.le_refl _)
    (g := { method := m, pc := pc + 4, locals := ls, stack := .ref T.heap.size :: .ref T.heap.size :: rest, locked := none }) rfl hsize rfl rfl (rest := rest) rfl
    (by rw [hb]; exact d4) (by rw [hb]; exact d7) hout hRframes (by simp only [List.map_cons, List.sum_cons, hcat]; omega) hlocks
  obtain ⟨f1, f2⟩ := vx_frame hsame
  rw [hhp] at f1 f2
  have hWs : s.WarmedH U.vm := State.WarmedH.trans hW0 hW
  have hcl : s.vm.findClass cls = some ce.cls := by
    have h9 := hO.cls
    rw [hvm] at h9
    exact h9
  have hall : s.sameButNew ({ U with vm := s.vm } : State) locs mc ms := by
    subst hA
    obtain ⟨e1, e2⟩ := hsame
    rw [State.setFrames_setFrames] at e1
    have h2 : (T.setVm s.vm).sameButNew ({ U with vm := s.vm } : State) [] (0 + 1) (0 + 6) := ⟨e1, e2⟩
    have h3 := X.same.trans h2
    rw [List.append_nil] at h3
    exact h3.mono hc hs
  refine ⟨U, ?_, .threw T.heap.size, hrun, hend, Or.inr ⟨T.heap.size, rfl, cls, ce, locs, hx U hWs.alike f1 (fun q hq => f2 q hq (fun z hz => nomatch hz)), hce, hO.vm, hcl, hWs, hall, hf⟩⟩
  refine st1 _ ?_
  show Steps p.tables e below (T1.setTop { method := m, pc := pc + 3, locals := ls, stack := .ref T.heap.size :: rest, locked := none }) _
  jvm_step X₁.here [X₁.here.top, hexec, d3', Value.category]
  exact hsteps
/-- 'throw new E("text")': new; dup; ldc; invokespecial; athrow -/
theorem vx_throwS {cc : ByteArray} {pc : Nat} (hexec : p.tables.exec = Jvm.exec) (hb : c.code = cc) (hl : l.stackTraces = false) {own cls text : String} {names : List String} {ik is ic mc ms sa : Nat} {A : Nat → Prop}
    (hown : s.vm.findClass own = some m.cls) (hcls : Bundle.fit cls = true) (hnames : ∀ n ∈ names, Bundle.fit n = true)
    (hk : (Cond.classLink own ik cls).before args s = true) (hini : (Cond.initialized cls).before args s = true) (hstr : vk_R own is text sa s) (hat : ∀ w ∈ vx_atS own ic cls names, w.before args s = true)
    (hgood : ∀ w ∈ Cond.classLink own ik cls :: Cond.initialized cls :: vx_atS own ic cls names, vx_ot w = true)
    (hU : vx_Zq Bundle.tN "UNASSIGNED_STACK" Bundle.steD A s s.heap) (hN : vx_Zq Bundle.tN "SUPPRESSED_SENTINEL" Bundle.listD A s s.heap) (hS : va_S A s.heap H locs) (hsize : ls.size = c.maxLocals)
    (d0 : decode cc pc = .ok (.new ik, 3)) (d3 : decode cc (pc + 3) = .ok (.dup, 1)) (d4 : decode cc (pc + 4) = .ok (.ldc is, 2)) (d6 : decode cc (pc + 6) = .ok (.invokespecial ic, 3)) (d9 : decode cc (pc + 9) = .ok (.athrow, 1))
    (hout : ∀ x ∈ c.exceptionTable.toList, covers x (pc + 9) = false)
    (hRframes : names.length + 3 < R.frames) (hRlocals : (rest.map fun v => v.category).sum + (13 * (names.length + 1) + 43) ≤ R.locals) (hRcells : cells + 1 ≤ R.cells) (hRslots : slots + 6 ≤ R.slots) (hlocks : meth.locks = false)
    (hx : ∀ t : State, s.vm.Alike t.vm → H.size ≤ t.heap.size → (∀ q : Nat, q < H.size → t.heap[q]? = H[q]?) → XC cls s t)
    (hf : ∀ z ∈ locs, free z.base) (hc : cells + 1 ≤ mc) (hs : slots + 6 ≤ ms) :
    W p l e R s m args below meth c H locs cells slots (vx_MQ below Qc XC args s mc ms free) (F0 m pc ls rest) := by
  intro T hT X
  have htr : e.platform.stackTraces = false := (show e.platform.stackTraces = l.stackTraces by rw [X.admits.platform]).trans hl
  have Y := vx_rebase X (R' := { frames := R.frames, locals := R.locals, cells := 1, slots := 6 }) (Nat.le_refl _) (Nat.le_refl _) hRcells hRslots
  obtain ⟨s', hA⟩ : ∃ z, z = (T.setVm s.vm).setFrames (.invoking m args :: below) := ⟨_, rfl⟩
  rw [← hA] at Y
  have hvm : s'.vm = s.vm := by rw [hA]; rfl
  have hhp : s'.heap = H := by rw [hA]; exact hT
  have hW0 : s.WarmedH s'.vm := by rw [hvm]; exact State.WarmedH.refl s
  have hat' : ∀ w ∈ vx_atS own ic cls names, w.before args s' = true := fun w hw => vx_ot_at hW0 hvm.symm (hgood w (List.mem_cons_of_mem _ (List.mem_cons_of_mem _ hw))) (hat w hw)
  have hk' : (Cond.classLink own ik cls).before args s' = true := vx_ot_at hW0 hvm.symm (hgood _ List.mem_cons_self) hk
  have hini' : (Cond.initialized cls).before args s' = true := vx_ot_at hW0 hvm.symm (hgood _ (List.mem_cons_of_mem _ List.mem_cons_self)) hini
  have hU' : vx_Zq Bundle.tN "UNASSIGNED_STACK" Bundle.steD A s' s'.heap := by rw [hhp]; exact vx_Zq.moved hW0.alike (hU.kept hS.2.1)
  have hN' : vx_Zq Bundle.tN "SUPPRESSED_SENTINEL" Bundle.listD A s' s'.heap := by rw [hhp]; exact vx_Zq.moved hW0.alike (hN.kept hS.2.1)
  have h : ∀ w ∈ Bundle.ownAtoms own ic cls names, w.before args s' = true := vx_own hat' (vx_isRefq hU'.1) (vx_isRefq hN'.1) hU'.2.word hN'.2.word
  have hown' : s'.vm.findClass own = some m.cls := by rw [hvm]; exact hown
  have hins : (Cond.instantiable cls 6).before args s' = true := h _ (by simp [Bundle.ownAtoms])
  obtain ⟨vm₁, cX, kX, hfX, hkX, -, -, X₁, st1⟩ := Y.newCold hexec (own := own) (C := cls) (index := ik) (n := 6) hown' hk' hins hini'
    (g := F0 m pc ls rest) rfl (by rw [hb]; exact d0) (Nat.le_refl _) (Nat.le_refl _)
  generalize hT1 : (T.setVm vm₁).pushCell { cls := cX, slots := kX.instanceTypes.map defaultValue, vm := .none } = T1 at X₁ st1
  have hcat : (Value.ref T.heap.size).category = 1 := rfl
  have hcellA : T1.heap[T.heap.size]? = some (freshCell cX kX) := by rw [← hT1]; exact State.heap_pushCell_size _ _
  have d3' : decode c.code (pc + 3) = .ok (.dup, 1) := by rw [hb]; exact d3
  have d4' : decode c.code (pc + 4) = .ok (.ldc is, 2) := by rw [hb]; exact d4
  have hstr' : vk_R own is text sa s' := vk_R.warm hW0 hstr
  obtain ⟨U, hsteps, hrun, hend, hW, hsame, ce, hce, hO⟩ := X₁.ctorThrowS hexec htr (own := own) (cls := cls) (names := names) (ic := ic) hown' hcls hnames h (fun x hx => nomatch hx) hfX hkX hcellA (by rw [hhp, hT]; exact Nat.le_refl _) (msg := .ref sa) rfl
    (g := { method := m, pc := pc + 6, locals := ls, stack := .ref sa :: .ref T.heap.size :: .ref T.heap.size :: rest, locked := none }) rfl hsize rfl rfl (rest := rest) rfl
    (by rw [hb]; exact d6) (by rw [hb]; exact d9) hout hRframes (by simp only [List.map_cons, List.sum_cons, hcat]; omega) hlocks
  obtain ⟨f1, f2⟩ := vx_frame hsame
  rw [hhp] at f1 f2
  have hWs : s.WarmedH U.vm := State.WarmedH.trans hW0 hW
  have hcl : s.vm.findClass cls = some ce.cls := by
    have h9 := hO.cls
    rw [hvm] at h9
    exact h9
  have hall : s.sameButNew ({ U with vm := s.vm } : State) locs mc ms := by
    subst hA
    obtain ⟨e1, e2⟩ := hsame
    rw [State.setFrames_setFrames] at e1
    have h2 : (T.setVm s.vm).sameButNew ({ U with vm := s.vm } : State) [] (0 + 1) (0 + 6) := ⟨e1, e2⟩
    have h3 := X.same.trans h2
    rw [List.append_nil] at h3
    exact h3.mono hc hs
  refine ⟨U, ?_, .threw T.heap.size, hrun, hend, Or.inr ⟨T.heap.size, rfl, cls, ce, locs, hx U hWs.alike f1 (fun q hq => f2 q hq (fun z hz => nomatch hz)), hce, hO.vm, hcl, hWs, hall, hf⟩⟩
  refine st1 _ ?_
  show Steps p.tables e below (T1.setTop { method := m, pc := pc + 3, locals := ls, stack := .ref T.heap.size :: rest, locked := none }) _
  jvm_step X₁.here [X₁.here.top, hexec, d3', Value.category]
  exact X₁.ldcString hexec (own := own) (text := text) (index := is) (a := sa) hown' hstr'.1 hstr'.2
    (g := { method := m, pc := pc + 4, locals := ls, stack := .ref T.heap.size :: .ref T.heap.size :: rest, locked := none }) rfl d4' _ hsteps
/-- 'throw new E("text")', the text by a wide index -/
theorem vx_throwSW {cc : ByteArray} {pc : Nat} (hexec : p.tables.exec = Jvm.exec) (hb : c.code = cc) (hl : l.stackTraces = false) {own cls text : String} {names : List String} {ik is ic mc ms sa : Nat} {A : Nat → Prop}
    (hown : s.vm.findClass own = some m.cls) (hcls : Bundle.fit cls = true) (hnames : ∀ n ∈ names, Bundle.fit n = true)
    (hk : (Cond.classLink own ik cls).before args s = true) (hini : (Cond.initialized cls).before args s = true) (hstr : vk_R own is text sa s) (hat : ∀ w ∈ vx_atS own ic cls names, w.before args s = true)
    (hgood : ∀ w ∈ Cond.classLink own ik cls :: Cond.initialized cls :: vx_atS own ic cls names, vx_ot w = true)
    (hU : vx_Zq Bundle.tN "UNASSIGNED_STACK" Bundle.steD A s s.heap) (hN : vx_Zq Bundle.tN "SUPPRESSED_SENTINEL" Bundle.listD A s s.heap) (hS : va_S A s.heap H locs) (hsize : ls.size = c.maxLocals)
    (d0 : decode cc pc = .ok (.new ik, 3)) (d3 : decode cc (pc + 3) = .ok (.dup, 1)) (d4 : decode cc (pc + 4) = .ok (.ldc_w is, 3)) (d7 : decode cc (pc + 7) = .ok (.invokespecial ic, 3)) (d10 : decode cc (pc + 10) = .ok (.athrow, 1))
    (hout : ∀ x ∈ c.exceptionTable.toList, covers x (pc + 10) = false)
    (hRframes : names.length + 3 < R.frames) (hRlocals : (rest.map fun v => v.category).sum + (13 * (names.length + 1) + 43) ≤ R.locals) (hRcells : cells + 1 ≤ R.cells) (hRslots : slots + 6 ≤ R.slots) (hlocks : meth.locks = false)
    (hx : ∀ t : State, s.vm.Alike t.vm → H.size ≤ t.heap.size → (∀ q : Nat, q < H.size → t.heap[q]? = H[q]?) → XC cls s t)
    (hf : ∀ z ∈ locs, free z.base) (hc : cells + 1 ≤ mc) (hs : slots + 6 ≤ ms) :
    W p l e R s m args below meth c H locs cells slots (vx_MQ below Qc XC args s mc ms free) (F0 m pc ls rest) := by
  intro T hT X
  have htr : e.platform.stackTraces = false := (show e.platform.stackTraces = l.stackTraces by rw [X.admits.platform]).trans hl
  have Y := vx_rebase X (R' := { frames := R.frames, locals := R.locals, cells := 1, slots := 6 }) (Nat.le_refl _) (Nat.le_refl _) hRcells hRslots
  obtain ⟨s', hA⟩ : ∃ z, z = (T.setVm s.vm).setFrames (.invoking m args :: below) := ⟨_, rfl⟩
  rw [← hA] at Y
  have hvm : s'.vm = s.vm := by rw [hA]; rfl
  have hhp : s'.heap = H := by rw [hA]; exact hT
  have hW0 : s.WarmedH s'.vm := by rw [hvm]; exact State.WarmedH.refl s
  have hat' : ∀ w ∈ vx_atS own ic cls names, w.before args s' = true := fun w hw => vx_ot_at hW0 hvm.symm (hgood w (List.mem_cons_of_mem _ (List.mem_cons_of_mem _ hw))) (hat w hw)
  have hk' : (Cond.classLink own ik cls).before args s' = true := vx_ot_at hW0 hvm.symm (hgood _ List.mem_cons_self) hk
  have hini' : (Cond.initialized cls).before args s' = true := vx_ot_at hW0 hvm.symm (hgood _ (List.mem_cons_of_mem _ List.mem_cons_self)) hini
  have hU' : vx_Zq Bundle.tN "UNASSIGNED_STACK" Bundle.steD A s' s'.heap := by rw [hhp]; exact vx_Zq.moved hW0.alike (hU.kept hS.2.1)
  have hN' : vx_Zq Bundle.tN "SUPPRESSED_SENTINEL" Bundle.listD A s' s'.heap := by rw [hhp]; exact vx_Zq.moved hW0.alike (hN.kept hS.2.1)
  have h : ∀ w ∈ Bundle.ownAtoms own ic cls names, w.before args s' = true := vx_own hat' (vx_isRefq hU'.1) (vx_isRefq hN'.1) hU'.2.word hN'.2.word
  have hown' : s'.vm.findClass own = some m.cls := by rw [hvm]; exact hown
  have hins : (Cond.instantiable cls 6).before args s' = true := h _ (by simp [Bundle.ownAtoms])
  obtain ⟨vm₁, cX, kX, hfX, hkX, -, -, X₁, st1⟩ := Y.newCold hexec (own := own) (C := cls) (index := ik) (n := 6) hown' hk' hins hini'
    (g := F0 m pc ls rest) rfl (by rw [hb]; exact d0) (Nat.le_refl _) (Nat.le_refl _)
  generalize hT1 : (T.setVm vm₁).pushCell { cls := cX, slots := kX.instanceTypes.map defaultValue, vm := .none } = T1 at X₁ st1
  have hcat : (Value.ref T.heap.size).category = 1 := rfl
  have hcellA : T1.heap[T.heap.size]? = some (freshCell cX kX) := by rw [← hT1]; exact State.heap_pushCell_size _ _
  have d3' : decode c.code (pc + 3) = .ok (.dup, 1) := by rw [hb]; exact d3
  have d4' : decode c.code (pc + 4) = .ok (.ldc_w is, 3) := by rw [hb]; exact d4
  have hstr' : vk_R own is text sa s' := vk_R.warm hW0 hstr
  obtain ⟨U, hsteps, hrun, hend, hW, hsame, ce, hce, hO⟩ := X₁.ctorThrowS hexec htr (own := own) (cls := cls) (names := names) (ic := ic) hown' hcls hnames h (fun x hx => nomatch hx) hfX hkX hcellA (by rw [hhp, hT]; exact Nat.le_refl _) (msg := .ref sa) rfl
    (g := { method := m, pc := pc + 7, locals := ls, stack := .ref sa :: .ref T.heap.size :: .ref T.heap.size :: rest, locked := none }) rfl hsize rfl rfl (rest := rest) rfl
    (by rw [hb]; exact d7) (by rw [hb]; exact d10) hout hRframes (by simp only [List.map_cons, List.sum_cons, hcat]; omega) hlocks
  obtain ⟨f1, f2⟩ := vx_frame hsame
  rw [hhp] at f1 f2
  have hWs : s.WarmedH U.vm := State.WarmedH.trans hW0 hW
  have hcl : s.vm.findClass cls = some ce.cls := by
    have h9 := hO.cls
    rw [hvm] at h9
    exact h9
  have hall : s.sameButNew ({ U with vm := s.vm } : State) locs mc ms := by
    subst hA
    obtain ⟨e1, e2⟩ := hsame
    rw [State.setFrames_setFrames] at e1
    have h2 : (T.setVm s.vm).sameButNew ({ U with vm := s.vm } : State) [] (0 + 1) (0 + 6) := ⟨e1, e2⟩
    have h3 := X.same.trans h2
    rw [List.append_nil] at h3
    exact h3.mono hc hs
  refine ⟨U, ?_, .threw T.heap.size, hrun, hend, Or.inr ⟨T.heap.size, rfl, cls, ce, locs, hx U hWs.alike f1 (fun q hq => f2 q hq (fun z hz => nomatch hz)), hce, hO.vm, hcl, hWs, hall, hf⟩⟩
  refine st1 _ ?_
  show Steps p.tables e below (T1.setTop { method := m, pc := pc + 3, locals := ls, stack := .ref T.heap.size :: rest, locked := none }) _
  jvm_step X₁.here [X₁.here.top, hexec, d3', Value.category]
  exact X₁.ldcStringW hexec (own := own) (text := text) (index := is) (a := sa) hown' hstr'.1 hstr'.2
    (g := { method := m, pc := pc + 4, locals := ls, stack := .ref T.heap.size :: .ref T.heap.size :: rest, locked := none }) rfl d4' _ hsteps
end Ends
section Bodies
variable {l : Launch}
theorem vx_ofW {y : MethodName} {ws ws' : List Cond} {rm : Room} {Pc : Array Value → State → Prop} {Qc : Array Value → State → Outcome → State → Prop} {XC : String → State → State → Prop} {mc ms : Nat} {free : Addr → Prop} {cc : ByteArray} {maxL : Nat} {ret : Option FieldType}
    (hy : plainName y.cls = true) (hw : ws = Cond.code y cc maxL ret :: ws')
    (body : ∀ p e s m args below meth c s₁, BodyLoose p l y (headSpec ws rm) cc maxL ret e s m args below meth c s₁ → c.maxLocals = maxL → (∀ x ∈ c.exceptionTable.toList, False) → Pc args s →
      W p l e (headSpec ws rm).room s m args below meth c s.heap [] 0 0 (vx_MQ below Qc XC args s mc ms free) (entryFrame m args maxL)) : vx_Met l y ws rm Pc Qc XC mc ms free := by
  refine MetFree.of_bodyS (code := cc) (maxLocals := maxL) (ret := ret) hy ?_ ?_
  · intro args s m h hn
    obtain ⟨meth, c, h1, h2, h3, h4, h5, h6, -, -⟩ := Cond.code_spec hn (atoms_spec (ws := ws) h _ (by rw [hw]; exact List.mem_cons_self))
    exact ⟨meth, c, h1, h2, h3, h4, h5, h6⟩
  · intro p e s m args below meth c s₁ B hml hP _
    have hh0 : s₁.heap = s.heap := by rw [B.state]; rfl
    have ht : ∀ x ∈ c.exceptionTable.toList, False := by
      obtain ⟨meth9, c9, h1, h2, -, -, -, -, h7, -⟩ := Cond.code_spec B.named (atoms_spec (ws := ws) B.pre _ (by rw [hw]; exact List.mem_cons_self))
      cases Option.some.inj (h1.symm.trans B.method)
      cases Option.some.inj (h2.symm.trans (Stand.of_body B).code)
      intro x hx
      rw [Array.isEmpty_iff.mp h7] at hx
      cases hx
    obtain ⟨t, a1, o, b1, b2, b3⟩ := body p e s m args below meth c s₁ B hml ht hP s₁ hh0 (Stand.of_body B)
    exact ⟨t, o, a1, b1, b2, b3⟩
/-- the table of a body with handlers -/
theorem vx_table {p : Program} {x y : MethodName} {S : Spec} {cc bytes : ByteArray} {maxL maxL' : Nat} {ret ret' : Option FieldType} {e : Env} {s s₁ : State} {m : MethodId} {args : Array Value} {below : List Frame} {meth : Method} {c : Code} {hh : List (Nat × Nat × Nat × Nat)}
    (B : BodyLoose p l y S cc maxL ret e s m args below meth c s₁) (h : (Cond.codeWith y bytes maxL' ret' hh).before args s = true) : c.exceptionTable.toList = tableOf hh := by
  obtain ⟨m9, meth9, c9, hn9, h1, h2, -, -, h6, -⟩ := Cond.codeWith_spec h
  cases Option.some.inj (hn9.symm.trans B.named)
  cases Option.some.inj (h1.symm.trans B.method)
  cases Option.some.inj (h2.symm.trans (Stand.of_body B).code)
  rw [← h6, table_eq]
end Bodies
end VXA
/-! ===== END ===== -/
/-! ===== BEGIN a static call of a method with an exception table ===== -/
section VXS
variable {p : Program} {l : Launch} {e : Env} {R : Room} {s : State} {m : MethodId} {args : Array Value} {below : List Frame} {meth : Method} {c : Code} {T : State} {H : Heap} {locs : List Loc} {cells slots : Nat}
abbrev vx_CSW (R : Room) (s : State) (args : Array Value) (own : String) (index : Nat) (y : MethodName) (bytes : ByteArray) (maxL : Nat) (ret : Option FieldType) (hh : List (Nat × Nat × Nat × Nat)) (ws : List Cond) (rm : Room) (mc ms n : Nat) : Prop :=
  (rm.cells = mc ∧ rm.slots = ms ∧ rm.frames + 1 ≤ R.frames ∧ 8 + (maxL + 11) + rm.locals ≤ R.locals ∧ (∀ w ∈ ws, ∀ (a' : Array Value) (U : State), s.WarmedH U.vm → w.before a' U = true) ∧ Cond.codeWith y bytes maxL ret hh ∈ ws) ∧
  (Cond.codeWith y bytes maxL ret hh).before args s = true ∧ (Cond.initialized y.cls).before args s = true ∧ (y.cls ≠ "java/lang/invoke/MethodHandle" ∧ y.cls ≠ "java/lang/invoke/VarHandle") ∧
  (∀ sig, parseMethodDescriptor y.desc = some sig → n = sig.parameters.length) ∧ (Cond.methodLink own index y).before args s = true ∧ (Cond.static y).before args s = true
theorem vx_cwSW {own : String} {index maxL mc ms : Nat} {y : MethodName} {bytes : ByteArray} {ret : Option FieldType} {hh : List (Nat × Nat × Nat × Nat)} {Ts ws ws' : List Cond} {rm : Room} (n : Nat) (ht : ∀ w ∈ Ts, w.before args s = true) (hT : GoodIn Ts (va_wsS own index y ws)) (hw : ws = Cond.codeWith y bytes maxL ret hh :: ws') (hrc : rm.cells = mc) (hrs : rm.slots = ms)
    (hd : y.cls ≠ "java/lang/invoke/MethodHandle" ∧ y.cls ≠ "java/lang/invoke/VarHandle" ∧ (parseMethodDescriptor y.desc).map (fun d => d.parameters.length) = some n) (hR : rm.frames + 1 ≤ R.frames ∧ 8 + (maxL + 11) + rm.locals ≤ R.locals) :
    vx_CSW R s args own index y bytes maxL ret hh ws rm mc ms n := by
  have ok : ∀ w ∈ va_wsS own index y ws, w.before args s = true := fun w h => ht w (hT w h).1
  have hG : GoodIn Ts ws := fun w h => hT w (by unfold va_wsS; exact List.mem_append_right _ h)
  have hc : Cond.codeWith y bytes maxL ret hh ∈ ws := by rw [hw]; exact List.mem_cons_self
  refine ⟨⟨hrc, hrs, hR.1, hR.2, pay_in ht hG, hc⟩, ht _ (hG _ hc).1, ok _ (by simp [va_wsS]), ⟨hd.1, hd.2.1⟩, fun sig h => ?_, ok _ (by simp [va_wsS]), ok _ (by simp [va_wsS])⟩
  have h2 := hd.2.2
  rw [h] at h2
  exact (Option.some.inj h2).symm
theorem vx_callSW (X : Stand p l e R s m args below meth c T locs cells slots) (hexec : p.tables.exec = Jvm.exec) {own : String} {index : Nat} {y : MethodName} {bytes : ByteArray} {maxL : Nat} {ret : Option FieldType} {hh : List (Nat × Nat × Nat × Nat)}
    (hown : s.vm.findClass own = some m.cls) (hlink : (Cond.methodLink own index y).before args s = true) (hstat : (Cond.static y).before args s = true) (hinit : (Cond.initialized y.cls).before args s = true)
    (hcode : (Cond.codeWith y bytes maxL ret hh).before args s = true) (hy : y.cls ≠ "java/lang/invoke/MethodHandle" ∧ y.cls ≠ "java/lang/invoke/VarHandle")
    {W9 : Nat} {Pre : Pt → Array Value → Prop} {Post : Pt → Array Value → Option Value → Pt → Prop} (hK : Back l R p e below s args y 3 W9 Pre Post)
    {g : JFrame} (hg : g.method = m) (hsize : g.locals.size = c.maxLocals) {argsL rest : List Value} (hlen : ∀ sig, parseMethodDescriptor y.desc = some sig → argsL.length = sig.parameters.length)
    (hstack : g.stack = argsL.reverse ++ rest) (hW : 2 * g.monitorRoom + (rest.map fun v => v.category).sum ≤ W9) (hdg : decode c.code g.pc = .ok (.invokestatic index, 3))
    (hpre : ∀ vm₁, s.WarmedH vm₁ → Pre ⟨T.setVm vm₁, locs, cells, slots⟩ argsL.toArray) :
    ∃ (v : Option Value) (vm₁ : Vm) (B : Pt), s.WarmedH vm₁ ∧ Stand p l e R s m args below meth c B.U B.locs B.cells B.slots ∧ Post ⟨T.setVm vm₁, locs, cells, slots⟩ argsL.toArray v B ∧
      ∀ target, Steps p.tables e below (B.U.setTop { g with pc := g.pc + 3, stack := v.toList ++ rest }) target → Steps p.tables e below (T.setTop g) target := by
  obtain ⟨mk, methM, cM, hnamed, hmethM, -, -, -, -, -, -, hsigM⟩ := Cond.codeWith_spec hcode
  have hstatic : methM.isStatic = true := Cond.static_spec hnamed hmethM hstat
  obtain ⟨kP, hkP, -⟩ := className_of_methodNamed hnamed
  have hinitP : kP.init = .initialized := Cond.initialized_spec (findClass_of_methodNamed hnamed) hkP hinit
  obtain ⟨vm₁, X₁, hstep₁⟩ := X.invokestatic hexec hown hlink hnamed hmethM hstatic hkP hinitP hy (g := g) hg (argsL := argsL) (rest := rest) (hlen _ hsigM) hstack hdg
  obtain ⟨v, B, X', hpost, hsteps⟩ := hK m meth c ⟨T.setVm vm₁, locs, cells, slots⟩ { g with stack := rest } (.invokestatic index) mk argsL.toArray X₁ hg hsize hdg hW (X₁.named hnamed) (hpre vm₁ X₁.warmed)
  exact ⟨v, vm₁, B, X₁.warmed, X', hpost, fun target h => hstep₁ _ fun acts => by rw [doInvoke_state]; exact hsteps.trans h⟩
theorem vx_runSW {y : MethodName} {bytes cc : ByteArray} {maxL nL mc ms n index : Nat} {ret : Option FieldType} {hh : List (Nat × Nat × Nat × Nat)} {ws : List Cond} {rm : Room} {Pc : Array Value → State → Prop} {Qc : Array Value → State → Outcome → State → Prop} {free : Addr → Prop} {Ts : List Cond} {own : String} {As rest : List Value} {g : JFrame}
    (S : CallFix p m c cc nL s args Ts own) (hM : Met l y ws rm Pc Qc mc ms free) (cw : vx_CSW R s args own index y bytes maxL ret hh ws rm mc ms n) (hp : PreS s H Pc As)
    (hg : g.method = m) (hn : As.length = n) (hsize : g.locals.size = nL) (hstack : g.stack = As.reverse ++ rest) (hW : 2 * g.monitorRoom + (rest.map fun v => v.category).sum ≤ 8) (hdg : decode cc g.pc = .ok (.invokestatic index, 3)) (hf : cells + mc ≤ R.cells ∧ slots + ms ≤ R.slots) :
    va_Run p l e R s m args below meth c H locs cells slots mc ms g rest (Qc As.toArray) (free) := by
  obtain ⟨⟨hrc, hrs, hfr, hlo, hws, hcw⟩, hcode, hini, hy, hlen, hl, hstt⟩ := cw
  have hK : Back l R p e below s args y 3 8 (PreOf R mc ms Pc) (PostOf Qc mc ms free) := va_backW (hh := hh) (bytes := bytes) (maxL := maxL) (ret := ret) hM hp.1 hrc hrs hfr hlo hws hcw (fun a' U hW => word_at hW (Or.inl (by first | rfl | simp [Cond.onTables, Cond.keeps, Cond.steady])) hini)
  obtain ⟨hx, hb, hml, ho, -⟩ := S
  intro T hT X
  obtain ⟨v, vm₁, ⟨U', l2, c2, s2⟩, hW₁, X', ⟨g', mk, t, L, e1, e2, hq, h1, hL, h2, h3⟩, st⟩ := vx_callSW X hx (hh := hh) (bytes := bytes) (maxL := maxL) (ret := ret) ho hl hstt hini hcode hy hK hg (hsize.trans hml.symm) (argsL := As) (rest := rest) (fun sig h => hn.trans (hlen sig h)) hstack hW (by rw [hb]; exact hdg)
    (fun vm₁ hW₁ => ⟨hf.1, hf.2, hp.2 (T.setVm vm₁) hT hW₁⟩)
  dsimp only [Pt.U, Pt.locs, Pt.cells, Pt.slots] at X' e1 e2 h1 h2 h3 st
  subst h1; subst h2; subst h3
  exact ⟨v, (T.setVm vm₁).calling g' mk As.toArray, t, U', L, hT, X', hL, e1, e2, hq, st⟩
/-- not caught here, past rows that name other classes: it goes on to the caller -/
theorem vx_outP {p : Program} {l : Launch} {e : Env} {R : Room} {s : State} {m : MethodId} {args : Array Value} {below : List Frame} {meth : Method} {c : Code} {H : Heap} {locs : List Loc} {cells slots : Nat} {free : Addr → Prop} {ls : Array Slot} {rest : List Value} {Qc : Array Value → State → Outcome → State → Prop} {XC : String → State → State → Prop}
    {pc : Nat} {own E : String} {ce : Cell} {q : Addr} {mc ms : Nat} (hown : s.vm.findClass own = some m.cls) (hlocks : meth.locks = false)
    (hpass : ∀ z ∈ c.exceptionTable.toList, covers z pc = false ∨ (z.catchType ≠ 0 ∧ ∃ nm : String, (Cond.classLink own z.catchType nm).before args s = true ∧ va_Nc E nm s)) (hcell : H[q]? = some ce) (hv : ce.vm = .none) (hcl : s.vm.findClass E = some ce.cls)
    (hx : ∀ t : State, t.heap = H → s.vm.Alike t.vm → XC E s t) (hf : ∀ z ∈ locs, free z.base) (hc : cells ≤ mc) (hs : slots ≤ ms) :
    vx_W p l e R s m args below meth c H locs cells slots (vx_MQ below Qc XC args s mc ms free) (F0 m pc ls rest) q := by
  intro T hT X
  have hpl : e.platform.magicAccessors = ({} : Platform).magicAccessors := by rw [X.admits.platform]
  obtain ⟨vm', hW', X', st⟩ := X.outThrough hlocks q (g := F0 m pc ls rest) rfl rfl rfl (cell := ce) (by rw [hT]; exact hcell) (by rw [hv]; rfl)
    (by obtain ⟨k9, h9, -⟩ := Vm.findClass_spec hcl; exact ⟨k9, h9⟩) (fun z hz => by
      rcases hpass z hz with h | ⟨hz0, nm, hl1, hn1⟩
      · exact Or.inl h
      · obtain ⟨c6, hc6, hcl6⟩ := Cond.classLink_spec hown hl1 e.platform hpl
        obtain ⟨a8, b8, h1, h2, h3⟩ := hn1
        cases Option.some.inj (h1.symm.trans hcl)
        cases Option.some.inj (h2.symm.trans hc6)
        exact Or.inr ⟨hz0, _, hcl6, h3⟩)
  obtain ⟨g₀, hfr⟩ := X'.frames_eq
  have hcell9 : ((T.setVm vm').setFrames (.throwing q :: below)).heap[q]? = some ce := by
    show T.heap[q]? = some ce
    rw [hT]; exact hcell
  have hend : Ended ((T.setVm vm').setFrames (.throwing q :: below)) below (.threw q) := State.frames_setFrames _ (State.cur_lt_of_frames hfr)
  refine ⟨(T.setVm vm').setFrames (.throwing q :: below), ?_, .threw q, X'.here.running, hend, Or.inr ⟨q, rfl, E, ce, locs, hx _ hT (X'.ends _).1.alike, hcell9, hv, hcl, (X'.ends _).1, (X'.ends _).2.mono hc hs, hf⟩⟩
  rw [X.pushThrowing_eq]
  exact st
/-- a thing of a world lies in the heap -/
theorem vx_lt {D : va_G} {cl : List vw_C} {ws : va_W} {H1 : Heap} (h : va_P D cl ws H1) {k : Nat} {q : Nat × va_E} (hk : ws[k]? = some q) : q.1 < H1.size := (h k q hk).lt
end VXS
/-! ===== END ===== -/
/-! ===== BEGIN methods with a table of their own: called by a name, returning or throwing ===== -/
section VXH
/-! vx_backW, vx_callVX, vx_callSX, vx_callVW, vx_runVW, vx_runVX, vx_runSX, vx_ofWH follow the same proofs as their sisters above (Free/Laws.lean, Shelf42/LK1.lean); vx_outP calls Shelf42/NT130.lean (outThrough). -/
section
variable {l : Launch} {R : Room} {p : Program} {e : Env} {below : List Frame} {s : State} {sargs : Array Value} {y : MethodName} {len W9 : Nat}
theorem vx_backW {ws : List Cond} {rm : Room} {Pc : Array Value → State → Prop} {Qc : Array Value → State → Outcome → State → Prop} {XC : String → State → State → Prop} {mc ms : Nat} {free : Addr → Prop} {bytes : ByteArray} {maxL : Nat} {ret : Option FieldType} {hh : List (Nat × Nat × Nat × Nat)}
    (hM : vx_Met l y ws rm Pc Qc XC mc ms free) (hblind : FrameBlind Pc) (hrc : rm.cells = mc) (hrs : rm.slots = ms)
    (hframes : rm.frames + 1 ≤ R.frames) (hlocals : W9 + (maxL + 11) + rm.locals ≤ R.locals)
    (hws : ∀ w ∈ ws, ∀ a' U, s.WarmedH U.vm → w.before a' U = true) (hcode : Cond.codeWith y bytes maxL ret hh ∈ ws) (hinit : ∀ a' U, s.WarmedH U.vm → (Cond.initialized y.cls).before a' U = true) :
    vx_Back l R p e below s sargs y len W9 (PreOf R mc ms Pc) (PostOf Qc mc ms free) (vx_Post XC mc ms free) := by
  intro m meth c A g ig mk a X hg hsize hdg hW hn hp
  have h1 : (headSpec ws rm).pre.before a A.U = true := atoms_intro fun w hw => hws w hw _ _ X.warmed
  have h2 : (Cond.codeWith y bytes maxL ret hh).before a A.U = true := hws _ hcode _ _ X.warmed
  have h3 : (Cond.initialized y.cls).before a A.U = true := hinit _ _ X.warmed
  have h4 : A.cells + (headSpec ws rm).room.cells ≤ R.cells := by rw [show (headSpec ws rm).room.cells = mc from hrc]; exact hp.1
  have h5 : A.slots + (headSpec ws rm).room.slots ≤ R.slots := by rw [show (headSpec ws rm).room.slots = ms from hrs]; exact hp.2.1
  have hPc : Pc a (A.U.calling g mk a) := hblind _ _ _ _ hp.2.2
  obtain ⟨U, Ls, c0, s0⟩ := A
  dsimp only [Pt.U, Pt.locs, Pt.cells, Pt.slots] at h1 h2 h3 h4 h5 X hn hPc ⊢
  obtain ⟨m9, methY, cY, hn9, hmY, hcY, -, hlY, -⟩ := Cond.codeWith_spec h2
  cases Option.some.inj (hn9.symm.trans hn)
  obtain ⟨kY, hkY, -⟩ := className_of_methodNamed hn
  have hinitY : kY.init = .initialized := Cond.initialized_spec (findClass_of_methodNamed hn) hkY h3
  have h : At U g.method c below := by rw [hg]; exact X.here
  have hlocals9 : W9 + (maxL + 11) + (headSpec ws rm).room.locals ≤ R.locals := hlocals
  have happ : (headSpec ws rm).appliesLoose y e.platform (U.calling g mk a) = true :=
    Spec.appliesLoose_calling (g := g) h hdg hn hkY hinitY
      (X.room_calling (g := g) (R' := (headSpec ws rm).room) hsize hmY hcY hframes (by rw [hlY]; omega) h4 h5) h1
  obtain ⟨mid, hmid⟩ := h.above
  have hfr : (U.setTop g).frames = (.java g :: mid) ++ below := by rw [State.frames_setTop' g h.top, hmid]; rfl
  obtain ⟨o, s₂, hsteps, -, hend, hq⟩ := Steps.callFree hM p X.admits X.cas X.clock (acts := []) hfr happ hPc trivial
  have hq' : vx_Q Qc XC mc ms free a (U.calling g mk a) o s₂ := hq
  rw [State.frames_setTop' g h.top] at hend
  obtain ⟨g₀, hg0⟩ := Option.isSome_iff_exists.mp h.top
  obtain ⟨r, hr⟩ := State.topJava?_eq_some.mp hg0
  have hr' : (({ U with heap := s₂.heap, slotsUsed := s₂.slotsUsed } : State).setVm s₂.vm).frames = .java g₀ :: r := hr
  rcases hq' with ⟨hqc, L, hfe, hL⟩ | ⟨q, rfl, E, ce, L, hx, hce, hcv, hcl, hW₂, hsm, hL⟩
  · obtain ⟨⟨v, rfl⟩, hW₂, e2, q2, q3, q4, q5, q6⟩ := id hfe
    have e3 : s₂ = ({ (U.calling g mk a).setFrames s₂.frames with heap := s₂.heap, slotsUsed := s₂.slotsUsed } : State).setVm s₂.vm := by
      have : s₂ = ({ s₂ with vm := (U.calling g mk a).vm } : State).setVm s₂.vm := rfl
      rw [e2] at this
      exact this
    obtain ⟨c₂, i₂, len₂, hc₂, hd₂, hf₂⟩ := hend
    have hW' : U.WarmedH s₂.vm := hW₂
    have hcc : c₂ = c := by
      have h1 : s₂.code? g.method = U.code? g.method := by
        rw [State.code?_eq, State.code?_eq, hW'.alike.method?]
      exact Option.some.inj (hc₂.symm.trans (h1.trans h.code))
    subst hcc
    have hlen : len₂ = len := by rw [hdg] at hd₂; cases hd₂; rfl
    subst hlen
    have hs₂ : s₂ = (({ U with heap := s₂.heap, slotsUsed := s₂.slotsUsed } : State).setVm s₂.vm).setTop { g with pc := g.pc + len₂, stack := v.toList ++ g.stack } := by
      refine e3.trans ?_
      rw [hf₂, State.calling_eq h.top, State.setFrames_setFrames, State.setTop_of_frames _ hr', hr]
      rfl
    have hsame : U.sameButNew ({ U with heap := s₂.heap, slotsUsed := s₂.slotsUsed } : State) L mc ms := by
      refine ⟨?_, q2, q3, q4, q5, q6⟩
      obtain ⟨t, ht, -⟩ := State.frames_cons hr
      show ({ U with heap := s₂.heap, slotsUsed := s₂.slotsUsed } : State) = { U.setFrames U.frames with heap := s₂.heap, slotsUsed := s₂.slotsUsed }
      rw [State.setFrames_self ht]
    subst hg
    refine Or.inl ⟨v, ⟨(({ U with heap := s₂.heap, slotsUsed := s₂.slotsUsed } : State).setVm s₂.vm), Ls ++ L, c0 + mc, s0 + ms⟩,
      ⟨X.admits, X.cas, X.clock, X.frames, X.room, X.hears, X.method, X.code, (X.here.setHeapUsed s₂.heap s₂.slotsUsed).setVm hW'.alike, X.tail, State.WarmedH.trans X.warmed hW', X.limits, X.bytes, X.same.trans (hsame.setVm s.vm)⟩,
      ⟨g, mk, s₂, L, rfl, rfl, hqc, rfl, hL, rfl, rfl⟩, ?_⟩
    show Steps p.tables e below _ ((({ U with heap := s₂.heap, slotsUsed := s₂.slotsUsed } : State).setVm s₂.vm).setTop { g with pc := g.pc + len₂, stack := v.toList ++ g.stack })
    rw [← hs₂]
    exact hsteps
  · obtain ⟨e2, q2, q3, q4, q5, q6⟩ := id hsm
    have e3 : s₂ = ({ (U.calling g mk a).setFrames s₂.frames with heap := s₂.heap, slotsUsed := s₂.slotsUsed } : State).setVm s₂.vm := by
      have : s₂ = ({ s₂ with vm := (U.calling g mk a).vm } : State).setVm s₂.vm := rfl
      rw [e2] at this
      exact this
    have hf₂ : s₂.frames = .throwing q :: .java g :: U.frames.tail := hend
    have hW' : U.WarmedH s₂.vm := hW₂
    have hs₂ : s₂ = ((({ U with heap := s₂.heap, slotsUsed := s₂.slotsUsed } : State).setVm s₂.vm).setTop g).pushFrame (.throwing q) := by
      refine e3.trans ?_
      rw [hf₂, State.calling_eq h.top, State.setFrames_setFrames, State.pushFrame, State.frames_setTop _ hr', State.setTop_of_frames _ hr', State.setFrames_setFrames, hr]
      rfl
    have hsame : U.sameButNew ({ U with heap := s₂.heap, slotsUsed := s₂.slotsUsed } : State) L mc ms := by
      refine ⟨?_, q2, q3, q4, q5, q6⟩
      obtain ⟨t, ht, -⟩ := State.frames_cons hr
      show ({ U with heap := s₂.heap, slotsUsed := s₂.slotsUsed } : State) = { U.setFrames U.frames with heap := s₂.heap, slotsUsed := s₂.slotsUsed }
      rw [State.setFrames_self ht]
    subst hg
    refine Or.inr ⟨q, ⟨(({ U with heap := s₂.heap, slotsUsed := s₂.slotsUsed } : State).setVm s₂.vm), Ls ++ L, c0 + mc, s0 + ms⟩,
      ⟨X.admits, X.cas, X.clock, X.frames, X.room, X.hears, X.method, X.code, (X.here.setHeapUsed s₂.heap s₂.slotsUsed).setVm hW'.alike, X.tail, State.WarmedH.trans X.warmed hW', X.limits, X.bytes, X.same.trans (hsame.setVm s.vm)⟩,
      ⟨g, mk, s₂, L, E, ce, rfl, rfl, hx, hce, hcv, hcl, rfl, hL, rfl, rfl⟩, ?_⟩
    show Steps p.tables e below _ (((({ U with heap := s₂.heap, slotsUsed := s₂.slotsUsed } : State).setVm s₂.vm).setTop g).pushFrame (.throwing q))
    rw [← hs₂]
    exact hsteps
end
variable {p : Program} {l : Launch} {e : Env} {R : Room} {s : State} {m : MethodId} {args : Array Value} {below : List Frame} {meth : Method} {c : Code} {T : State} {H : Heap} {locs : List Loc} {cells slots : Nat}
theorem vx_callVX (X : Stand p l e R s m args below meth c T locs cells slots) (hexec : p.tables.exec = Jvm.exec) {own C : String} {index : Nat} {y : MethodName} {bytes : ByteArray} {maxL : Nat} {ret : Option FieldType} {hh : List (Nat × Nat × Nat × Nat)}
    (hown : s.vm.findClass own = some m.cls) (hlink : (Cond.methodLink own index y).before args s = true) (hinst : (Cond.instanceMethod y).before args s = true) (hsel : (Cond.selects C y y).before args s = true)
    (hcode : (Cond.codeWith y bytes maxL ret hh).before args s = true) (hy : y.cls ≠ "java/lang/invoke/MethodHandle" ∧ y.cls ≠ "java/lang/invoke/VarHandle")
    {W9 : Nat} {Pre : Pt → Array Value → Prop} {Post : Pt → Array Value → Option Value → Pt → Prop} {PostX : Pt → Array Value → Addr → Pt → Prop} (hK : vx_Back l R p e below s args y 3 W9 Pre Post PostX)
    {b : Addr} {cellB : Cell} (hcell : T.heap[b]? = some cellB) (hobj : cellB.vm.isStatics = false) (hcls : s.vm.findClass C = some cellB.cls)
    {g : JFrame} (hg : g.method = m) (hsize : g.locals.size = c.maxLocals) {argsL rest : List Value} (hlen : ∀ sig, parseMethodDescriptor y.desc = some sig → argsL.length = sig.parameters.length)
    (hstack : g.stack = argsL.reverse ++ .ref b :: rest) (hW : 2 * g.monitorRoom + (rest.map fun v => v.category).sum ≤ W9) (hdg : decode c.code g.pc = .ok (.invokevirtual index, 3))
    (hpre : ∀ vm₁, s.WarmedH vm₁ → Pre ⟨T.setVm vm₁, locs, cells, slots⟩ (Value.ref b :: argsL).toArray) :
    (∃ (v : Option Value) (vm₁ : Vm) (B : Pt), s.WarmedH vm₁ ∧ Stand p l e R s m args below meth c B.U B.locs B.cells B.slots ∧ Post ⟨T.setVm vm₁, locs, cells, slots⟩ (Value.ref b :: argsL).toArray v B ∧
      ∀ target, Steps p.tables e below (B.U.setTop { g with pc := g.pc + 3, stack := v.toList ++ rest }) target → Steps p.tables e below (T.setTop g) target) ∨
    (∃ (q : Addr) (vm₁ : Vm) (B : Pt), s.WarmedH vm₁ ∧ Stand p l e R s m args below meth c B.U B.locs B.cells B.slots ∧ PostX ⟨T.setVm vm₁, locs, cells, slots⟩ (Value.ref b :: argsL).toArray q B ∧
      Steps p.tables e below (T.setTop g) ((B.U.setTop { g with stack := rest }).pushFrame (.throwing q))) := by
  obtain ⟨mk, methM, hnamed, hmethM, hstM, habM⟩ := Cond.instanceMethod_spec hinst
  obtain ⟨m8, methM', cM, hn8, hmethM', -, -, -, -, -, -, hsigM⟩ := Cond.codeWith_spec hcode
  cases Option.some.inj (hn8.symm.trans hnamed)
  cases hmethM.symm.trans hmethM'
  obtain ⟨c2, r2, m2, q1, q2, q3, q4, kP, hkP, hkPi⟩ := Cond.selects_spec hsel
  cases hcls.symm.trans q1
  cases (State.methodFound?_of_named hnamed hy).symm.trans q2
  cases hnamed.symm.trans q3
  have hselP : selectMethod e.platform s.vm cellB.cls mk = .method mk := by rw [Launch.admits_selectMethod X.admits]; exact q4
  obtain ⟨vm₁, X₁, hstep₁⟩ := X.invokevirtual hexec hown hlink hnamed hmethM hstM hkP hkPi hy (a := b) (cell := cellB) hcell
    (fun z h => by rw [h] at hobj; cases hobj) hselP hmethM habM hkP hkPi (g := g) hg (argsL := argsL) (rest := rest) (hlen _ hsigM) hstack hdg
  rcases hK m meth c ⟨T.setVm vm₁, locs, cells, slots⟩ { g with stack := rest } (.invokevirtual index) mk (Value.ref b :: argsL).toArray X₁ hg hsize hdg hW (X₁.named hnamed) (hpre vm₁ X₁.warmed) with ⟨v, B, X', hpost, hsteps⟩ | ⟨q, B, X', hpost, hsteps⟩
  · exact Or.inl ⟨v, vm₁, B, X₁.warmed, X', hpost, fun target h => hstep₁ _ fun acts => by rw [doInvoke_state]; exact hsteps.trans h⟩
  · exact Or.inr ⟨q, vm₁, B, X₁.warmed, X', hpost, hstep₁ _ fun acts => by rw [doInvoke_state]; exact hsteps⟩
theorem vx_callSX (X : Stand p l e R s m args below meth c T locs cells slots) (hexec : p.tables.exec = Jvm.exec) {own : String} {index : Nat} {y : MethodName} {bytes : ByteArray} {maxL : Nat} {ret : Option FieldType} {hh : List (Nat × Nat × Nat × Nat)}
    (hown : s.vm.findClass own = some m.cls) (hlink : (Cond.methodLink own index y).before args s = true) (hstat : (Cond.static y).before args s = true) (hinit : (Cond.initialized y.cls).before args s = true)
    (hcode : (Cond.codeWith y bytes maxL ret hh).before args s = true) (hy : y.cls ≠ "java/lang/invoke/MethodHandle" ∧ y.cls ≠ "java/lang/invoke/VarHandle")
    {W9 : Nat} {Pre : Pt → Array Value → Prop} {Post : Pt → Array Value → Option Value → Pt → Prop} {PostX : Pt → Array Value → Addr → Pt → Prop} (hK : vx_Back l R p e below s args y 3 W9 Pre Post PostX)
    {g : JFrame} (hg : g.method = m) (hsize : g.locals.size = c.maxLocals) {argsL rest : List Value} (hlen : ∀ sig, parseMethodDescriptor y.desc = some sig → argsL.length = sig.parameters.length)
    (hstack : g.stack = argsL.reverse ++ rest) (hW : 2 * g.monitorRoom + (rest.map fun v => v.category).sum ≤ W9) (hdg : decode c.code g.pc = .ok (.invokestatic index, 3))
    (hpre : ∀ vm₁, s.WarmedH vm₁ → Pre ⟨T.setVm vm₁, locs, cells, slots⟩ argsL.toArray) :
    (∃ (v : Option Value) (vm₁ : Vm) (B : Pt), s.WarmedH vm₁ ∧ Stand p l e R s m args below meth c B.U B.locs B.cells B.slots ∧ Post ⟨T.setVm vm₁, locs, cells, slots⟩ argsL.toArray v B ∧
      ∀ target, Steps p.tables e below (B.U.setTop { g with pc := g.pc + 3, stack := v.toList ++ rest }) target → Steps p.tables e below (T.setTop g) target) ∨
    (∃ (q : Addr) (vm₁ : Vm) (B : Pt), s.WarmedH vm₁ ∧ Stand p l e R s m args below meth c B.U B.locs B.cells B.slots ∧ PostX ⟨T.setVm vm₁, locs, cells, slots⟩ argsL.toArray q B ∧
      Steps p.tables e below (T.setTop g) ((B.U.setTop { g with stack := rest }).pushFrame (.throwing q))) := by
  obtain ⟨mk, methM, cM, hnamed, hmethM, -, -, -, -, -, -, hsigM⟩ := Cond.codeWith_spec hcode
  have hstatic : methM.isStatic = true := Cond.static_spec hnamed hmethM hstat
  obtain ⟨kP, hkP, -⟩ := className_of_methodNamed hnamed
  have hinitP : kP.init = .initialized := Cond.initialized_spec (findClass_of_methodNamed hnamed) hkP hinit
  obtain ⟨vm₁, X₁, hstep₁⟩ := X.invokestatic hexec hown hlink hnamed hmethM hstatic hkP hinitP hy (g := g) hg (argsL := argsL) (rest := rest) (hlen _ hsigM) hstack hdg
  rcases hK m meth c ⟨T.setVm vm₁, locs, cells, slots⟩ { g with stack := rest } (.invokestatic index) mk argsL.toArray X₁ hg hsize hdg hW (X₁.named hnamed) (hpre vm₁ X₁.warmed) with ⟨v, B, X', hpost, hsteps⟩ | ⟨q, B, X', hpost, hsteps⟩
  · exact Or.inl ⟨v, vm₁, B, X₁.warmed, X', hpost, fun target h => hstep₁ _ fun acts => by rw [doInvoke_state]; exact hsteps.trans h⟩
  · exact Or.inr ⟨q, vm₁, B, X₁.warmed, X', hpost, hstep₁ _ fun acts => by rw [doInvoke_state]; exact hsteps⟩
theorem vx_callVW (X : Stand p l e R s m args below meth c T locs cells slots) (hexec : p.tables.exec = Jvm.exec) {own C : String} {index : Nat} {y : MethodName} {bytes : ByteArray} {maxL : Nat} {ret : Option FieldType} {hh : List (Nat × Nat × Nat × Nat)}
    (hown : s.vm.findClass own = some m.cls) (hlink : (Cond.methodLink own index y).before args s = true) (hinst : (Cond.instanceMethod y).before args s = true) (hsel : (Cond.selects C y y).before args s = true)
    (hcode : (Cond.codeWith y bytes maxL ret hh).before args s = true) (hy : y.cls ≠ "java/lang/invoke/MethodHandle" ∧ y.cls ≠ "java/lang/invoke/VarHandle")
    {W9 : Nat} {Pre : Pt → Array Value → Prop} {Post : Pt → Array Value → Option Value → Pt → Prop} (hK : Back l R p e below s args y 3 W9 Pre Post)
    {b : Addr} {cellB : Cell} (hcell : T.heap[b]? = some cellB) (hobj : cellB.vm.isStatics = false) (hcls : s.vm.findClass C = some cellB.cls)
    {g : JFrame} (hg : g.method = m) (hsize : g.locals.size = c.maxLocals) {argsL rest : List Value} (hlen : ∀ sig, parseMethodDescriptor y.desc = some sig → argsL.length = sig.parameters.length)
    (hstack : g.stack = argsL.reverse ++ .ref b :: rest) (hW : 2 * g.monitorRoom + (rest.map fun v => v.category).sum ≤ W9) (hdg : decode c.code g.pc = .ok (.invokevirtual index, 3))
    (hpre : ∀ vm₁, s.WarmedH vm₁ → Pre ⟨T.setVm vm₁, locs, cells, slots⟩ (Value.ref b :: argsL).toArray) :
    ∃ (v : Option Value) (vm₁ : Vm) (B : Pt), s.WarmedH vm₁ ∧ Stand p l e R s m args below meth c B.U B.locs B.cells B.slots ∧ Post ⟨T.setVm vm₁, locs, cells, slots⟩ (Value.ref b :: argsL).toArray v B ∧
      ∀ target, Steps p.tables e below (B.U.setTop { g with pc := g.pc + 3, stack := v.toList ++ rest }) target → Steps p.tables e below (T.setTop g) target := by
  obtain ⟨mk, methM, hnamed, hmethM, hstM, habM⟩ := Cond.instanceMethod_spec hinst
  obtain ⟨m8, methM', cM, hn8, hmethM', -, -, -, -, -, -, hsigM⟩ := Cond.codeWith_spec hcode
  cases Option.some.inj (hn8.symm.trans hnamed)
  cases hmethM.symm.trans hmethM'
  obtain ⟨c2, r2, m2, q1, q2, q3, q4, kP, hkP, hkPi⟩ := Cond.selects_spec hsel
  cases hcls.symm.trans q1
  cases (State.methodFound?_of_named hnamed hy).symm.trans q2
  cases hnamed.symm.trans q3
  have hselP : selectMethod e.platform s.vm cellB.cls mk = .method mk := by rw [Launch.admits_selectMethod X.admits]; exact q4
  obtain ⟨vm₁, X₁, hstep₁⟩ := X.invokevirtual hexec hown hlink hnamed hmethM hstM hkP hkPi hy (a := b) (cell := cellB) hcell
    (fun z h => by rw [h] at hobj; cases hobj) hselP hmethM habM hkP hkPi (g := g) hg (argsL := argsL) (rest := rest) (hlen _ hsigM) hstack hdg
  obtain ⟨v, B, X', hpost, hsteps⟩ := hK m meth c ⟨T.setVm vm₁, locs, cells, slots⟩ { g with stack := rest } (.invokevirtual index) mk (Value.ref b :: argsL).toArray X₁ hg hsize hdg hW (X₁.named hnamed) (hpre vm₁ X₁.warmed)
  exact ⟨v, vm₁, B, X₁.warmed, X', hpost, fun target h => hstep₁ _ fun acts => by rw [doInvoke_state]; exact hsteps.trans h⟩
abbrev vx_CVW (R : Room) (s : State) (args : Array Value) (own C : String) (index : Nat) (y : MethodName) (bytes : ByteArray) (maxL : Nat) (ret : Option FieldType) (hh : List (Nat × Nat × Nat × Nat)) (ws : List Cond) (rm : Room) (mc ms n : Nat) : Prop :=
  (rm.cells = mc ∧ rm.slots = ms ∧ rm.frames + 1 ≤ R.frames ∧ 8 + (maxL + 11) + rm.locals ≤ R.locals ∧ (∀ w ∈ ws, ∀ (a' : Array Value) (U : State), s.WarmedH U.vm → w.before a' U = true) ∧ Cond.codeWith y bytes maxL ret hh ∈ ws) ∧
  (Cond.codeWith y bytes maxL ret hh).before args s = true ∧ (Cond.initialized y.cls).before args s = true ∧ (y.cls ≠ "java/lang/invoke/MethodHandle" ∧ y.cls ≠ "java/lang/invoke/VarHandle") ∧
  (∀ sig, parseMethodDescriptor y.desc = some sig → n = sig.parameters.length) ∧ (Cond.methodLink own index y).before args s = true ∧ (Cond.instanceMethod y).before args s = true ∧ (Cond.selects C y y).before args s = true
theorem vx_cwVW {own C : String} {index maxL mc ms : Nat} {y : MethodName} {bytes : ByteArray} {ret : Option FieldType} {hh : List (Nat × Nat × Nat × Nat)} {Ts ws ws' : List Cond} {rm : Room} (n : Nat) (ht : ∀ w ∈ Ts, w.before args s = true) (hT : GoodIn Ts (wsV own index C y ws)) (hw : ws = Cond.codeWith y bytes maxL ret hh :: ws') (hrc : rm.cells = mc) (hrs : rm.slots = ms)
    (hd : y.cls = C ∧ y.cls ≠ "java/lang/invoke/MethodHandle" ∧ y.cls ≠ "java/lang/invoke/VarHandle" ∧ (parseMethodDescriptor y.desc).map (fun d => d.parameters.length) = some n) (hR : rm.frames + 1 ≤ R.frames ∧ 8 + (maxL + 11) + rm.locals ≤ R.locals) :
    vx_CVW R s args own C index y bytes maxL ret hh ws rm mc ms n := by
  obtain ⟨hC, hd⟩ := hd
  subst hC
  have ok : ∀ w ∈ wsV own index y.cls y ws, w.before args s = true := fun w h => ht w (hT w h).1
  have hG : GoodIn Ts ws := fun w h => hT w (by unfold wsV; exact List.mem_append_right _ h)
  have hc : Cond.codeWith y bytes maxL ret hh ∈ ws := by rw [hw]; exact List.mem_cons_self
  refine ⟨⟨hrc, hrs, hR.1, hR.2, pay_in ht hG, hc⟩, ht _ (hG _ hc).1, ok _ (by simp [wsV]), ⟨hd.1, hd.2.1⟩, fun sig h => ?_, ok _ (by simp [wsV]), ok _ (by simp [wsV]), ok _ (by simp [wsV])⟩
  have h2 := hd.2.2
  rw [h] at h2
  exact (Option.some.inj h2).symm
theorem vx_runVW {y : MethodName} {bytes cc : ByteArray} {maxL nL mc ms n index : Nat} {ret : Option FieldType} {hh : List (Nat × Nat × Nat × Nat)} {ws : List Cond} {rm : Room} {Pc : Array Value → State → Prop} {Qc : Array Value → State → Outcome → State → Prop} {free : Addr → Prop} {Ts : List Cond} {own C : String} {b : Addr} {As rest : List Value} {g : JFrame}
    (S : CallFix p m c cc nL s args Ts own) (hM : Met l y ws rm Pc Qc mc ms free) (cw : vx_CVW R s args own C index y bytes maxL ret hh ws rm mc ms n) (hp : PreV s H C b Pc As)
    (hg : g.method = m) (hn : As.length = n) (hsize : g.locals.size = nL) (hstack : g.stack = As.reverse ++ .ref b :: rest) (hW : 2 * g.monitorRoom + (rest.map fun v => v.category).sum ≤ 8) (hdg : decode cc g.pc = .ok (.invokevirtual index, 3)) (hf : cells + mc ≤ R.cells ∧ slots + ms ≤ R.slots) :
    va_Run p l e R s m args below meth c H locs cells slots mc ms g rest (Qc (Value.ref b :: As).toArray) free := by
  obtain ⟨⟨hrc, hrs, hfr, hlo, hws, hcw⟩, hcode, hini, hy, hlen, hl, hin, hse⟩ := cw
  have hK : Back l R p e below s args y 3 8 (PreOf R mc ms Pc) (PostOf Qc mc ms free) := va_backW (hh := hh) (bytes := bytes) (maxL := maxL) (ret := ret) hM hp.1 hrc hrs hfr hlo hws hcw (fun a' U hW => word_at hW (Or.inl (by first | rfl | simp [Cond.onTables, Cond.keeps, Cond.steady])) hini)
  obtain ⟨hx, hb, hml, ho, -⟩ := S
  obtain ⟨-, ⟨cellB, hcB, hoB, hclB⟩, hPc⟩ := hp
  intro T hT X
  obtain ⟨v, vm₁, ⟨U', l2, c2, s2⟩, hW₁, X', ⟨g', mk, t, L, e1, e2, hq, h1, hL, h2, h3⟩, st⟩ := vx_callVW X hx (C := C) (hh := hh) (bytes := bytes) (maxL := maxL) (ret := ret) ho hl hin hse hcode hy hK (by rw [hT]; exact hcB) hoB hclB hg (hsize.trans hml.symm) (argsL := As) (rest := rest) (fun sig h => hn.trans (hlen sig h)) hstack hW (by rw [hb]; exact hdg)
    (fun vm₁ hW₁ => ⟨hf.1, hf.2, hPc (T.setVm vm₁) hT hW₁⟩)
  dsimp only [Pt.U, Pt.locs, Pt.cells, Pt.slots] at X' e1 e2 h1 h2 h3 st
  subst h1; subst h2; subst h3
  exact ⟨v, (T.setVm vm₁).calling g' mk (Value.ref b :: As).toArray, t, U', L, hT, X', hL, e1, e2, hq, st⟩
section
variable {y : MethodName} {bytes cc : ByteArray} {maxL nL mc ms n index : Nat} {ret : Option FieldType} {ws : List Cond} {rm : Room} {Pc : Array Value → State → Prop} {Qc : Array Value → State → Outcome → State → Prop} {XC : String → State → State → Prop} {free : Addr → Prop} {Ts : List Cond} {own C : String} {b : Addr} {As rest : List Value} {g : JFrame}
theorem vx_runVX {hh : List (Nat × Nat × Nat × Nat)} (S : CallFix p m c cc nL s args Ts own) (hM : vx_Met l y ws rm Pc Qc XC mc ms free) (cw : vx_CVW R s args own C index y bytes maxL ret hh ws rm mc ms n) (hp : PreV s H C b Pc As)
    (hg : g.method = m) (hn : As.length = n) (hsize : g.locals.size = nL) (hstack : g.stack = As.reverse ++ .ref b :: rest) (hW : 2 * g.monitorRoom + (rest.map fun v => v.category).sum ≤ 8) (hdg : decode cc g.pc = .ok (.invokevirtual index, 3)) (hf : cells + mc ≤ R.cells ∧ slots + ms ≤ R.slots) :
    vx_Run p l e R s m args below meth c H locs cells slots mc ms g rest (Qc (Value.ref b :: As).toArray) XC free := by
  obtain ⟨⟨hrc, hrs, hfr, hlo, hws, hcw⟩, hcode, hini, hy, hlen, hl, hin, hse⟩ := cw
  have hK : vx_Back l R p e below s args y 3 8 (PreOf R mc ms Pc) (PostOf Qc mc ms free) (vx_Post XC mc ms free) := vx_backW (hh := hh) (bytes := bytes) (maxL := maxL) (ret := ret) hM hp.1 hrc hrs hfr hlo hws hcw (fun a' U hW => word_at hW (Or.inl (by first | rfl | simp [Cond.onTables, Cond.keeps, Cond.steady])) hini)
  obtain ⟨hx, hb, hml, ho, -⟩ := S
  obtain ⟨-, ⟨cellB, hcB, hoB, hclB⟩, hPc⟩ := hp
  intro T hT X
  rcases vx_callVX X hx (C := C) (hh := hh) (bytes := bytes) (maxL := maxL) (ret := ret) ho hl hin hse hcode hy hK (by rw [hT]; exact hcB) hoB hclB hg (hsize.trans hml.symm) (argsL := As) (rest := rest) (fun sig h => hn.trans (hlen sig h)) hstack hW (by rw [hb]; exact hdg)
    (fun vm₁ hW₁ => ⟨hf.1, hf.2, hPc (T.setVm vm₁) hT hW₁⟩) with ⟨v, vm₁, ⟨U', l2, c2, s2⟩, hW₁, X', ⟨g', mk, t, L, e1, e2, hq, h1, hL, h2, h3⟩, st⟩ | ⟨q, vm₁, ⟨U', l2, c2, s2⟩, hW₁, X', ⟨g', mk, t, L, E, ce, e1, e2, hq, hce, hcv, hcl, h1, hL, h2, h3⟩, st⟩
  · dsimp only [Pt.U, Pt.locs, Pt.cells, Pt.slots] at X' e1 e2 h1 h2 h3 st
    subst h1; subst h2; subst h3
    exact Or.inl ⟨v, (T.setVm vm₁).calling g' mk (Value.ref b :: As).toArray, t, U', L, hT, X', hL, e1, e2, hq, st⟩
  · dsimp only [Pt.U, Pt.locs, Pt.cells, Pt.slots] at X' e1 e2 h1 h2 h3 st hcl
    subst h1; subst h2; subst h3
    exact Or.inr ⟨q, (T.setVm vm₁).calling g' mk (Value.ref b :: As).toArray, t, U', L, E, ce, hT, X', hL, e1, e2, hq, hce, hcv, vx_cls hW₁ hcl, st⟩
theorem vx_runSX {hh : List (Nat × Nat × Nat × Nat)} (S : CallFix p m c cc nL s args Ts own) (hM : vx_Met l y ws rm Pc Qc XC mc ms free) (cw : vx_CSW R s args own index y bytes maxL ret hh ws rm mc ms n) (hp : PreS s H Pc As)
    (hg : g.method = m) (hn : As.length = n) (hsize : g.locals.size = nL) (hstack : g.stack = As.reverse ++ rest) (hW : 2 * g.monitorRoom + (rest.map fun v => v.category).sum ≤ 8) (hdg : decode cc g.pc = .ok (.invokestatic index, 3)) (hf : cells + mc ≤ R.cells ∧ slots + ms ≤ R.slots) :
    vx_Run p l e R s m args below meth c H locs cells slots mc ms g rest (Qc As.toArray) XC free := by
  obtain ⟨⟨hrc, hrs, hfr, hlo, hws, hcw⟩, hcode, hini, hy, hlen, hl, hstt⟩ := cw
  have hK : vx_Back l R p e below s args y 3 8 (PreOf R mc ms Pc) (PostOf Qc mc ms free) (vx_Post XC mc ms free) := vx_backW (hh := hh) (bytes := bytes) (maxL := maxL) (ret := ret) hM hp.1 hrc hrs hfr hlo hws hcw (fun a' U hW => word_at hW (Or.inl (by first | rfl | simp [Cond.onTables, Cond.keeps, Cond.steady])) hini)
  obtain ⟨hx, hb, hml, ho, -⟩ := S
  intro T hT X
  rcases vx_callSX X hx (hh := hh) (bytes := bytes) (maxL := maxL) (ret := ret) ho hl hstt hini hcode hy hK hg (hsize.trans hml.symm) (argsL := As) (rest := rest) (fun sig h => hn.trans (hlen sig h)) hstack hW (by rw [hb]; exact hdg)
    (fun vm₁ hW₁ => ⟨hf.1, hf.2, hp.2 (T.setVm vm₁) hT hW₁⟩) with ⟨v, vm₁, ⟨U', l2, c2, s2⟩, hW₁, X', ⟨g', mk, t, L, e1, e2, hq, h1, hL, h2, h3⟩, st⟩ | ⟨q, vm₁, ⟨U', l2, c2, s2⟩, hW₁, X', ⟨g', mk, t, L, E, ce, e1, e2, hq, hce, hcv, hcl, h1, hL, h2, h3⟩, st⟩
  · dsimp only [Pt.U, Pt.locs, Pt.cells, Pt.slots] at X' e1 e2 h1 h2 h3 st
    subst h1; subst h2; subst h3
    exact Or.inl ⟨v, (T.setVm vm₁).calling g' mk As.toArray, t, U', L, hT, X', hL, e1, e2, hq, st⟩
  · dsimp only [Pt.U, Pt.locs, Pt.cells, Pt.slots] at X' e1 e2 h1 h2 h3 st hcl
    subst h1; subst h2; subst h3
    exact Or.inr ⟨q, (T.setVm vm₁).calling g' mk As.toArray, t, U', L, E, ce, hT, X', hL, e1, e2, hq, hce, hcv, vx_cls hW₁ hcl, st⟩
end
end VXH
theorem vx_ofWH {l : Launch} {y : MethodName} {ws ws' : List Cond} {rm : Room} {Pc : Array Value → State → Prop} {Qc : Array Value → State → Outcome → State → Prop} {XC : String → State → State → Prop} {mc ms : Nat} {free : Addr → Prop} {cc : ByteArray} {maxL : Nat} {ret : Option FieldType} {hh : List (Nat × Nat × Nat × Nat)}
    (hy : plainName y.cls = true) (hw : ws = Cond.codeWith y cc maxL ret hh :: ws')
    (body : ∀ p e s m args below meth c s₁, BodyLoose p l y (headSpec ws rm) cc maxL ret e s m args below meth c s₁ → c.maxLocals = maxL → Pc args s →
      W p l e (headSpec ws rm).room s m args below meth c s.heap [] 0 0 (vx_MQ below Qc XC args s mc ms free) (entryFrame m args maxL)) : vx_Met l y ws rm Pc Qc XC mc ms free := by
  refine MetFree.of_bodyS (code := cc) (maxLocals := maxL) (ret := ret) hy ?_ ?_
  · intro args s m h hn
    obtain ⟨m9, meth, c, hn9, h1, h2, h3, h4, -, h5, h6, -⟩ := Cond.codeWith_spec (atoms_spec (ws := ws) h _ (by rw [hw]; exact List.mem_cons_self))
    cases hn.symm.trans hn9
    exact ⟨meth, c, h1, h2, h3, h4, h5, h6⟩
  · intro p e s m args below meth c s₁ B hml hP _
    have hh0 : s₁.heap = s.heap := by rw [B.state]; rfl
    obtain ⟨t, a1, o, b1, b2, b3⟩ := body p e s m args below meth c s₁ B hml hP s₁ hh0 (Stand.of_body B)
    exact ⟨t, o, a1, b1, b2, b3⟩
/-! ===== END ===== -/
/-! ===== BEGIN what the machine throws by itself, no traces kept ===== -/
section VXM
set_option maxHeartbeats 1000000 in
/-- the machine throws cls with the message text, no traces kept: from its note over the frame g to 'throwing' over the same frame (follows the proofs of Stand.vmThrowsMessage, Shelf/KitTracedVmS.lean, and Stand.throwsMessageColdBareV, StandMessageColdV.lean, without the step out of the frame) -/
theorem vx_vmAt {p : Program} {l : Launch} {e : Env} {R : Room} {s : State} {m₀ : MethodId} {args : Array Value} {below : List Frame} {meth : Method} {c : Code} {W : State} {locs : List Loc} {cells slots : Nat}
    (X : Stand p l e R s m₀ args below meth c W locs cells slots) (hexec : p.tables.exec = Jvm.exec) (htr : e.platform.stackTraces = false) {cls : String} {names : List String} {text : String}
    (hcls : Bundle.fit cls = true) (hnames : ∀ n ∈ names, Bundle.fit n = true) (hsoe : (cls == "java/lang/StackOverflowError") = false) (hoom : (cls == "java/lang/OutOfMemoryError") = false)
    (h : ∀ a ∈ Bundle.messageArmAtoms cls names, a.before args s = true)
    (hlocs : ∀ x ∈ locs, ∀ cell, s.heap[x.base]? = some cell → cell.vm.isStatics = false)
    (htext : (text == notModelled) = false) (hlimit : ¬ (stringBytes (stringToUtf16 text)).size > e.platform.arrayLengthLimit) (hheap : ¬ (stringBytes (stringToUtf16 text)).size * componentBytes .byte > e.platform.maxHeapBytes)
    {g : JFrame} (hg : g.method = m₀) (hsize : g.locals.size = c.maxLocals)
    (hRframes : names.length + 4 < R.frames) (hRlocals : 2 * g.monitorRoom + (g.stack.map fun v => v.category).sum + 10240 ≤ R.locals) (hshort : 13 * names.length + 55 ≤ 10240)
    (hRcells : cells + 3 ≤ R.cells) (hRslots : slots + ((stringBytes (stringToUtf16 text)).size + 4 + 6) ≤ R.slots) (hlocks : meth.locks = false) :
    ∃ (S : State) (q : Addr) (ce : Cell), (∀ target, Steps p.tables e below ((S.setTop g).pushFrame (.throwing q)) target → Steps p.tables e below ((W.setTop g).pushFrame (.throwNew cls (some text) none)) target) ∧
      Stand p l e R s m₀ args below meth c S locs (cells + 3) (slots + ((stringBytes (stringToUtf16 text)).size + 4 + 6)) ∧ S.heap[q]? = some ce ∧ s.vm.findClass cls = some ce.cls ∧ ce.vm = .none := by
  have howns : e.platform.frameOwnsMonitors = true := by rw [X.admits.platform]
  have hfin : e.platform.finalization = false := by rw [X.admits.platform]
  have hpl : e.platform.magicAccessors = ({} : Platform).magicAccessors := by rw [X.admits.platform]
  have a : ∀ x, x ∈ Bundle.messageArmAtoms cls names → x.holds args s none s [] = true := fun x hx => h x hx
  obtain ⟨T, Z0, L, -, Y⟩ := ThrowableC.of_atoms (args := args) howns hfin hpl (fun x hx => h x (by simp [Bundle.messageArmAtoms, hx]))
  obtain ⟨Z, M, LZ, LM, hnZ⟩ := Init0T.ofS_atoms (args := args) hpl L Y (fun x hx => h x (by simp [Bundle.messageArmAtoms, hx]))
  obtain ⟨P1, Ps, hlen, L1, hL, hP1m, hlink1, hlink⟩ := Bundle.chainS (args := args) hpl hnZ names cls hcls hnames (fun x hx => h x (by simp [Bundle.messageArmAtoms, hx]))
  obtain ⟨Zs, LZs, hn4, hfitv, hfitc⟩ := StringT.of_atoms (args := args) (fun x hx => h x (by simp [Bundle.messageArmAtoms, hx]))
  have hfound : s.vm.findClass cls = some P1.m.cls := findClass_of_methodNamed hP1m
  obtain ⟨c1, kX, hc1, hk, hord, -, -, hn6⟩ := Cond.instantiable_spec (a (.instantiable cls 6) (by simp [Bundle.messageArmAtoms]))
  cases Option.some.inj (hc1.symm.trans hfound)
  have hinit := Cond.initialized_spec hfound hk (a (.initialized cls) (by simp [Bundle.messageArmAtoms]))
  have hctor : kX.findMethod "<init>" "(Ljava/lang/String;)V" = some P1.m.idx := findMethod_of_methodNamed hP1m hk
  have hsel0 : selectMethod e.platform s.vm P1.m.cls T.fill0 = .method T.fill0 := by
    obtain ⟨c2, r2, m2, q1, q2, q3, q4, -⟩ := Cond.selects_spec (a (.selects cls Bundle.tFill0 Bundle.tFill0) (by simp [Bundle.messageArmAtoms]))
    cases Option.some.inj (q1.symm.trans hfound)
    cases Option.some.inj (q2.symm.trans (State.methodFound?_of_named Y.fill0 (by decide)))
    cases Option.some.inj (q3.symm.trans Y.fill0)
    rw [Launch.admits_selectMethod X.admits]; exact q4
  have hselF : selectMethod e.platform s.vm P1.m.cls T.fill = .method T.fill := by
    obtain ⟨c2, r2, m2, q1, q2, q3, q4, -⟩ := Cond.selects_spec (a (.selects cls Bundle.tFill Bundle.tFill) (by simp [Bundle.messageArmAtoms]))
    cases Option.some.inj (q1.symm.trans hfound)
    cases Option.some.inj (q2.symm.trans (State.methodFound?_of_named Y.fill (by decide)))
    cases Option.some.inj (q3.symm.trans Y.fill)
    rw [Launch.admits_selectMethod X.admits]; exact q4
  obtain ⟨cellS0, hcS0, hiss⟩ := Y.statics
  obtain ⟨u0, hu0⟩ := Cond.staticRefV Y.unassigned L.unassignedStatic L.statics hcS0 hiss (a (.isRef (.static Bundle.tN "UNASSIGNED_STACK" Bundle.steD)) (by simp [Bundle.messageArmAtoms]))
  obtain ⟨sen, hsen⟩ := Cond.staticRefV Y.sentinel L.sentinelStatic L.statics hcS0 hiss (a (.isRef (.static Bundle.tN "SUPPRESSED_SENTINEL" Bundle.listD)) (by simp [Bundle.messageArmAtoms]))
  obtain ⟨ci198, i198, fB, hk198, hg198, ha198, hsB, -, hnB, htB, hffB⟩ := Cond.ownField (t := .object "java/lang/Object") Y.found L.cls (by decide +kernel) (a (.fieldLink Bundle.tN 198 Bundle.tN "backtrace" "Ljava/lang/Object;") (by simp [Bundle.messageArmAtoms])) (a (.lays Bundle.tN Bundle.tN "backtrace" "Ljava/lang/Object;") (by simp [Bundle.messageArmAtoms])) e.platform hpl
  obtain ⟨cellS, hcS', heS, -, hkeep⟩ := X.same.2.2.2.2.2 T.aS cellS0 hcS0
  have hcellS : W.heap[T.aS]? = some cellS := hcS'
  have hout' : ∀ i, (⟨T.aS, i⟩ : Loc) ∉ locs := fun i hmem => by
    have := hlocs _ hmem cellS0 hcS0
    rw [hiss] at this; cases this
  have hknownS : cellS.vm ≠ .unknown := by
    rw [heS]; intro hu
    rw [show cellS0.vm = .unknown from hu] at hiss
    cases hiss
  have hvU : cellS.slots[T.fUnassigned.slot]? = some u0.v := by rw [hkeep _ (hout' _)]; exact hu0
  have hvSen : cellS.slots[T.fSentinel.slot]? = some sen.v := by rw [hkeep _ (hout' _)]; exact hsen
  obtain ⟨iM, hffM⟩ := Y.msg
  obtain ⟨tyC, dC, hdC, hdnC⟩ := Cond.laysAt hfound hk Y.cause (a (.lays cls Bundle.tN "cause" "Ljava/lang/Throwable;") (by simp [Bundle.messageArmAtoms]))
  obtain ⟨tyS, dS, hdS, hdnS⟩ := Cond.laysAt hfound hk Y.stack (a (.lays cls Bundle.tN "stackTrace" Bundle.steD) (by simp [Bundle.messageArmAtoms]))
  obtain ⟨tyP, dP, hdP, hdnP⟩ := Cond.laysAt hfound hk Y.supp (a (.lays cls Bundle.tN "suppressedExceptions" Bundle.listD) (by simp [Bundle.messageArmAtoms]))
  obtain ⟨tyM, dM, hdM, hdnM⟩ := Cond.laysAt hfound hk hffM (a (.lays cls Bundle.tN "detailMessage" "Ljava/lang/String;") (by simp [Bundle.messageArmAtoms]))
  obtain ⟨tyB, dB, hdB, hdnB⟩ := Cond.laysAt hfound hk hffB (a (.lays cls Bundle.tN "backtrace" "Ljava/lang/Object;") (by simp [Bundle.messageArmAtoms]))
  have bC := Cond.laysApart hdB hdC hdnB hdnC (by rw [hnB, Y.causeName]; decide)
  have bS := Cond.laysApart hdB hdS hdnB hdnS (by rw [hnB, Y.stackName]; decide)
  have bP := Cond.laysApart hdB hdP hdnB hdnP (by rw [hnB, Y.suppName]; decide)
  have hbk : ((preparedCellV T.toThrowableT (freshCell P1.m.cls kX) (W.heap.size + 2) u0 sen).withEntry W.cur).slots[fB.slot]? = some .null := by
    have := fresh_default (c := P1.m.cls) tyB
    rw [htB] at this
    simpa [preparedCellV, Cell.setSlot, Cell.withEntry, Array.getElem?_setIfInBounds, bC, bS, bP, bC.symm, bS.symm, bP.symm, defaultValue] using this
  have tkC := Takes.of_laid (v := .ref (W.heap.size + 2)) hk hord tyC (by rw [Y.causeType]; rfl)
  have tkS := Takes.of_laid (v := u0.v) hk hord tyS (by rw [Y.stackType]; exact fits_refV_array _ u0)
  have tkP := Takes.of_laid (v := sen.v) hk hord tyP (by rw [Y.suppType]; exact fits_refV_object _ sen)
  have tkM := Takes.of_laid (v := .ref (W.heap.size + 1)) hk hord tyM (by rw [Y.msgType]; rfl)
  have hskip : SkipFacts T e.platform s (fun u => u) u0 ((preparedCellV T.toThrowableT (freshCell P1.m.cls kX) (W.heap.size + 2) u0 sen).withEntry W.cur) := ⟨{ ci198 := ci198, i198 := i198, fBack := fB }, ⟨hk198, hg198, ha198, hsB⟩, hbk, fun _ _ => rfl⟩
  have h0 : At W g.method c below := by rw [hg]; exact X.here
  obtain ⟨hbeyond, hfreeW⟩ := X.vmMayThrow hsize (.throwNew cls (some text) none) (fun f hf => by cases hf) rfl hRlocals
  have hfr' : W.frames.length + Ps.length + 4 < (e.platform.stackLimits W.me).1 := by have := X.framesAbove hRframes; omega
  have hwd' : (stackUse (.java g :: W.frames.tail)).2 + 13 * Ps.length + 55 ≤ (e.platform.stackLimits W.me).2 := by have := X.stackAbove hsize (K := 13 * Ps.length + 55) (by omega); omega
  have hslots : W.slotsUsed + (stringBytes (stringToUtf16 text)).size + Zs.kS.instanceTypes.size + kX.instanceTypes.size ≤ e.platform.maxSlots := by
    have := X.slotsAbove hRslots
    rw [hn4, hn6]
    omega
  obtain ⟨vm', hW', st⟩ := Steps.vmThrowsMessageColdByV p (s₀ := s) (S := W) (g := g) h0 hexec T L Z LZ M LM X.warmed (t := W.cur) rfl Zs LZs P1 L1 Ps hL hlink1 hlink hsoe hoom hfound hk hinit hord hctor
    (Launch.admits_hotImplicitExceptions X.admits) hbeyond hfreeW htext hlimit hheap (X.cellsAbove hRcells) hslots (hfitv _) (hfitc _)
    (Nn := fun u => u) heapOnly_id (fun _ _ => rfl) (fun _ => rfl) (fun u x y => setCell_twice _ _ _ _) (fun _ => Nat.le_refl _) (cN := ((preparedCellV T.toThrowableT (freshCell P1.m.cls kX) (W.heap.size + 2) u0 sen).withEntry W.cur))
    hsel0 hcellS hknownS hvU tkS (fun _ hu => hu) (fun _ hu => hu) rfl rfl rfl (by simp [preparedCellV, Cell.setSlot, Cell.withEntry]) hskip (fun _ _ hA hW _ hroom _ hrest => L.nativeOff p htr hA hW hroom hrest) hselF hvSen tkC tkP tkM Y.objLocals rfl hfr' hwd'
  rw [plainBareV_eq T.toThrowableT (W.heap.size + 2) u0 sen (.ref (W.heap.size + 1)) W.cur rfl rfl] at st
  obtain ⟨-, -, w3, w4, -, -, -⟩ := withThrown_facts e.platform W Zs text P1.m.cls kX
  have X3 := ((X.pushed (bytesOf Zs.cB (stringToUtf16 text))).pushed (stringAt Zs.cS Zs.kS Zs.fv Zs.fc (stringToUtf16 text) W.heap.size)).pushed (freshCell P1.m.cls kX)
  rw [← withString_eq] at X3
  have X4 := X3.noted hW'
  have ha : (W.heap.size + 2) < ((withThrown W Zs text P1.m.cls kX).setVm vm').heap.size := by show _ < (withThrown W Zs text P1.m.cls kX).heap.size; rw [w3]; omega
  have hcell : ((withThrown W Zs text P1.m.cls kX).setVm vm').heap[(W.heap.size + 2)]? = some (freshCell P1.m.cls kX) := w4
  have X5 := ((((X4.stored hcell T.fCause.slot (.ref (W.heap.size + 2))).storedAgain ha T.fStack.slot u0.v).storedAgain ha T.fSupp.slot sen.v).storedAgain ha T.fStack.slot u0.v).storedAgain ha T.fMsg.slot (.ref (W.heap.size + 1))
  obtain ⟨g₁, hfrM⟩ := X5.frames_eq
  have hU : ((((withThrown W Zs text P1.m.cls kX).setVm vm').setCell (W.heap.size + 2) (plainBareV T.toThrowableT (freshCell P1.m.cls kX) (W.heap.size + 2) u0 sen (.ref (W.heap.size + 1)))).setTop g).pushFrame (.throwing (W.heap.size + 2)) = (((withThrown W Zs text P1.m.cls kX).setVm vm').setCell (W.heap.size + 2) (plainBareV T.toThrowableT (freshCell P1.m.cls kX) (W.heap.size + 2) u0 sen (.ref (W.heap.size + 1)))).setFrames (.throwing (W.heap.size + 2) :: .java g :: below) := by
    rw [State.pushFrame, State.frames_setTop _ hfrM, State.setTop_of_frames _ hfrM, State.setFrames_setFrames]
  have b1 : (bytesOf Zs.cB (stringToUtf16 text)).slots.size = (stringBytes (stringToUtf16 text)).size := by
    rw [(Cell.writeAll_facts _ _).2.2]; simp [bytes0]
  have b2 : (stringAt Zs.cS Zs.kS Zs.fv Zs.fc (stringToUtf16 text) W.heap.size).slots.size = 4 := by simp [string0, Cell.setSlot, hn4]
  have b3 : (freshCell P1.m.cls kX).slots.size = 6 := by simp [hn6]
  rw [b1, b2, b3] at X5
  have e9 : slots + (stringBytes (stringToUtf16 text)).size + 4 + 6 = slots + ((stringBytes (stringToUtf16 text)).size + 4 + 6) := by omega
  rw [e9] at X5
  simp only [List.append_assoc, List.cons_append, List.nil_append] at X5
  refine ⟨((withThrown W Zs text P1.m.cls kX).setVm vm').setCell (W.heap.size + 2) (plainBareV T.toThrowableT (freshCell P1.m.cls kX) (W.heap.size + 2) u0 sen (.ref (W.heap.size + 1))), W.heap.size + 2, _, fun target ht => st _ (by rw [X.tail, ← hU]; exact ht),
    X5.forget (fun y hy => ?_), heapAt_setCell_self _ ha, hfound, rfl⟩
  simp only [List.mem_cons, List.not_mem_nil, or_false] at hy
  have hge : s.heap.size ≤ W.heap.size := X.same.2.1
  rcases hy with rfl | rfl | rfl | rfl | rfl <;> exact Nat.le_trans hge (Nat.le_add_right _ 2)
set_option maxHeartbeats 1000000 in
/-- the machine throws NullPointerException, no traces kept: from its note over the frame g to 'throwing' over the same frame (follows the proof of Stand.vmThrowsNpe, Shelf42/KT2.lean; throwsNpeColdBareVAt, Shelf42/NT91.lean, called) -/
theorem vx_npeAt {p : Program} {l : Launch} {e : Env} {R : Room} {s : State} {m₀ : MethodId} {args : Array Value} {below : List Frame} {meth : Method} {c : Code} {W : State} {locs : List Loc} {cells slots : Nat}
    (X : Stand p l e R s m₀ args below meth c W locs cells slots) (hexec : p.tables.exec = Jvm.exec) (htr : e.platform.stackTraces = false) {n : Nat}
    (h : ∀ a ∈ Bundle.npeArmAtoms n, a.before args s = true)
    (hlocs : ∀ x ∈ locs, ∀ cell, s.heap[x.base]? = some cell → cell.vm.isStatics = false)
    {g : JFrame} (hg : g.method = m₀) (hsize : g.locals.size = c.maxLocals)
    (hRframes : 7 < R.frames) (hRlocals : 2 * g.monitorRoom + (g.stack.map fun v => v.category).sum + 10240 ≤ R.locals)
    (hRcells : cells + 1 ≤ R.cells) (hRslots : slots + n ≤ R.slots) (hlocks : meth.locks = false) :
    ∃ (S : State) (q : Addr) (ce : Cell), (∀ target, Steps p.tables e below ((S.setTop g).pushFrame (.throwing q)) target → Steps p.tables e below ((W.setTop g).pushFrame (.throwNew "java/lang/NullPointerException" none none)) target) ∧
      Stand p l e R s m₀ args below meth c S locs (cells + 1) (slots + n) ∧ S.heap[q]? = some ce ∧ s.vm.findClass "java/lang/NullPointerException" = some ce.cls ∧ ce.vm = .none := by
  have howns : e.platform.frameOwnsMonitors = true := by rw [X.admits.platform]
  have hfin : e.platform.finalization = false := by rw [X.admits.platform]
  have hpl : e.platform.magicAccessors = ({} : Platform).magicAccessors := by rw [X.admits.platform]
  have hpl2 : e.platform.arrayCloneIsPublic = true := by rw [X.admits.platform]
  have a' : ∀ x, x ∈ Bundle.npeArmAtoms n → x.holds args s none s [] = true := fun x hx => h x hx
  obtain ⟨T, Z, L, LZ, Y⟩ := ThrowableC.of_atoms (args := args) howns hfin hpl (fun x hx => h x (by simp [Bundle.npeArmAtoms, hx]))
  obtain ⟨N, LN, hcN, hnNF, hordN, hffS⟩ := NpeC.of_atoms (args := args) hpl hpl2 L Y (fun x hx => h x (by simp [Bundle.npeArmAtoms, hx]))
  obtain ⟨P1, L1, hP1m, hP1s⟩ := PassC.of_atoms (args := args) (s := s) hpl (X := Bundle.nN) (Y := Bundle.rN) (by decide) (by decide) LibCode.NullPointerException.Init0.at_0 LibCode.NullPointerException.Init0.at_1 LibCode.NullPointerException.Init0.at_4 (fun x hx => h x (by simp [Bundle.npeArmAtoms, hx]))
  obtain ⟨PR, LR, hPRm, hPRs⟩ := PassC.of_atoms (args := args) (s := s) hpl (X := Bundle.rN) (Y := Bundle.eN) (by decide) (by decide) LibCode.RuntimeException.Init0.at_0 LibCode.RuntimeException.Init0.at_1 LibCode.RuntimeException.Init0.at_4 (fun x hx => h x (by simp [Bundle.npeArmAtoms, hx]))
  obtain ⟨PE, LEx, hPEm, hPEs⟩ := PassC.of_atoms (args := args) (s := s) hpl (X := Bundle.eN) (Y := Bundle.tN) (by decide) (by decide) LibCode.Exception.Init0.at_0 LibCode.Exception.Init0.at_1 LibCode.Exception.Init0.at_4 (fun x hx => h x (by simp [Bundle.npeArmAtoms, hx]))
  have hfound : s.vm.findClass Bundle.nN = some P1.m.cls := findClass_of_methodNamed hP1m
  have ecls : N.cN = P1.m.cls := Option.some.inj (hcN.symm.trans hfound)
  have hk : s.vm.classes[P1.m.cls]? = some N.kN := by rw [← ecls]; exact LN.cls
  have hinit := Cond.initialized_spec hfound hk (a' (.initialized Bundle.nN) (by simp [Bundle.npeArmAtoms]))
  have hctor : N.kN.findMethod "<init>" "()V" = some P1.m.idx := findMethod_of_methodNamed hP1m hk
  obtain ⟨c1, k1, hc1, hk1, -, -, -, hn⟩ := Cond.instantiable_spec (a' (.instantiable Bundle.nN n) (by simp [Bundle.npeArmAtoms]))
  cases Option.some.inj (hc1.symm.trans hfound)
  cases Option.some.inj (hk1.symm.trans hk)
  have hfsz : (freshCell P1.m.cls N.kN).slots.size = n := by simp [hn]
  have hlink1 : P1.sup = PR.m := Option.some.inj (hP1s.symm.trans hPRm)
  have hlinkR : PR.sup = PE.m := Option.some.inj (hPRs.symm.trans hPEm)
  have hlinkE : PE.sup = Z.m T.toThrowableT := Option.some.inj (hPEs.symm.trans Y.init0)
  have hLs : ∀ P, P ∈ [PR, PE] → P.Links0 e.platform s := fun P hP => by
    simp only [List.mem_cons, List.not_mem_nil, or_false] at hP
    rcases hP with rfl | rfl
    · exact LR
    · exact LEx
  have hsel0 : selectMethod e.platform s.vm P1.m.cls T.fill0 = .method T.fill0 := by
    obtain ⟨c2, r2, m2, q1, q2, q3, q4, -⟩ := Cond.selects_spec (a' (.selects Bundle.nN Bundle.tFill0 Bundle.tFill0) (by simp [Bundle.npeArmAtoms]))
    cases Option.some.inj (q1.symm.trans hfound)
    cases Option.some.inj (q2.symm.trans (State.methodFound?_of_named Y.fill0 (by decide)))
    cases Option.some.inj (q3.symm.trans Y.fill0)
    rw [Launch.admits_selectMethod X.admits]; exact q4
  have hselF : selectMethod e.platform s.vm P1.m.cls T.fill = .method N.fill := by
    obtain ⟨c2, r2, m2, q1, q2, q3, q4, -⟩ := Cond.selects_spec (a' (.selects Bundle.nN Bundle.tFill Bundle.nFill) (by simp [Bundle.npeArmAtoms]))
    cases Option.some.inj (q1.symm.trans hfound)
    cases Option.some.inj (q2.symm.trans (State.methodFound?_of_named Y.fill (by decide)))
    cases Option.some.inj (q3.symm.trans hnNF)
    rw [Launch.admits_selectMethod X.admits]; exact q4
  obtain ⟨cellS0, hcS0, hiss⟩ := Y.statics
  obtain ⟨u0, hu0⟩ := Cond.staticRefV Y.unassigned L.unassignedStatic L.statics hcS0 hiss (a' (.isRef (.static Bundle.tN "UNASSIGNED_STACK" Bundle.steD)) (by simp [Bundle.npeArmAtoms]))
  obtain ⟨sen, hsen⟩ := Cond.staticRefV Y.sentinel L.sentinelStatic L.statics hcS0 hiss (a' (.isRef (.static Bundle.tN "SUPPRESSED_SENTINEL" Bundle.listD)) (by simp [Bundle.npeArmAtoms]))
  obtain ⟨ci198, i198, fB, hk198, hg198, ha198, hsB, -, hnB, htB, hffB⟩ := Cond.ownField (t := .object "java/lang/Object") Y.found L.cls (by decide +kernel) (a' (.fieldLink Bundle.tN 198 Bundle.tN "backtrace" Bundle.objD) (by simp [Bundle.npeArmAtoms])) (a' (.lays Bundle.tN Bundle.tN "backtrace" Bundle.objD) (by simp [Bundle.npeArmAtoms])) e.platform hpl
  obtain ⟨cellS, hcS', heS, -, hkeep⟩ := X.same.2.2.2.2.2 T.aS cellS0 hcS0
  have hcellS : W.heap[T.aS]? = some cellS := hcS'
  have hout' : ∀ i, (⟨T.aS, i⟩ : Loc) ∉ locs := fun i hmem => by
    have := hlocs _ hmem cellS0 hcS0
    rw [hiss] at this; cases this
  have hknownS : cellS.vm ≠ .unknown := by
    rw [heS]; intro hu
    rw [show cellS0.vm = .unknown from hu] at hiss
    cases hiss
  have hvU : cellS.slots[T.fUnassigned.slot]? = some u0.v := by rw [hkeep _ (hout' _)]; exact hu0
  have hvSen : cellS.slots[T.fSentinel.slot]? = some sen.v := by rw [hkeep _ (hout' _)]; exact hsen
  obtain ⟨tyC, dC, hdC, hdnC⟩ := Cond.laysAt hfound hk Y.cause (a' (.lays Bundle.nN Bundle.tN "cause" "Ljava/lang/Throwable;") (by simp [Bundle.npeArmAtoms]))
  obtain ⟨tyS, dS, hdS, hdnS⟩ := Cond.laysAt hfound hk Y.stack (a' (.lays Bundle.nN Bundle.tN "stackTrace" Bundle.steD) (by simp [Bundle.npeArmAtoms]))
  obtain ⟨tyP, dP, hdP, hdnP⟩ := Cond.laysAt hfound hk Y.supp (a' (.lays Bundle.nN Bundle.tN "suppressedExceptions" Bundle.listD) (by simp [Bundle.npeArmAtoms]))
  obtain ⟨tyX, dX, hdX, hdnX⟩ := Cond.laysAt hfound hk hffS (a' (.lays Bundle.nN Bundle.nN "extendedMessageState" "I") (by simp [Bundle.npeArmAtoms, Bundle.npeAtoms]))
  obtain ⟨hnX, htX⟩ := State.fieldFound?_type hffS (t := .int) (by decide +kernel)
  have xC := Cond.laysApart hdC hdX hdnC hdnX (by rw [hnX, Y.causeName]; decide)
  have xS := Cond.laysApart hdS hdX hdnS hdnX (by rw [hnX, Y.stackName]; decide)
  have xP := Cond.laysApart hdP hdX hdnP hdnX (by rw [hnX, Y.suppName]; decide)
  have hv0 : (freshCell P1.m.cls N.kN).slots[N.fState.slot]? = some (.int 0) := by
    have := fresh_default (c := P1.m.cls) tyX
    rw [htX] at this; exact this
  obtain ⟨tyB, dB, hdB, hdnB⟩ := Cond.laysAt hfound hk hffB (a' (.lays Bundle.nN Bundle.tN "backtrace" Bundle.objD) (by simp [Bundle.npeArmAtoms]))
  have bC := Cond.laysApart hdB hdC hdnB hdnC (by rw [hnB, Y.causeName]; decide)
  have bS := Cond.laysApart hdB hdS hdnB hdnS (by rw [hnB, Y.stackName]; decide)
  have bP := Cond.laysApart hdB hdP hdnB hdnP (by rw [hnB, Y.suppName]; decide)
  have bX := Cond.laysApart hdB hdX hdnB hdnX (by rw [hnB, hnX]; decide)
  have hbk : ((npeCell N.toNpeT (preparedCellV T.toThrowableT (freshCell P1.m.cls N.kN) W.heap.size u0 sen) W.cur).withEntry W.cur).slots[fB.slot]? = some .null := by
    have := fresh_default (c := P1.m.cls) tyB
    rw [htB] at this
    simpa [npeCell, preparedCellV, Cell.setSlot, Cell.withEntry, Array.getElem?_setIfInBounds, bC, bS, bP, bX, bC.symm, bS.symm, bP.symm, bX.symm, defaultValue] using this
  have tkC := Takes.of_laid (v := .ref W.heap.size) hk hordN tyC (by rw [Y.causeType]; rfl)
  have tkS := Takes.of_laid (v := u0.v) hk hordN tyS (by rw [Y.stackType]; exact fits_refV_array _ u0)
  have tkP := Takes.of_laid (v := sen.v) hk hordN tyP (by rw [Y.suppType]; exact fits_refV_object _ sen)
  have tkX := Takes.of_laid (v := .int 1) hk hordN tyX (by rw [htX]; rfl)
  have hskip : SkipFacts T e.platform s (fun u => u) u0 ((npeCell N.toNpeT (preparedCellV T.toThrowableT (freshCell P1.m.cls N.kN) W.heap.size u0 sen) W.cur).withEntry W.cur) := ⟨{ ci198 := ci198, i198 := i198, fBack := fB }, ⟨hk198, hg198, ha198, hsB⟩, hbk, fun _ _ => rfl⟩
  obtain ⟨vm', X3, st, -⟩ := X.throwsNpeColdBareVAt hexec hg hsize T L Z LZ N LN P1 L1 [PR, PE] hLs hlink1 ⟨hlinkR, hlinkE, trivial⟩ hfound hk hinit hordN hctor hsel0 hselF hcellS hknownS hvU hvSen
    hv0 xC xS xP tkC tkS tkP tkX Y.objLocals hskip (fun _ _ hA hW _ hroom _ hrest => L.nativeOff p htr hA hW hroom hrest) (by simpa using hRframes) hRlocals (by simp) hRcells (by rw [hn]; exact hRslots)
  have hlt : W.heap.size < ((W.pushCell (freshCell P1.m.cls N.kN)).setVm vm').heap.size := by
    show W.heap.size < (W.pushCell (freshCell P1.m.cls N.kN)).heap.size
    rw [State.heap_size_pushCell]; omega
  rw [hfsz] at X3
  obtain ⟨g₁, hfrM⟩ := X3.frames_eq
  have hU : ((((W.pushCell (freshCell P1.m.cls N.kN)).setVm vm').setCell W.heap.size (npeBareV T.toThrowableT N.toNpeT (freshCell P1.m.cls N.kN) W.heap.size u0 sen)).setTop g).pushFrame (.throwing W.heap.size) = (((W.pushCell (freshCell P1.m.cls N.kN)).setVm vm').setCell W.heap.size (npeBareV T.toThrowableT N.toNpeT (freshCell P1.m.cls N.kN) W.heap.size u0 sen)).setFrames (.throwing W.heap.size :: .java g :: below) := by
    rw [State.pushFrame, State.frames_setTop _ hfrM, State.setTop_of_frames _ hfrM, State.setFrames_setFrames]
  refine ⟨_, W.heap.size, _, fun target ht => st.trans (by rw [← hU]; exact ht), X3.forget (fun y hy => ?_), heapAt_setCell_self _ hlt, hfound, rfl⟩
  simp only [List.mem_cons, List.not_mem_nil, or_false] at hy
  have hge : s.heap.size ≤ W.heap.size := X.same.2.1
  rcases hy with rfl | rfl | rfl | rfl | rfl <;> exact hge
/-- the words of a machine's NullPointerException, but the four that speak of the heap -/
def vx_atN (n : Nat) : List Cond := (Bundle.npeArmAtoms n).filter vx_no
/-- the words of a machine's throw with a message, but the four that speak of the heap -/
def vx_atM (X : String) (names : List String) : List Cond := (Bundle.messageArmAtoms X names).filter vx_no
section
variable {p : Program} {l : Launch} {e : Env} {R : Room} {s : State} {m : MethodId} {args : Array Value} {below : List Frame} {meth : Method} {c : Code} {H : Heap} {locs : List Loc} {cells slots : Nat}
/-- a frame seen from a rebased start, seen from the first start again -/
theorem vx_back9 {T S : State} {R' : Room} {k n : Nat} (X : Stand p l e R s m args below meth c T locs cells slots) (Y : Stand p l e R' ((T.setVm s.vm).setFrames (.invoking m args :: below)) m args below meth c T [] 0 0) (Z : Stand p l e R' ((T.setVm s.vm).setFrames (.invoking m args :: below)) m args below meth c S [] k n) :
    Stand p l e R s m args below meth c S locs (cells + k) (slots + n) := by
  have hW0 : s.WarmedH ((T.setVm s.vm).setFrames (.invoking m args :: below)).vm := State.WarmedH.refl s
  refine { admits := X.admits, cas := X.cas, clock := X.clock, frames := X.frames, room := X.room, hears := X.hears, method := X.method, code := X.code, here := Z.here, tail := Z.tail, warmed := State.WarmedH.trans hW0 Z.warmed, limits := Z.limits.trans (Y.limits.symm.trans X.limits), bytes := Z.bytes.trans (Y.bytes.symm.trans X.bytes), same := ?_ }
  obtain ⟨e1, e2⟩ := Z.same
  rw [State.setFrames_setFrames] at e1
  have h2 : (T.setVm s.vm).sameButNew (S.setVm s.vm) [] k n := ⟨e1, e2⟩
  have h3 := X.same.trans h2
  rw [List.append_nil] at h3
  exact h3
/-- from the machine's note that E is thrown here with this text -/
def vx_Note (p : Program) (l : Launch) (e : Env) (R : Room) (s : State) (m : MethodId) (args : Array Value) (below : List Frame) (meth : Method) (c : Code) (H : Heap) (locs : List Loc) (cells slots : Nat) (Q : State → Prop) (g : JFrame) (E text : String) : Prop :=
  ∀ T : State, T.heap = H → Stand p l e R s m args below meth c T locs cells slots → ∃ t, Steps p.tables e below ((T.setTop g).pushFrame (.throwNew E (some text) none)) t ∧ Q t
theorem vx_vm {pc : Nat} {ls : Array Slot} {rest : List Value} {Q : State → Prop} (hexec : p.tables.exec = Jvm.exec) (hl : l.stackTraces = false) {cls text : String} {names : List String} {nb : Nat} {A : Nat → Prop}
    (hcls : Bundle.fit cls = true) (hnames : ∀ n ∈ names, Bundle.fit n = true) (hsoe : (cls == "java/lang/StackOverflowError") = false) (hoom : (cls == "java/lang/OutOfMemoryError") = false)
    (hat : ∀ w ∈ vx_atM cls names, w.before args s = true) (hgood : ∀ w ∈ vx_atM cls names, vx_ot w = true)
    (hU : vx_Zq Bundle.tN "UNASSIGNED_STACK" Bundle.steD A s s.heap) (hN : vx_Zq Bundle.tN "SUPPRESSED_SENTINEL" Bundle.listD A s s.heap) (hS : va_S A s.heap H locs) (hsize : ls.size = c.maxLocals)
    (htext : (text == notModelled) = false) (hnb : (stringBytes (stringToUtf16 text)).size ≤ nb) (hnb1 : nb ≤ 1000)
    (hRframes : names.length + 4 < R.frames) (hRlocals : (rest.map fun v => v.category).sum + 10240 ≤ R.locals) (hshort : 13 * names.length + 55 ≤ 10240) (hRcells : cells + 3 ≤ R.cells) (hRslots : slots + (nb + 10) ≤ R.slots) (hlocks : meth.locks = false)
    (k : ∀ (H1 : Heap) (q9 : Addr) (ce : Cell), H.size ≤ H1.size → (∀ q : Nat, q < H.size → H1[q]? = H[q]?) → va_S A s.heap H1 locs → H1[q9]? = some ce → ce.vm = .none → s.vm.findClass cls = some ce.cls → vx_W p l e R s m args below meth c H1 locs (cells + 3) (slots + (nb + 10)) Q (F0 m pc ls rest) q9) :
    vx_Note p l e R s m args below meth c H locs cells slots Q (F0 m pc ls rest) cls text := by
  intro T hT X
  have htr : e.platform.stackTraces = false := (show e.platform.stackTraces = l.stackTraces by rw [X.admits.platform]).trans hl
  have Y := vx_rebase X (R' := { frames := R.frames, locals := R.locals, cells := 3, slots := nb + 10 }) (Nat.le_refl _) (Nat.le_refl _) hRcells hRslots
  have hhp : ((T.setVm s.vm).setFrames (.invoking m args :: below)).heap = H := hT
  have hW0 : s.WarmedH ((T.setVm s.vm).setFrames (.invoking m args :: below)).vm := State.WarmedH.refl s
  have hat' : ∀ w ∈ vx_atM cls names, w.before args ((T.setVm s.vm).setFrames (.invoking m args :: below)) = true := fun w hw => vx_ot_at hW0 rfl (hgood w hw) (hat w hw)
  have hU' : vx_Zq Bundle.tN "UNASSIGNED_STACK" Bundle.steD A ((T.setVm s.vm).setFrames (.invoking m args :: below)) ((T.setVm s.vm).setFrames (.invoking m args :: below)).heap := by rw [hhp]; exact vx_Zq.moved hW0.alike (hU.kept hS.2.1)
  have hN' : vx_Zq Bundle.tN "SUPPRESSED_SENTINEL" Bundle.listD A ((T.setVm s.vm).setFrames (.invoking m args :: below)) ((T.setVm s.vm).setFrames (.invoking m args :: below)).heap := by rw [hhp]; exact vx_Zq.moved hW0.alike (hN.kept hS.2.1)
  obtain ⟨S, q, ce, st, Z, hce, hcl', hv⟩ := vx_vmAt Y hexec htr (cls := cls) (names := names) (text := text) hcls hnames hsoe hoom (vx_own hat' (vx_isRefq hU'.1) (vx_isRefq hN'.1) hU'.2.word hN'.2.word) (fun x hx => nomatch hx) htext
    (by rw [Launch.admits_arrayLengthLimit X.admits]; omega) (by rw [Launch.admits_maxHeapBytes X.admits]; simp only [componentBytes]; omega)
    (g := F0 m pc ls rest) rfl hsize hRframes (by show 2 * 0 + (rest.map fun v => v.category).sum + 10240 ≤ R.locals; omega) hshort (by show 0 + 3 ≤ 3; omega) (by show 0 + (_ + 4 + 6) ≤ nb + 10; omega) hlocks
  obtain ⟨f1, f2⟩ := vx_frame Z.same
  have f1' : H.size ≤ S.heap.size := by rw [← hT]; exact f1
  have f2' : ∀ q : Nat, q < H.size → S.heap[q]? = H[q]? := fun q hq => by
    rw [← hT]
    exact f2 q (by rw [← hT] at hq; exact hq) (fun z hz => nomatch hz)
  have X5 := vx_back9 X Y Z
  have X6 : Stand p l e R s m args below meth c S locs (cells + 3) (slots + (nb + 10)) := { X5 with same := X5.same.mono (by omega) (by omega) }
  obtain ⟨t, a1, b1⟩ := k S.heap q ce f1' f2' ⟨Nat.le_trans hS.1 f1', fun q h1 h2 => (f2' q (Nat.lt_of_lt_of_le h1 hS.1)).trans (hS.2.1 q h1 h2), hS.2.2⟩ hce hv hcl' S rfl X6
  exact ⟨t, st t a1, b1⟩
/-- from the machine's note that NullPointerException is thrown here -/
def vx_NoteN (p : Program) (l : Launch) (e : Env) (R : Room) (s : State) (m : MethodId) (args : Array Value) (below : List Frame) (meth : Method) (c : Code) (H : Heap) (locs : List Loc) (cells slots : Nat) (Q : State → Prop) (g : JFrame) : Prop :=
  ∀ T : State, T.heap = H → Stand p l e R s m args below meth c T locs cells slots → ∃ t, Steps p.tables e below ((T.setTop g).pushFrame (.throwNew "java/lang/NullPointerException" none none)) t ∧ Q t
theorem vx_npe {pc : Nat} {ls : Array Slot} {rest : List Value} {Q : State → Prop} (hexec : p.tables.exec = Jvm.exec) (hl : l.stackTraces = false) {nb : Nat} {A : Nat → Prop}
    (hat : ∀ w ∈ vx_atN nb, w.before args s = true) (hgood : ∀ w ∈ vx_atN nb, vx_ot w = true)
    (hU : vx_Zq Bundle.tN "UNASSIGNED_STACK" Bundle.steD A s s.heap) (hN : vx_Zq Bundle.tN "SUPPRESSED_SENTINEL" Bundle.listD A s s.heap) (hS : va_S A s.heap H locs) (hsize : ls.size = c.maxLocals)
    (hRframes : 7 < R.frames) (hRlocals : (rest.map fun v => v.category).sum + 10240 ≤ R.locals) (hRcells : cells + 1 ≤ R.cells) (hRslots : slots + nb ≤ R.slots) (hlocks : meth.locks = false)
    (k : ∀ (H1 : Heap) (q9 : Addr) (ce : Cell), H.size ≤ H1.size → (∀ q : Nat, q < H.size → H1[q]? = H[q]?) → va_S A s.heap H1 locs → H1[q9]? = some ce → ce.vm = .none → s.vm.findClass "java/lang/NullPointerException" = some ce.cls → vx_W p l e R s m args below meth c H1 locs (cells + 1) (slots + nb) Q (F0 m pc ls rest) q9) :
    vx_NoteN p l e R s m args below meth c H locs cells slots Q (F0 m pc ls rest) := by
  intro T hT X
  have htr : e.platform.stackTraces = false := (show e.platform.stackTraces = l.stackTraces by rw [X.admits.platform]).trans hl
  have Y := vx_rebase X (R' := { frames := R.frames, locals := R.locals, cells := 1, slots := nb }) (Nat.le_refl _) (Nat.le_refl _) hRcells hRslots
  have hhp : ((T.setVm s.vm).setFrames (.invoking m args :: below)).heap = H := hT
  have hW0 : s.WarmedH ((T.setVm s.vm).setFrames (.invoking m args :: below)).vm := State.WarmedH.refl s
  have hat' : ∀ w ∈ vx_atN nb, w.before args ((T.setVm s.vm).setFrames (.invoking m args :: below)) = true := fun w hw => vx_ot_at hW0 rfl (hgood w hw) (hat w hw)
  have hU' : vx_Zq Bundle.tN "UNASSIGNED_STACK" Bundle.steD A ((T.setVm s.vm).setFrames (.invoking m args :: below)) ((T.setVm s.vm).setFrames (.invoking m args :: below)).heap := by rw [hhp]; exact vx_Zq.moved hW0.alike (hU.kept hS.2.1)
  have hN' : vx_Zq Bundle.tN "SUPPRESSED_SENTINEL" Bundle.listD A ((T.setVm s.vm).setFrames (.invoking m args :: below)) ((T.setVm s.vm).setFrames (.invoking m args :: below)).heap := by rw [hhp]; exact vx_Zq.moved hW0.alike (hN.kept hS.2.1)
  obtain ⟨S, q, ce, st, Z, hce, hcl', hv⟩ := vx_npeAt Y hexec htr (n := nb) (vx_own hat' (vx_isRefq hU'.1) (vx_isRefq hN'.1) hU'.2.word hN'.2.word) (fun x hx => nomatch hx)
    (g := F0 m pc ls rest) rfl hsize hRframes (by show 2 * 0 + (rest.map fun v => v.category).sum + 10240 ≤ R.locals; omega) (by show 0 + 1 ≤ 1; omega) (by show 0 + nb ≤ nb; omega) hlocks
  obtain ⟨f1, f2⟩ := vx_frame Z.same
  have f1' : H.size ≤ S.heap.size := by rw [← hT]; exact f1
  have f2' : ∀ q : Nat, q < H.size → S.heap[q]? = H[q]? := fun q hq => by
    rw [← hT]
    exact f2 q (by rw [← hT] at hq; exact hq) (fun z hz => nomatch hz)
  have X5 := vx_back9 X Y Z
  have X6 : Stand p l e R s m args below meth c S locs (cells + 1) (slots + nb) := { X5 with same := X5.same.mono (by omega) (by omega) }
  obtain ⟨t, a1, b1⟩ := k S.heap q ce f1' f2' ⟨Nat.le_trans hS.1 f1', fun q h1 h2 => (f2' q (Nat.lt_of_lt_of_le h1 hS.1)).trans (hS.2.1 q h1 h2), hS.2.2⟩ hce hv hcl' S rfl X6
  exact ⟨t, st t a1, b1⟩
variable {Q : State → Prop} {cc : ByteArray} {pc : Nat} {ls : Array Slot} {rest : List Value}
theorem vx_idivZ (hexec : p.tables.exec = Jvm.exec) (hb : c.code = cc) {a b : Int32} (h0 : b = 0) (d : decode cc pc = .ok (.idiv, 1)) (k : vx_Note p l e R s m args below meth c H locs cells slots Q (F0 m pc ls rest) "java/lang/ArithmeticException" "/ by zero") :
    W p l e R s m args below meth c H locs cells slots Q (F0 m pc ls (.int b :: .int a :: rest)) := by
  intro T hT X
  obtain ⟨t, st, q⟩ := k T hT X
  exact ⟨t, X.idivZero hexec (g := F0 m pc ls (.int b :: .int a :: rest)) rfl (a := a) (rest := rest) (by rw [h0]) (by rw [hb]; exact d) t st, q⟩
theorem vx_iremZ (hexec : p.tables.exec = Jvm.exec) (hb : c.code = cc) {a b : Int32} (h0 : b = 0) (d : decode cc pc = .ok (.irem, 1)) (k : vx_Note p l e R s m args below meth c H locs cells slots Q (F0 m pc ls rest) "java/lang/ArithmeticException" "/ by zero") :
    W p l e R s m args below meth c H locs cells slots Q (F0 m pc ls (.int b :: .int a :: rest)) := by
  intro T hT X
  obtain ⟨t, st, q⟩ := k T hT X
  exact ⟨t, X.iremZero hexec (g := F0 m pc ls (.int b :: .int a :: rest)) rfl (a := a) (rest := rest) (by rw [h0]) (by rw [hb]; exact d) t st, q⟩
theorem vx_ldivZ (hexec : p.tables.exec = Jvm.exec) (hb : c.code = cc) {a b : Int64} (h0 : b = 0) (d : decode cc pc = .ok (.ldiv, 1)) (k : vx_Note p l e R s m args below meth c H locs cells slots Q (F0 m pc ls rest) "java/lang/ArithmeticException" "/ by zero") :
    W p l e R s m args below meth c H locs cells slots Q (F0 m pc ls (.long b :: .long a :: rest)) := by
  intro T hT X
  obtain ⟨t, st, q⟩ := k T hT X
  exact ⟨t, X.ldivZero hexec (g := F0 m pc ls (.long b :: .long a :: rest)) rfl (a := a) (rest := rest) (by rw [h0]) (by rw [hb]; exact d) t st, q⟩
theorem vx_lremZ (hexec : p.tables.exec = Jvm.exec) (hb : c.code = cc) {a b : Int64} (h0 : b = 0) (d : decode cc pc = .ok (.lrem, 1)) (k : vx_Note p l e R s m args below meth c H locs cells slots Q (F0 m pc ls rest) "java/lang/ArithmeticException" "/ by zero") :
    W p l e R s m args below meth c H locs cells slots Q (F0 m pc ls (.long b :: .long a :: rest)) := by
  intro T hT X
  obtain ⟨t, st, q⟩ := k T hT X
  exact ⟨t, X.lremZero hexec (g := F0 m pc ls (.long b :: .long a :: rest)) rfl (a := a) (rest := rest) (by rw [h0]) (by rw [hb]; exact d) t st, q⟩
theorem vx_ialdZ {D : va_G} {cl : List vw_C} {ws : va_W} {tys : List (ClassId × FieldType)} {a : Nat} (hexec : p.tables.exec = Jvm.exec) (hb : c.code = cc) (hK : va_K D cl tys s) (hP : va_P D cl ws H) (q0 t0 : Nat) {cA : ClassId} {n : Nat} {f : Nat → Int32} (ha : ws[q0]? = some (a, .inl (cA, n, .inl f))) (ht : tys[t0]? = some (cA, .int)) {i : Int32} (hout : ¬ vp_in i n) (hdg : decode cc pc = .ok (.iaload, 1))
    (k : ∀ tx : String, tx = (toString "Index " ++ toString i ++ toString " out of bounds for length " ++ toString n : String) → vx_Note p l e R s m args below meth c H locs cells slots Q (F0 m pc ls rest) "java/lang/ArrayIndexOutOfBoundsException" tx) : W p l e R s m args below meth c H locs cells slots Q (F0 m pc ls (.int i :: .ref a :: rest)) := by
  intro T hT X
  obtain ⟨t, st, q⟩ := k _ rfl T hT X
  refine ⟨t, ?_, q⟩
  have h1 := X.ialoadOut hexec (by rw [hT]; exact hP q0 _ ha) ((hK.2 t0 _ ht).1 n (fun j => .int (f j))) (j := i) (by show (i < 0 ∨ (arrV _ _ _).slots.size ≤ _); rw [arrV_size]; exact Classical.byContradiction hout) (g := F0 m pc ls (.int i :: .ref a :: rest)) rfl (rest := rest) rfl (by rw [hb]; exact hdg) t
  simp only [arrV_size] at h1
  exact h1 st
theorem vx_iastZ {D : va_G} {cl : List vw_C} {ws : va_W} {tys : List (ClassId × FieldType)} {a : Nat} (hexec : p.tables.exec = Jvm.exec) (hb : c.code = cc) (hK : va_K D cl tys s) (hP : va_P D cl ws H) (q0 t0 : Nat) {cA : ClassId} {n : Nat} {f : Nat → Int32} (ha : ws[q0]? = some (a, .inl (cA, n, .inl f))) (ht : tys[t0]? = some (cA, .int)) {i : Int32} {x : Int32} (hout : ¬ vp_in i n) (hdg : decode cc pc = .ok (.iastore, 1))
    (k : ∀ tx : String, tx = (toString "Index " ++ toString i ++ toString " out of bounds for length " ++ toString n : String) → vx_Note p l e R s m args below meth c H locs cells slots Q (F0 m pc ls rest) "java/lang/ArrayIndexOutOfBoundsException" tx) : W p l e R s m args below meth c H locs cells slots Q (F0 m pc ls (.int x :: .int i :: .ref a :: rest)) := by
  intro T hT X
  obtain ⟨t, st, q⟩ := k _ rfl T hT X
  refine ⟨t, ?_, q⟩
  have h1 := X.iastoreOut hexec (by rw [hT]; exact hP q0 _ ha) ((hK.2 t0 _ ht).1 n (fun j => .int (f j))) (j := i) (by show (i < 0 ∨ (arrV _ _ _).slots.size ≤ _); rw [arrV_size]; exact Classical.byContradiction hout) (g := F0 m pc ls (.int x :: .int i :: .ref a :: rest)) rfl (rest := rest) rfl (by rw [hb]; exact hdg) t
  simp only [arrV_size] at h1
  exact h1 st
theorem vx_baldZ {D : va_G} {cl : List vw_C} {ws : va_W} {tys : List (ClassId × FieldType)} {a : Nat} (hexec : p.tables.exec = Jvm.exec) (hb : c.code = cc) (hK : va_K D cl tys s) (hP : va_P D cl ws H) (q0 t0 : Nat) {cA : ClassId} {n : Nat} {f : Nat → Int32} (ha : ws[q0]? = some (a, .inl (cA, n, .inl f))) (ht : tys[t0]? = some (cA, .byte)) {i : Int32} (hout : ¬ vp_in i n) (hdg : decode cc pc = .ok (.baload, 1))
    (k : ∀ tx : String, tx = (toString "Index " ++ toString i ++ toString " out of bounds for length " ++ toString n : String) → vx_Note p l e R s m args below meth c H locs cells slots Q (F0 m pc ls rest) "java/lang/ArrayIndexOutOfBoundsException" tx) : W p l e R s m args below meth c H locs cells slots Q (F0 m pc ls (.int i :: .ref a :: rest)) := by
  intro T hT X
  obtain ⟨t, st, q⟩ := k _ rfl T hT X
  refine ⟨t, ?_, q⟩
  have h1 := X.baloadOut hexec (by rw [hT]; exact hP q0 _ ha) ((hK.2 t0 _ ht).1 n (fun j => .int (f j))) (j := i) (by show (i < 0 ∨ (arrV _ _ _).slots.size ≤ _); rw [arrV_size]; exact Classical.byContradiction hout) (g := F0 m pc ls (.int i :: .ref a :: rest)) rfl (rest := rest) rfl (by rw [hb]; exact hdg) t
  simp only [arrV_size] at h1
  exact h1 st
theorem vx_bastZ {D : va_G} {cl : List vw_C} {ws : va_W} {tys : List (ClassId × FieldType)} {a : Nat} (hexec : p.tables.exec = Jvm.exec) (hb : c.code = cc) (hK : va_K D cl tys s) (hP : va_P D cl ws H) (q0 t0 : Nat) {cA : ClassId} {n : Nat} {f : Nat → Int32} (ha : ws[q0]? = some (a, .inl (cA, n, .inl f))) (ht : tys[t0]? = some (cA, .byte)) {i : Int32} {x : Int32} (hout : ¬ vp_in i n) (hdg : decode cc pc = .ok (.bastore, 1))
    (k : ∀ tx : String, tx = (toString "Index " ++ toString i ++ toString " out of bounds for length " ++ toString n : String) → vx_Note p l e R s m args below meth c H locs cells slots Q (F0 m pc ls rest) "java/lang/ArrayIndexOutOfBoundsException" tx) : W p l e R s m args below meth c H locs cells slots Q (F0 m pc ls (.int x :: .int i :: .ref a :: rest)) := by
  intro T hT X
  obtain ⟨t, st, q⟩ := k _ rfl T hT X
  refine ⟨t, ?_, q⟩
  have h1 := X.bastoreOut hexec (by rw [hT]; exact hP q0 _ ha) ((hK.2 t0 _ ht).1 n (fun j => .int (f j))) (j := i) (by show (i < 0 ∨ (arrV _ _ _).slots.size ≤ _); rw [arrV_size]; exact Classical.byContradiction hout) (g := F0 m pc ls (.int x :: .int i :: .ref a :: rest)) rfl (rest := rest) rfl (by rw [hb]; exact hdg) t
  simp only [arrV_size] at h1
  exact h1 st
theorem vx_zaldZ {D : va_G} {cl : List vw_C} {ws : va_W} {tys : List (ClassId × FieldType)} {a : Nat} (hexec : p.tables.exec = Jvm.exec) (hb : c.code = cc) (hK : va_K D cl tys s) (hP : va_P D cl ws H) (q0 t0 : Nat) {cA : ClassId} {n : Nat} {f : Nat → Int32} (ha : ws[q0]? = some (a, .inl (cA, n, .inl f))) (ht : tys[t0]? = some (cA, .boolean)) {i : Int32} (hout : ¬ vp_in i n) (hdg : decode cc pc = .ok (.baload, 1))
    (k : ∀ tx : String, tx = (toString "Index " ++ toString i ++ toString " out of bounds for length " ++ toString n : String) → vx_Note p l e R s m args below meth c H locs cells slots Q (F0 m pc ls rest) "java/lang/ArrayIndexOutOfBoundsException" tx) : W p l e R s m args below meth c H locs cells slots Q (F0 m pc ls (.int i :: .ref a :: rest)) := by
  intro T hT X
  obtain ⟨t, st, q⟩ := k _ rfl T hT X
  refine ⟨t, ?_, q⟩
  have h1 := X.baloadOut hexec (by rw [hT]; exact hP q0 _ ha) ((hK.2 t0 _ ht).1 n (fun j => .int (f j))) (j := i) (by show (i < 0 ∨ (arrV _ _ _).slots.size ≤ _); rw [arrV_size]; exact Classical.byContradiction hout) (g := F0 m pc ls (.int i :: .ref a :: rest)) rfl (rest := rest) rfl (by rw [hb]; exact hdg) t
  simp only [arrV_size] at h1
  exact h1 st
theorem vx_zastZ {D : va_G} {cl : List vw_C} {ws : va_W} {tys : List (ClassId × FieldType)} {a : Nat} (hexec : p.tables.exec = Jvm.exec) (hb : c.code = cc) (hK : va_K D cl tys s) (hP : va_P D cl ws H) (q0 t0 : Nat) {cA : ClassId} {n : Nat} {f : Nat → Int32} (ha : ws[q0]? = some (a, .inl (cA, n, .inl f))) (ht : tys[t0]? = some (cA, .boolean)) {i : Int32} {x : Int32} (hout : ¬ vp_in i n) (hdg : decode cc pc = .ok (.bastore, 1))
    (k : ∀ tx : String, tx = (toString "Index " ++ toString i ++ toString " out of bounds for length " ++ toString n : String) → vx_Note p l e R s m args below meth c H locs cells slots Q (F0 m pc ls rest) "java/lang/ArrayIndexOutOfBoundsException" tx) : W p l e R s m args below meth c H locs cells slots Q (F0 m pc ls (.int x :: .int i :: .ref a :: rest)) := by
  intro T hT X
  obtain ⟨t, st, q⟩ := k _ rfl T hT X
  refine ⟨t, ?_, q⟩
  have h1 := X.bastoreOut hexec (by rw [hT]; exact hP q0 _ ha) ((hK.2 t0 _ ht).1 n (fun j => .int (f j))) (j := i) (by show (i < 0 ∨ (arrV _ _ _).slots.size ≤ _); rw [arrV_size]; exact Classical.byContradiction hout) (g := F0 m pc ls (.int x :: .int i :: .ref a :: rest)) rfl (rest := rest) rfl (by rw [hb]; exact hdg) t
  simp only [arrV_size] at h1
  exact h1 st
theorem vx_caldZ {D : va_G} {cl : List vw_C} {ws : va_W} {tys : List (ClassId × FieldType)} {a : Nat} (hexec : p.tables.exec = Jvm.exec) (hb : c.code = cc) (hK : va_K D cl tys s) (hP : va_P D cl ws H) (q0 t0 : Nat) {cA : ClassId} {n : Nat} {f : Nat → Int32} (ha : ws[q0]? = some (a, .inl (cA, n, .inl f))) (ht : tys[t0]? = some (cA, .char)) {i : Int32} (hout : ¬ vp_in i n) (hdg : decode cc pc = .ok (.caload, 1))
    (k : ∀ tx : String, tx = (toString "Index " ++ toString i ++ toString " out of bounds for length " ++ toString n : String) → vx_Note p l e R s m args below meth c H locs cells slots Q (F0 m pc ls rest) "java/lang/ArrayIndexOutOfBoundsException" tx) : W p l e R s m args below meth c H locs cells slots Q (F0 m pc ls (.int i :: .ref a :: rest)) := by
  intro T hT X
  obtain ⟨t, st, q⟩ := k _ rfl T hT X
  refine ⟨t, ?_, q⟩
  have h1 := X.caloadOut hexec (by rw [hT]; exact hP q0 _ ha) ((hK.2 t0 _ ht).1 n (fun j => .int (f j))) (j := i) (by show (i < 0 ∨ (arrV _ _ _).slots.size ≤ _); rw [arrV_size]; exact Classical.byContradiction hout) (g := F0 m pc ls (.int i :: .ref a :: rest)) rfl (rest := rest) rfl (by rw [hb]; exact hdg) t
  simp only [arrV_size] at h1
  exact h1 st
theorem vx_castZ {D : va_G} {cl : List vw_C} {ws : va_W} {tys : List (ClassId × FieldType)} {a : Nat} (hexec : p.tables.exec = Jvm.exec) (hb : c.code = cc) (hK : va_K D cl tys s) (hP : va_P D cl ws H) (q0 t0 : Nat) {cA : ClassId} {n : Nat} {f : Nat → Int32} (ha : ws[q0]? = some (a, .inl (cA, n, .inl f))) (ht : tys[t0]? = some (cA, .char)) {i : Int32} {x : Int32} (hout : ¬ vp_in i n) (hdg : decode cc pc = .ok (.castore, 1))
    (k : ∀ tx : String, tx = (toString "Index " ++ toString i ++ toString " out of bounds for length " ++ toString n : String) → vx_Note p l e R s m args below meth c H locs cells slots Q (F0 m pc ls rest) "java/lang/ArrayIndexOutOfBoundsException" tx) : W p l e R s m args below meth c H locs cells slots Q (F0 m pc ls (.int x :: .int i :: .ref a :: rest)) := by
  intro T hT X
  obtain ⟨t, st, q⟩ := k _ rfl T hT X
  refine ⟨t, ?_, q⟩
  have h1 := X.castoreOut hexec (by rw [hT]; exact hP q0 _ ha) ((hK.2 t0 _ ht).1 n (fun j => .int (f j))) (j := i) (by show (i < 0 ∨ (arrV _ _ _).slots.size ≤ _); rw [arrV_size]; exact Classical.byContradiction hout) (g := F0 m pc ls (.int x :: .int i :: .ref a :: rest)) rfl (rest := rest) rfl (by rw [hb]; exact hdg) t
  simp only [arrV_size] at h1
  exact h1 st
theorem vx_saldZ {D : va_G} {cl : List vw_C} {ws : va_W} {tys : List (ClassId × FieldType)} {a : Nat} (hexec : p.tables.exec = Jvm.exec) (hb : c.code = cc) (hK : va_K D cl tys s) (hP : va_P D cl ws H) (q0 t0 : Nat) {cA : ClassId} {n : Nat} {f : Nat → Int32} (ha : ws[q0]? = some (a, .inl (cA, n, .inl f))) (ht : tys[t0]? = some (cA, .short)) {i : Int32} (hout : ¬ vp_in i n) (hdg : decode cc pc = .ok (.saload, 1))
    (k : ∀ tx : String, tx = (toString "Index " ++ toString i ++ toString " out of bounds for length " ++ toString n : String) → vx_Note p l e R s m args below meth c H locs cells slots Q (F0 m pc ls rest) "java/lang/ArrayIndexOutOfBoundsException" tx) : W p l e R s m args below meth c H locs cells slots Q (F0 m pc ls (.int i :: .ref a :: rest)) := by
  intro T hT X
  obtain ⟨t, st, q⟩ := k _ rfl T hT X
  refine ⟨t, ?_, q⟩
  have h1 := X.saloadOut hexec (by rw [hT]; exact hP q0 _ ha) ((hK.2 t0 _ ht).1 n (fun j => .int (f j))) (j := i) (by show (i < 0 ∨ (arrV _ _ _).slots.size ≤ _); rw [arrV_size]; exact Classical.byContradiction hout) (g := F0 m pc ls (.int i :: .ref a :: rest)) rfl (rest := rest) rfl (by rw [hb]; exact hdg) t
  simp only [arrV_size] at h1
  exact h1 st
theorem vx_sastZ {D : va_G} {cl : List vw_C} {ws : va_W} {tys : List (ClassId × FieldType)} {a : Nat} (hexec : p.tables.exec = Jvm.exec) (hb : c.code = cc) (hK : va_K D cl tys s) (hP : va_P D cl ws H) (q0 t0 : Nat) {cA : ClassId} {n : Nat} {f : Nat → Int32} (ha : ws[q0]? = some (a, .inl (cA, n, .inl f))) (ht : tys[t0]? = some (cA, .short)) {i : Int32} {x : Int32} (hout : ¬ vp_in i n) (hdg : decode cc pc = .ok (.sastore, 1))
    (k : ∀ tx : String, tx = (toString "Index " ++ toString i ++ toString " out of bounds for length " ++ toString n : String) → vx_Note p l e R s m args below meth c H locs cells slots Q (F0 m pc ls rest) "java/lang/ArrayIndexOutOfBoundsException" tx) : W p l e R s m args below meth c H locs cells slots Q (F0 m pc ls (.int x :: .int i :: .ref a :: rest)) := by
  intro T hT X
  obtain ⟨t, st, q⟩ := k _ rfl T hT X
  refine ⟨t, ?_, q⟩
  have h1 := X.sastoreOut hexec (by rw [hT]; exact hP q0 _ ha) ((hK.2 t0 _ ht).1 n (fun j => .int (f j))) (j := i) (by show (i < 0 ∨ (arrV _ _ _).slots.size ≤ _); rw [arrV_size]; exact Classical.byContradiction hout) (g := F0 m pc ls (.int x :: .int i :: .ref a :: rest)) rfl (rest := rest) rfl (by rw [hb]; exact hdg) t
  simp only [arrV_size] at h1
  exact h1 st
theorem vx_laldZ {D : va_G} {cl : List vw_C} {ws : va_W} {tys : List (ClassId × FieldType)} {a : Nat} (hexec : p.tables.exec = Jvm.exec) (hb : c.code = cc) (hK : va_K D cl tys s) (hP : va_P D cl ws H) (q0 t0 : Nat) {cA : ClassId} {n : Nat} {f : Nat → Int64} (ha : ws[q0]? = some (a, .inl (cA, n, .inr (.inl f)))) (ht : tys[t0]? = some (cA, .long)) {i : Int32} (hout : ¬ vp_in i n) (hdg : decode cc pc = .ok (.laload, 1))
    (k : ∀ tx : String, tx = (toString "Index " ++ toString i ++ toString " out of bounds for length " ++ toString n : String) → vx_Note p l e R s m args below meth c H locs cells slots Q (F0 m pc ls rest) "java/lang/ArrayIndexOutOfBoundsException" tx) : W p l e R s m args below meth c H locs cells slots Q (F0 m pc ls (.int i :: .ref a :: rest)) := by
  intro T hT X
  obtain ⟨t, st, q⟩ := k _ rfl T hT X
  refine ⟨t, ?_, q⟩
  have h1 := X.laloadOut hexec (by rw [hT]; exact hP q0 _ ha) ((hK.2 t0 _ ht).1 n (fun j => .long (f j))) (j := i) (by show (i < 0 ∨ (arrV _ _ _).slots.size ≤ _); rw [arrV_size]; exact Classical.byContradiction hout) (g := F0 m pc ls (.int i :: .ref a :: rest)) rfl (rest := rest) rfl (by rw [hb]; exact hdg) t
  simp only [arrV_size] at h1
  exact h1 st
theorem vx_lastZ {D : va_G} {cl : List vw_C} {ws : va_W} {tys : List (ClassId × FieldType)} {a : Nat} (hexec : p.tables.exec = Jvm.exec) (hb : c.code = cc) (hK : va_K D cl tys s) (hP : va_P D cl ws H) (q0 t0 : Nat) {cA : ClassId} {n : Nat} {f : Nat → Int64} (ha : ws[q0]? = some (a, .inl (cA, n, .inr (.inl f)))) (ht : tys[t0]? = some (cA, .long)) {i : Int32} {x : Int64} (hout : ¬ vp_in i n) (hdg : decode cc pc = .ok (.lastore, 1))
    (k : ∀ tx : String, tx = (toString "Index " ++ toString i ++ toString " out of bounds for length " ++ toString n : String) → vx_Note p l e R s m args below meth c H locs cells slots Q (F0 m pc ls rest) "java/lang/ArrayIndexOutOfBoundsException" tx) : W p l e R s m args below meth c H locs cells slots Q (F0 m pc ls (.long x :: .int i :: .ref a :: rest)) := by
  intro T hT X
  obtain ⟨t, st, q⟩ := k _ rfl T hT X
  refine ⟨t, ?_, q⟩
  have h1 := X.lastoreOut hexec (by rw [hT]; exact hP q0 _ ha) ((hK.2 t0 _ ht).1 n (fun j => .long (f j))) (j := i) (by show (i < 0 ∨ (arrV _ _ _).slots.size ≤ _); rw [arrV_size]; exact Classical.byContradiction hout) (g := F0 m pc ls (.long x :: .int i :: .ref a :: rest)) rfl (rest := rest) rfl (by rw [hb]; exact hdg) t
  simp only [arrV_size] at h1
  exact h1 st
theorem vx_faldZ {D : va_G} {cl : List vw_C} {ws : va_W} {tys : List (ClassId × FieldType)} {a : Nat} (hexec : p.tables.exec = Jvm.exec) (hb : c.code = cc) (hK : va_K D cl tys s) (hP : va_P D cl ws H) (q0 t0 : Nat) {cA : ClassId} {n : Nat} {f : Nat → UInt32} (ha : ws[q0]? = some (a, .inl (cA, n, .inr (.inr (.inl f))))) (ht : tys[t0]? = some (cA, .float)) {i : Int32} (hout : ¬ vp_in i n) (hdg : decode cc pc = .ok (.faload, 1))
    (k : ∀ tx : String, tx = (toString "Index " ++ toString i ++ toString " out of bounds for length " ++ toString n : String) → vx_Note p l e R s m args below meth c H locs cells slots Q (F0 m pc ls rest) "java/lang/ArrayIndexOutOfBoundsException" tx) : W p l e R s m args below meth c H locs cells slots Q (F0 m pc ls (.int i :: .ref a :: rest)) := by
  intro T hT X
  obtain ⟨t, st, q⟩ := k _ rfl T hT X
  refine ⟨t, ?_, q⟩
  have h1 := X.faloadOut hexec (by rw [hT]; exact hP q0 _ ha) ((hK.2 t0 _ ht).1 n (fun j => .float (f j))) (j := i) (by show (i < 0 ∨ (arrV _ _ _).slots.size ≤ _); rw [arrV_size]; exact Classical.byContradiction hout) (g := F0 m pc ls (.int i :: .ref a :: rest)) rfl (rest := rest) rfl (by rw [hb]; exact hdg) t
  simp only [arrV_size] at h1
  exact h1 st
theorem vx_fastZ {D : va_G} {cl : List vw_C} {ws : va_W} {tys : List (ClassId × FieldType)} {a : Nat} (hexec : p.tables.exec = Jvm.exec) (hb : c.code = cc) (hK : va_K D cl tys s) (hP : va_P D cl ws H) (q0 t0 : Nat) {cA : ClassId} {n : Nat} {f : Nat → UInt32} (ha : ws[q0]? = some (a, .inl (cA, n, .inr (.inr (.inl f))))) (ht : tys[t0]? = some (cA, .float)) {i : Int32} {x : UInt32} (hout : ¬ vp_in i n) (hdg : decode cc pc = .ok (.fastore, 1))
    (k : ∀ tx : String, tx = (toString "Index " ++ toString i ++ toString " out of bounds for length " ++ toString n : String) → vx_Note p l e R s m args below meth c H locs cells slots Q (F0 m pc ls rest) "java/lang/ArrayIndexOutOfBoundsException" tx) : W p l e R s m args below meth c H locs cells slots Q (F0 m pc ls (.float x :: .int i :: .ref a :: rest)) := by
  intro T hT X
  obtain ⟨t, st, q⟩ := k _ rfl T hT X
  refine ⟨t, ?_, q⟩
  have h1 := X.fastoreOut hexec (by rw [hT]; exact hP q0 _ ha) ((hK.2 t0 _ ht).1 n (fun j => .float (f j))) (j := i) (by show (i < 0 ∨ (arrV _ _ _).slots.size ≤ _); rw [arrV_size]; exact Classical.byContradiction hout) (g := F0 m pc ls (.float x :: .int i :: .ref a :: rest)) rfl (rest := rest) rfl (by rw [hb]; exact hdg) t
  simp only [arrV_size] at h1
  exact h1 st
theorem vx_daldZ {D : va_G} {cl : List vw_C} {ws : va_W} {tys : List (ClassId × FieldType)} {a : Nat} (hexec : p.tables.exec = Jvm.exec) (hb : c.code = cc) (hK : va_K D cl tys s) (hP : va_P D cl ws H) (q0 t0 : Nat) {cA : ClassId} {n : Nat} {f : Nat → UInt64} (ha : ws[q0]? = some (a, .inl (cA, n, .inr (.inr (.inr (.inl f)))))) (ht : tys[t0]? = some (cA, .double)) {i : Int32} (hout : ¬ vp_in i n) (hdg : decode cc pc = .ok (.daload, 1))
    (k : ∀ tx : String, tx = (toString "Index " ++ toString i ++ toString " out of bounds for length " ++ toString n : String) → vx_Note p l e R s m args below meth c H locs cells slots Q (F0 m pc ls rest) "java/lang/ArrayIndexOutOfBoundsException" tx) : W p l e R s m args below meth c H locs cells slots Q (F0 m pc ls (.int i :: .ref a :: rest)) := by
  intro T hT X
  obtain ⟨t, st, q⟩ := k _ rfl T hT X
  refine ⟨t, ?_, q⟩
  have h1 := X.daloadOut hexec (by rw [hT]; exact hP q0 _ ha) ((hK.2 t0 _ ht).1 n (fun j => .double (f j))) (j := i) (by show (i < 0 ∨ (arrV _ _ _).slots.size ≤ _); rw [arrV_size]; exact Classical.byContradiction hout) (g := F0 m pc ls (.int i :: .ref a :: rest)) rfl (rest := rest) rfl (by rw [hb]; exact hdg) t
  simp only [arrV_size] at h1
  exact h1 st
theorem vx_dastZ {D : va_G} {cl : List vw_C} {ws : va_W} {tys : List (ClassId × FieldType)} {a : Nat} (hexec : p.tables.exec = Jvm.exec) (hb : c.code = cc) (hK : va_K D cl tys s) (hP : va_P D cl ws H) (q0 t0 : Nat) {cA : ClassId} {n : Nat} {f : Nat → UInt64} (ha : ws[q0]? = some (a, .inl (cA, n, .inr (.inr (.inr (.inl f)))))) (ht : tys[t0]? = some (cA, .double)) {i : Int32} {x : UInt64} (hout : ¬ vp_in i n) (hdg : decode cc pc = .ok (.dastore, 1))
    (k : ∀ tx : String, tx = (toString "Index " ++ toString i ++ toString " out of bounds for length " ++ toString n : String) → vx_Note p l e R s m args below meth c H locs cells slots Q (F0 m pc ls rest) "java/lang/ArrayIndexOutOfBoundsException" tx) : W p l e R s m args below meth c H locs cells slots Q (F0 m pc ls (.double x :: .int i :: .ref a :: rest)) := by
  intro T hT X
  obtain ⟨t, st, q⟩ := k _ rfl T hT X
  refine ⟨t, ?_, q⟩
  have h1 := X.dastoreOut hexec (by rw [hT]; exact hP q0 _ ha) ((hK.2 t0 _ ht).1 n (fun j => .double (f j))) (j := i) (by show (i < 0 ∨ (arrV _ _ _).slots.size ≤ _); rw [arrV_size]; exact Classical.byContradiction hout) (g := F0 m pc ls (.double x :: .int i :: .ref a :: rest)) rfl (rest := rest) rfl (by rw [hb]; exact hdg) t
  simp only [arrV_size] at h1
  exact h1 st
theorem vx_arraylengthN (hexec : p.tables.exec = Jvm.exec) (hb : c.code = cc) (hdg : decode cc pc = .ok (.arraylength, 1)) (k : vx_NoteN p l e R s m args below meth c H locs cells slots Q (F0 m pc ls rest)) : W p l e R s m args below meth c H locs cells slots Q (F0 m pc ls (.null :: rest)) := by
  intro T hT X
  obtain ⟨t, st, q⟩ := k T hT X
  exact ⟨t, X.arraylengthNull hexec (g := F0 m pc ls (.null :: rest)) rfl (rest := rest) rfl (by rw [hb]; exact hdg) t st, q⟩
theorem vx_ialoadN (hexec : p.tables.exec = Jvm.exec) (hb : c.code = cc) {i : Int32} (hdg : decode cc pc = .ok (.iaload, 1)) (k : vx_NoteN p l e R s m args below meth c H locs cells slots Q (F0 m pc ls rest)) : W p l e R s m args below meth c H locs cells slots Q (F0 m pc ls (.int i :: .null :: rest)) := by
  intro T hT X
  obtain ⟨t, st, q⟩ := k T hT X
  exact ⟨t, X.ialoadNull hexec (g := F0 m pc ls (.int i :: .null :: rest)) rfl (rest := rest) rfl (by rw [hb]; exact hdg) t st, q⟩
theorem vx_laloadN (hexec : p.tables.exec = Jvm.exec) (hb : c.code = cc) {i : Int32} (hdg : decode cc pc = .ok (.laload, 1)) (k : vx_NoteN p l e R s m args below meth c H locs cells slots Q (F0 m pc ls rest)) : W p l e R s m args below meth c H locs cells slots Q (F0 m pc ls (.int i :: .null :: rest)) := by
  intro T hT X
  obtain ⟨t, st, q⟩ := k T hT X
  exact ⟨t, X.laloadNull hexec (g := F0 m pc ls (.int i :: .null :: rest)) rfl (rest := rest) rfl (by rw [hb]; exact hdg) t st, q⟩
theorem vx_faloadN (hexec : p.tables.exec = Jvm.exec) (hb : c.code = cc) {i : Int32} (hdg : decode cc pc = .ok (.faload, 1)) (k : vx_NoteN p l e R s m args below meth c H locs cells slots Q (F0 m pc ls rest)) : W p l e R s m args below meth c H locs cells slots Q (F0 m pc ls (.int i :: .null :: rest)) := by
  intro T hT X
  obtain ⟨t, st, q⟩ := k T hT X
  exact ⟨t, X.faloadNull hexec (g := F0 m pc ls (.int i :: .null :: rest)) rfl (rest := rest) rfl (by rw [hb]; exact hdg) t st, q⟩
theorem vx_daloadN (hexec : p.tables.exec = Jvm.exec) (hb : c.code = cc) {i : Int32} (hdg : decode cc pc = .ok (.daload, 1)) (k : vx_NoteN p l e R s m args below meth c H locs cells slots Q (F0 m pc ls rest)) : W p l e R s m args below meth c H locs cells slots Q (F0 m pc ls (.int i :: .null :: rest)) := by
  intro T hT X
  obtain ⟨t, st, q⟩ := k T hT X
  exact ⟨t, X.daloadNull hexec (g := F0 m pc ls (.int i :: .null :: rest)) rfl (rest := rest) rfl (by rw [hb]; exact hdg) t st, q⟩
theorem vx_aaloadN (hexec : p.tables.exec = Jvm.exec) (hb : c.code = cc) {i : Int32} (hdg : decode cc pc = .ok (.aaload, 1)) (k : vx_NoteN p l e R s m args below meth c H locs cells slots Q (F0 m pc ls rest)) : W p l e R s m args below meth c H locs cells slots Q (F0 m pc ls (.int i :: .null :: rest)) := by
  intro T hT X
  obtain ⟨t, st, q⟩ := k T hT X
  exact ⟨t, X.aaloadNull hexec (g := F0 m pc ls (.int i :: .null :: rest)) rfl (rest := rest) rfl (by rw [hb]; exact hdg) t st, q⟩
theorem vx_baloadN (hexec : p.tables.exec = Jvm.exec) (hb : c.code = cc) {i : Int32} (hdg : decode cc pc = .ok (.baload, 1)) (k : vx_NoteN p l e R s m args below meth c H locs cells slots Q (F0 m pc ls rest)) : W p l e R s m args below meth c H locs cells slots Q (F0 m pc ls (.int i :: .null :: rest)) := by
  intro T hT X
  obtain ⟨t, st, q⟩ := k T hT X
  exact ⟨t, X.baloadNull hexec (g := F0 m pc ls (.int i :: .null :: rest)) rfl (rest := rest) rfl (by rw [hb]; exact hdg) t st, q⟩
theorem vx_caloadN (hexec : p.tables.exec = Jvm.exec) (hb : c.code = cc) {i : Int32} (hdg : decode cc pc = .ok (.caload, 1)) (k : vx_NoteN p l e R s m args below meth c H locs cells slots Q (F0 m pc ls rest)) : W p l e R s m args below meth c H locs cells slots Q (F0 m pc ls (.int i :: .null :: rest)) := by
  intro T hT X
  obtain ⟨t, st, q⟩ := k T hT X
  exact ⟨t, X.caloadNull hexec (g := F0 m pc ls (.int i :: .null :: rest)) rfl (rest := rest) rfl (by rw [hb]; exact hdg) t st, q⟩
theorem vx_saloadN (hexec : p.tables.exec = Jvm.exec) (hb : c.code = cc) {i : Int32} (hdg : decode cc pc = .ok (.saload, 1)) (k : vx_NoteN p l e R s m args below meth c H locs cells slots Q (F0 m pc ls rest)) : W p l e R s m args below meth c H locs cells slots Q (F0 m pc ls (.int i :: .null :: rest)) := by
  intro T hT X
  obtain ⟨t, st, q⟩ := k T hT X
  exact ⟨t, X.saloadNull hexec (g := F0 m pc ls (.int i :: .null :: rest)) rfl (rest := rest) rfl (by rw [hb]; exact hdg) t st, q⟩
theorem vx_iastoreN (hexec : p.tables.exec = Jvm.exec) (hb : c.code = cc) {x : Int32} {i : Int32} (hdg : decode cc pc = .ok (.iastore, 1)) (k : vx_NoteN p l e R s m args below meth c H locs cells slots Q (F0 m pc ls rest)) : W p l e R s m args below meth c H locs cells slots Q (F0 m pc ls (.int x :: .int i :: .null :: rest)) := by
  intro T hT X
  obtain ⟨t, st, q⟩ := k T hT X
  exact ⟨t, X.iastoreNull hexec (g := F0 m pc ls (.int x :: .int i :: .null :: rest)) rfl (rest := rest) rfl (by rw [hb]; exact hdg) t st, q⟩
theorem vx_lastoreN (hexec : p.tables.exec = Jvm.exec) (hb : c.code = cc) {x : Int64} {i : Int32} (hdg : decode cc pc = .ok (.lastore, 1)) (k : vx_NoteN p l e R s m args below meth c H locs cells slots Q (F0 m pc ls rest)) : W p l e R s m args below meth c H locs cells slots Q (F0 m pc ls (.long x :: .int i :: .null :: rest)) := by
  intro T hT X
  obtain ⟨t, st, q⟩ := k T hT X
  exact ⟨t, X.lastoreNull hexec (g := F0 m pc ls (.long x :: .int i :: .null :: rest)) rfl (rest := rest) rfl (by rw [hb]; exact hdg) t st, q⟩
theorem vx_fastoreN (hexec : p.tables.exec = Jvm.exec) (hb : c.code = cc) {x : UInt32} {i : Int32} (hdg : decode cc pc = .ok (.fastore, 1)) (k : vx_NoteN p l e R s m args below meth c H locs cells slots Q (F0 m pc ls rest)) : W p l e R s m args below meth c H locs cells slots Q (F0 m pc ls (.float x :: .int i :: .null :: rest)) := by
  intro T hT X
  obtain ⟨t, st, q⟩ := k T hT X
  exact ⟨t, X.fastoreNull hexec (g := F0 m pc ls (.float x :: .int i :: .null :: rest)) rfl (rest := rest) rfl (by rw [hb]; exact hdg) t st, q⟩
theorem vx_dastoreN (hexec : p.tables.exec = Jvm.exec) (hb : c.code = cc) {x : UInt64} {i : Int32} (hdg : decode cc pc = .ok (.dastore, 1)) (k : vx_NoteN p l e R s m args below meth c H locs cells slots Q (F0 m pc ls rest)) : W p l e R s m args below meth c H locs cells slots Q (F0 m pc ls (.double x :: .int i :: .null :: rest)) := by
  intro T hT X
  obtain ⟨t, st, q⟩ := k T hT X
  exact ⟨t, X.dastoreNull hexec (g := F0 m pc ls (.double x :: .int i :: .null :: rest)) rfl (rest := rest) rfl (by rw [hb]; exact hdg) t st, q⟩
theorem vx_bastoreN (hexec : p.tables.exec = Jvm.exec) (hb : c.code = cc) {x : Int32} {i : Int32} (hdg : decode cc pc = .ok (.bastore, 1)) (k : vx_NoteN p l e R s m args below meth c H locs cells slots Q (F0 m pc ls rest)) : W p l e R s m args below meth c H locs cells slots Q (F0 m pc ls (.int x :: .int i :: .null :: rest)) := by
  intro T hT X
  obtain ⟨t, st, q⟩ := k T hT X
  exact ⟨t, X.bastoreNull hexec (g := F0 m pc ls (.int x :: .int i :: .null :: rest)) rfl (rest := rest) rfl (by rw [hb]; exact hdg) t st, q⟩
theorem vx_castoreN (hexec : p.tables.exec = Jvm.exec) (hb : c.code = cc) {x : Int32} {i : Int32} (hdg : decode cc pc = .ok (.castore, 1)) (k : vx_NoteN p l e R s m args below meth c H locs cells slots Q (F0 m pc ls rest)) : W p l e R s m args below meth c H locs cells slots Q (F0 m pc ls (.int x :: .int i :: .null :: rest)) := by
  intro T hT X
  obtain ⟨t, st, q⟩ := k T hT X
  exact ⟨t, X.castoreNull hexec (g := F0 m pc ls (.int x :: .int i :: .null :: rest)) rfl (rest := rest) rfl (by rw [hb]; exact hdg) t st, q⟩
theorem vx_sastoreN (hexec : p.tables.exec = Jvm.exec) (hb : c.code = cc) {x : Int32} {i : Int32} (hdg : decode cc pc = .ok (.sastore, 1)) (k : vx_NoteN p l e R s m args below meth c H locs cells slots Q (F0 m pc ls rest)) : W p l e R s m args below meth c H locs cells slots Q (F0 m pc ls (.int x :: .int i :: .null :: rest)) := by
  intro T hT X
  obtain ⟨t, st, q⟩ := k T hT X
  exact ⟨t, X.sastoreNull hexec (g := F0 m pc ls (.int x :: .int i :: .null :: rest)) rfl (rest := rest) rfl (by rw [hb]; exact hdg) t st, q⟩
theorem vx_invokeN {own C : String} {index maxL : Nat} {y : MethodName} {bytes : ByteArray} {ret : Option FieldType} (hexec : p.tables.exec = Jvm.exec) (hb : c.code = cc) (hown : s.vm.findClass own = some m.cls) (hlink : (Cond.methodLink own index y).before args s = true) (hinst : (Cond.instanceMethod y).before args s = true) (hcode : (Cond.code y bytes maxL ret).before args s = true) (hsel : (Cond.selects C y y).before args s = true)
    (hx : y.cls ≠ "java/lang/invoke/MethodHandle" ∧ y.cls ≠ "java/lang/invoke/VarHandle") {As : List Value} (hlen : (parseMethodDescriptor y.desc).map (fun d => d.parameters.length) = some As.length) (hdg : decode cc pc = .ok (.invokevirtual index, 3))
    (k : vx_NoteN p l e R s m args below meth c H locs cells slots Q (F0 m pc ls rest)) {st0 : List Value} (hst : st0 = As.reverse ++ .null :: rest) : W p l e R s m args below meth c H locs cells slots Q (F0 m pc ls st0) := by
  intro T hT X
  obtain ⟨r0, r, hn, hrm, hstR, hsigR⟩ := va_Decl.of hinst hcode
  obtain ⟨c2, r2, m2, q1, q2, q3, q4, kP, hkP, hkPi⟩ := Cond.selects_spec hsel
  cases hn.symm.trans q3
  have hl9 : As.length = r.sig.parameters.length := by
    rw [hsigR] at hlen
    exact (Option.some.inj hlen).symm
  obtain ⟨vm', X1, st1⟩ := X.invokevirtualNull hexec hown hlink hn hrm hstR hkP hkPi hx (g := F0 m pc ls st0) rfl (argsL := As) (rest := rest) hl9 hst (by rw [hb]; exact hdg)
  obtain ⟨t, st, q⟩ := k (T.setVm vm') hT X1
  exact ⟨t, st1 t st, q⟩
theorem vx_newarrayZ {atype : ArrayType} (hexec : p.tables.exec = Jvm.exec) (hb : c.code = cc) {n : Int32} (h0 : n < 0) (hdg : decode cc pc = .ok (.newarray atype, 2)) (k : ∀ tx : String, tx = toString n → vx_Note p l e R s m args below meth c H locs cells slots Q (F0 m pc ls rest) "java/lang/NegativeArraySizeException" tx) : W p l e R s m args below meth c H locs cells slots Q (F0 m pc ls (.int n :: rest)) := by
  intro T hT X
  obtain ⟨t, st, q⟩ := k _ rfl T hT X
  exact ⟨t, X.newarrayNegative hexec (g := F0 m pc ls (.int n :: rest)) rfl h0 (rest := rest) rfl (by rw [hb]; exact hdg) t st, q⟩
end
end VXM
/-! ===== END ===== -/
/-! ===== BEGIN an exception as an object: made, kept, thrown later (no traces kept) ===== -/
section VXK
variable {p : Program} {l : Launch} {e : Env} {R : Room} {s : State} {m₀ : MethodId} {args : Array Value} {below : List Frame} {meth : Method} {c : Code} {W : State} {locs : List Loc} {cells slots : Nat}
set_option maxHeartbeats 1000000 in
theorem vx_ctorMadeS (X : Stand p l e R s m₀ args below meth c W locs cells slots) (hexec : p.tables.exec = Jvm.exec) (htr : e.platform.stackTraces = false) {own cls : String} {names : List String} {ic : Nat}
    (hown : s.vm.findClass own = some m₀.cls) (hcls : Bundle.fit cls = true) (hnames : ∀ n ∈ names, Bundle.fit n = true)
    (h : ∀ a ∈ Bundle.ownAtoms own ic cls names, a.before args s = true)
    (hlocs : ∀ x ∈ locs, ∀ cell, s.heap[x.base]? = some cell → cell.vm.isStatics = false)
    {a : Addr} {cX : ClassId} {kX : Class} (hfoundX : s.vm.findClass cls = some cX) (hkX : s.vm.classes[cX]? = some kX) (hcell : W.heap[a]? = some (freshCell cX kX)) (hnew : s.heap.size ≤ a)
    {msg : Value} (hmsg : msg.isRef = true)
    {g : JFrame} (hg : g.method = m₀) (hsize : g.locals.size = c.maxLocals) {rest : List Value} (hstack : g.stack = msg :: .ref a :: .ref a :: rest)
    (hd6 : decode c.code g.pc = .ok (.invokespecial ic, 3))
    (hRframes : names.length + 3 < R.frames) (hRlocals : 2 * g.monitorRoom + ((Value.ref a :: rest).map fun v => v.category).sum + (13 * (names.length + 1) + 42) ≤ R.locals) :
    ∃ (V : State) (ce : Cell) (L : List Loc), Stand p l e R s m₀ args below meth c (V.setCell a ce) (locs ++ L) cells slots ∧ (∀ y ∈ L, y.base = a) ∧ a < V.heap.size ∧ ce.cls = cX ∧ ce.vm = .none ∧
      ∀ target, Steps p.tables e below ((V.setCell a ce).setTop { g with stack := .ref a :: rest, pc := g.pc + 3 }) target → Steps p.tables e below (W.setTop g) target := by
  have howns : e.platform.frameOwnsMonitors = true := by rw [X.admits.platform]
  have hfin : e.platform.finalization = false := by rw [X.admits.platform]
  have hpl : e.platform.magicAccessors = ({} : Platform).magicAccessors := by rw [X.admits.platform]
  have a' : ∀ x, x ∈ Bundle.ownAtoms own ic cls names → x.holds args s none s [] = true := fun x hx => h x hx
  obtain ⟨T, Z0, L, -, Y⟩ := ThrowableC.of_atoms (args := args) howns hfin hpl (fun x hx => h x (by simp [Bundle.ownAtoms, hx]))
  obtain ⟨Z, M, LZ, LM, hnZ⟩ := Init0T.ofS_atoms (args := args) hpl L Y (fun x hx => h x (by simp [Bundle.ownAtoms, hx]))
  obtain ⟨P1, Ps, hlen, L1, hL, hP1m, hlink1, hlink⟩ := Bundle.chainS (args := args) hpl hnZ names cls hcls hnames (fun x hx => h x (by simp [Bundle.ownAtoms, hx]))
  have hfound : s.vm.findClass cls = some P1.m.cls := findClass_of_methodNamed hP1m
  cases Option.some.inj (hfoundX.symm.trans hfound)
  obtain ⟨c1, kX', hc1, hk, hord, -, -, hn6⟩ := Cond.instantiable_spec (a' (.instantiable cls 6) (by simp [Bundle.ownAtoms]))
  cases Option.some.inj (hc1.symm.trans hfound)
  cases Option.some.inj (hkX.symm.trans hk)
  have hsel0 : selectMethod e.platform s.vm P1.m.cls T.fill0 = .method T.fill0 := by
    obtain ⟨c2, r2, m2, q1, q2, q3, q4, -⟩ := Cond.selects_spec (a' (.selects cls Bundle.tFill0 Bundle.tFill0) (by simp [Bundle.ownAtoms]))
    cases Option.some.inj (q1.symm.trans hfound)
    cases Option.some.inj (q2.symm.trans (State.methodFound?_of_named Y.fill0 (by decide)))
    cases Option.some.inj (q3.symm.trans Y.fill0)
    rw [Launch.admits_selectMethod X.admits]; exact q4
  have hselF : selectMethod e.platform s.vm P1.m.cls T.fill = .method T.fill := by
    obtain ⟨c2, r2, m2, q1, q2, q3, q4, -⟩ := Cond.selects_spec (a' (.selects cls Bundle.tFill Bundle.tFill) (by simp [Bundle.ownAtoms]))
    cases Option.some.inj (q1.symm.trans hfound)
    cases Option.some.inj (q2.symm.trans (State.methodFound?_of_named Y.fill (by decide)))
    cases Option.some.inj (q3.symm.trans Y.fill)
    rw [Launch.admits_selectMethod X.admits]; exact q4
  obtain ⟨cellS0, hcS0, hiss⟩ := Y.statics
  obtain ⟨u0, hu0⟩ := Cond.staticRefV Y.unassigned L.unassignedStatic L.statics hcS0 hiss (a' (.isRef (.static Bundle.tN "UNASSIGNED_STACK" Bundle.steD)) (by simp [Bundle.ownAtoms]))
  obtain ⟨sen, hsen⟩ := Cond.staticRefV Y.sentinel L.sentinelStatic L.statics hcS0 hiss (a' (.isRef (.static Bundle.tN "SUPPRESSED_SENTINEL" Bundle.listD)) (by simp [Bundle.ownAtoms]))
  obtain ⟨ci198, i198, fB, hk198, hg198, ha198, hsB, -, hnB, htB, hffB⟩ := Cond.ownField (t := .object "java/lang/Object") Y.found L.cls (by decide +kernel) (a' (.fieldLink Bundle.tN 198 Bundle.tN "backtrace" "Ljava/lang/Object;") (by simp [Bundle.ownAtoms])) (a' (.lays Bundle.tN Bundle.tN "backtrace" "Ljava/lang/Object;") (by simp [Bundle.ownAtoms])) e.platform hpl
  obtain ⟨cellS, hcS', heS, -, hkeep⟩ := X.same.2.2.2.2.2 T.aS cellS0 hcS0
  have hcellS : W.heap[T.aS]? = some cellS := hcS'
  have hout' : ∀ i, (⟨T.aS, i⟩ : Loc) ∉ locs := fun i hmem => by
    have := hlocs _ hmem cellS0 hcS0
    rw [hiss] at this; cases this
  have hknownS : cellS.vm ≠ .unknown := by
    rw [heS]; intro hu
    rw [show cellS0.vm = .unknown from hu] at hiss
    cases hiss
  have hneS : T.aS ≠ a := Nat.ne_of_lt (Nat.lt_of_lt_of_le (Array.getElem?_eq_some_iff.mp hcS0).1 hnew)
  obtain ⟨iM, hffM⟩ := Y.msg
  obtain ⟨tyC, dC, hdC, hdnC⟩ := Cond.laysAt hfound hk Y.cause (a' (.lays cls Bundle.tN "cause" "Ljava/lang/Throwable;") (by simp [Bundle.ownAtoms]))
  obtain ⟨tyS, dS, hdS, hdnS⟩ := Cond.laysAt hfound hk Y.stack (a' (.lays cls Bundle.tN "stackTrace" Bundle.steD) (by simp [Bundle.ownAtoms]))
  obtain ⟨tyP, dP, hdP, hdnP⟩ := Cond.laysAt hfound hk Y.supp (a' (.lays cls Bundle.tN "suppressedExceptions" Bundle.listD) (by simp [Bundle.ownAtoms]))
  obtain ⟨tyM, dM, hdM, hdnM⟩ := Cond.laysAt hfound hk hffM (a' (.lays cls Bundle.tN "detailMessage" "Ljava/lang/String;") (by simp [Bundle.ownAtoms]))
  obtain ⟨tyB, dB, hdB, hdnB⟩ := Cond.laysAt hfound hk hffB (a' (.lays cls Bundle.tN "backtrace" "Ljava/lang/Object;") (by simp [Bundle.ownAtoms]))
  have bC := Cond.laysApart hdB hdC hdnB hdnC (by rw [hnB, Y.causeName]; decide)
  have bS := Cond.laysApart hdB hdS hdnB hdnS (by rw [hnB, Y.stackName]; decide)
  have bP := Cond.laysApart hdB hdP hdnB hdnP (by rw [hnB, Y.suppName]; decide)
  have hskip : SkipFacts T e.platform s (fun u => u) u0 ((preparedCellV T.toThrowableT (freshCell P1.m.cls kX) a u0 sen).withEntry W.cur) :=
    ⟨{ ci198 := ci198, i198 := i198, fBack := fB }, ⟨hk198, hg198, ha198, hsB⟩, by
      have := fresh_default (c := P1.m.cls) tyB
      rw [htB] at this
      simpa [preparedCellV, Cell.setSlot, Cell.withEntry, Array.getElem?_setIfInBounds, bC, bS, bP, bC.symm, bS.symm, bP.symm, defaultValue] using this, fun _ _ => rfl⟩
  obtain ⟨tm, methC, cdC, kC, vm₁, hnC, -, -, -, -, -, -, -, hW₁, st1⟩ := Steps.initColdS (tb := p.tables) (e := e) (below := below) (s := s) (U := W) X.here hexec X.warmed hpl hown (t := Bundle.initS cls) rfl rfl (Bundle.fit_spec hcls).2
    (a' (.methodLink own ic (Bundle.initS cls)) (by simp [Bundle.ownAtoms])) (h (.instanceMethod (Bundle.initS cls)) (by cases names <;> simp [Bundle.ownAtoms, Bundle.chainSAtoms, Bundle.passSAtoms])) (bytes := Bundle.six) (maxL := 2) (h (.code (Bundle.initS cls) Bundle.six 2 none) (by cases names <;> simp [Bundle.ownAtoms, Bundle.chainSAtoms, Bundle.passSAtoms]))
    (f := g) hg (a := a) (msg := msg) (rest := .ref a :: rest) hstack hd6
  cases Option.some.inj (hnC.symm.trans hP1m)
  have X₁ := X.noted hW₁
  obtain ⟨vm₂, X₂, st2⟩ := X₁.ctorMessageOffV hexec (g := { g with stack := .ref a :: rest }) hg hsize T L Z LZ M LM (P1 :: Ps)
    (fun P hP => by rcases List.mem_cons.mp hP with rfl | hP; exact L1; exact hL P hP) ⟨hlink1, hlink⟩ (u0 := u0) (sen := sen) (self := a) hmsg (cell := freshCell P1.m.cls kX) (cellS := cellS)
    hcell (fun _ => by simp) (by simp) rfl rfl hsel0 hselF hcellS hneS hknownS (by rw [hkeep _ (hout' _)]; exact hu0) (by rw [hkeep _ (hout' _)]; exact hsen)
    (Takes.of_laid hk hord tyC (by rw [Y.causeType]; rfl)) (Takes.of_laid hk hord tyS (by rw [Y.stackType]; exact fits_refV_array _ u0)) (Takes.of_laid hk hord tyP (by rw [Y.suppType]; exact fits_refV_object _ sen))
    (Takes.of_laid hk hord tyM (by rw [Y.msgType]; exact fits_refV_object _ ⟨msg, hmsg⟩)) Y.objLocals hskip htr [] hd6
    (by simp only [List.length_cons, hlen]; omega) (by simp only [List.length_cons, hlen]; exact hRlocals)
  have hlt : a < ((W.setVm vm₁).setVm vm₂).heap.size := (Array.getElem?_eq_some_iff.mp hcell).1
  refine ⟨(W.setVm vm₁).setVm vm₂, _, _, X₂, fun y hy => ?_, hlt, rfl, rfl, fun target hwalk => st1 _ (fun acts => ?_)⟩
  · simp only [List.mem_cons, List.not_mem_nil, or_false] at hy
    rcases hy with rfl | rfl | rfl | rfl | rfl <;> rfl
  · rw [doInvoke_state]
    exact st2 _ hwalk
set_option maxHeartbeats 1000000 in
theorem vx_ctorMade0 (X : Stand p l e R s m₀ args below meth c W locs cells slots) (hexec : p.tables.exec = Jvm.exec) (htr : e.platform.stackTraces = false) {own cls : String} {names : List String} {ic : Nat}
    (hown : s.vm.findClass own = some m₀.cls) (hcls : Bundle.fit cls = true) (hnames : ∀ n ∈ names, Bundle.fit n = true)
    (h : ∀ a ∈ Bundle.ownAtoms0 own ic cls names, a.before args s = true)
    (hlocs : ∀ x ∈ locs, ∀ cell, s.heap[x.base]? = some cell → cell.vm.isStatics = false)
    {a : Addr} {cX : ClassId} {kX : Class} (hfoundX : s.vm.findClass cls = some cX) (hkX : s.vm.classes[cX]? = some kX) (hcell : W.heap[a]? = some (freshCell cX kX)) (hnew : s.heap.size ≤ a)
    {g : JFrame} (hg : g.method = m₀) (hsize : g.locals.size = c.maxLocals) {rest : List Value} (hstack : g.stack = .ref a :: .ref a :: rest)
    (hd6 : decode c.code g.pc = .ok (.invokespecial ic, 3))
    (hRframes : names.length + 3 < R.frames) (hRlocals : 2 * g.monitorRoom + ((Value.ref a :: rest).map fun v => v.category).sum + (13 * (names.length + 1) + 41) ≤ R.locals) :
    ∃ (V : State) (ce : Cell) (L : List Loc), Stand p l e R s m₀ args below meth c (V.setCell a ce) (locs ++ L) cells slots ∧ (∀ y ∈ L, y.base = a) ∧ a < V.heap.size ∧ ce.cls = cX ∧ ce.vm = .none ∧
      ∀ target, Steps p.tables e below ((V.setCell a ce).setTop { g with stack := .ref a :: rest, pc := g.pc + 3 }) target → Steps p.tables e below (W.setTop g) target := by
  have howns : e.platform.frameOwnsMonitors = true := by rw [X.admits.platform]
  have hfin : e.platform.finalization = false := by rw [X.admits.platform]
  have hpl : e.platform.magicAccessors = ({} : Platform).magicAccessors := by rw [X.admits.platform]
  have a' : ∀ x, x ∈ Bundle.ownAtoms0 own ic cls names → x.holds args s none s [] = true := fun x hx => h x hx
  obtain ⟨T, Z, L, LZ, Y⟩ := ThrowableC.of_atoms (args := args) howns hfin hpl (fun x hx => h x (by simp [Bundle.ownAtoms0, hx]))
  obtain ⟨P1, Ps, hlen, L1, hL, hP1m, hlink1, hlink⟩ := Bundle.chain0 (args := args) hpl Y.init0 names cls hcls hnames (fun x hx => h x (by simp [Bundle.ownAtoms0, hx]))
  have hfound : s.vm.findClass cls = some P1.m.cls := findClass_of_methodNamed hP1m
  cases Option.some.inj (hfoundX.symm.trans hfound)
  obtain ⟨c1, kX', hc1, hk, hord, -, -, hn6⟩ := Cond.instantiable_spec (a' (.instantiable cls 6) (by simp [Bundle.ownAtoms0]))
  cases Option.some.inj (hc1.symm.trans hfound)
  cases Option.some.inj (hkX.symm.trans hk)
  have hsel0 : selectMethod e.platform s.vm P1.m.cls T.fill0 = .method T.fill0 := by
    obtain ⟨c2, r2, m2, q1, q2, q3, q4, -⟩ := Cond.selects_spec (a' (.selects cls Bundle.tFill0 Bundle.tFill0) (by simp [Bundle.ownAtoms0]))
    cases Option.some.inj (q1.symm.trans hfound)
    cases Option.some.inj (q2.symm.trans (State.methodFound?_of_named Y.fill0 (by decide)))
    cases Option.some.inj (q3.symm.trans Y.fill0)
    rw [Launch.admits_selectMethod X.admits]; exact q4
  have hselF : selectMethod e.platform s.vm P1.m.cls T.fill = .method T.fill := by
    obtain ⟨c2, r2, m2, q1, q2, q3, q4, -⟩ := Cond.selects_spec (a' (.selects cls Bundle.tFill Bundle.tFill) (by simp [Bundle.ownAtoms0]))
    cases Option.some.inj (q1.symm.trans hfound)
    cases Option.some.inj (q2.symm.trans (State.methodFound?_of_named Y.fill (by decide)))
    cases Option.some.inj (q3.symm.trans Y.fill)
    rw [Launch.admits_selectMethod X.admits]; exact q4
  obtain ⟨cellS0, hcS0, hiss⟩ := Y.statics
  obtain ⟨u0, hu0⟩ := Cond.staticRefV Y.unassigned L.unassignedStatic L.statics hcS0 hiss (a' (.isRef (.static Bundle.tN "UNASSIGNED_STACK" Bundle.steD)) (by simp [Bundle.ownAtoms0]))
  obtain ⟨sen, hsen⟩ := Cond.staticRefV Y.sentinel L.sentinelStatic L.statics hcS0 hiss (a' (.isRef (.static Bundle.tN "SUPPRESSED_SENTINEL" Bundle.listD)) (by simp [Bundle.ownAtoms0]))
  obtain ⟨ci198, i198, fB, hk198, hg198, ha198, hsB, -, hnB, htB, hffB⟩ := Cond.ownField (t := .object "java/lang/Object") Y.found L.cls (by decide +kernel) (a' (.fieldLink Bundle.tN 198 Bundle.tN "backtrace" "Ljava/lang/Object;") (by simp [Bundle.ownAtoms0])) (a' (.lays Bundle.tN Bundle.tN "backtrace" "Ljava/lang/Object;") (by simp [Bundle.ownAtoms0])) e.platform hpl
  obtain ⟨cellS, hcS', heS, -, hkeep⟩ := X.same.2.2.2.2.2 T.aS cellS0 hcS0
  have hcellS : W.heap[T.aS]? = some cellS := hcS'
  have hout' : ∀ i, (⟨T.aS, i⟩ : Loc) ∉ locs := fun i hmem => by
    have := hlocs _ hmem cellS0 hcS0
    rw [hiss] at this; cases this
  have hknownS : cellS.vm ≠ .unknown := by
    rw [heS]; intro hu
    rw [show cellS0.vm = .unknown from hu] at hiss
    cases hiss
  have hneS : T.aS ≠ a := Nat.ne_of_lt (Nat.lt_of_lt_of_le (Array.getElem?_eq_some_iff.mp hcS0).1 hnew)
  obtain ⟨iM, hffM⟩ := Y.msg
  obtain ⟨tyC, dC, hdC, hdnC⟩ := Cond.laysAt hfound hk Y.cause (a' (.lays cls Bundle.tN "cause" "Ljava/lang/Throwable;") (by simp [Bundle.ownAtoms0]))
  obtain ⟨tyS, dS, hdS, hdnS⟩ := Cond.laysAt hfound hk Y.stack (a' (.lays cls Bundle.tN "stackTrace" Bundle.steD) (by simp [Bundle.ownAtoms0]))
  obtain ⟨tyP, dP, hdP, hdnP⟩ := Cond.laysAt hfound hk Y.supp (a' (.lays cls Bundle.tN "suppressedExceptions" Bundle.listD) (by simp [Bundle.ownAtoms0]))
  obtain ⟨tyM, dM, hdM, hdnM⟩ := Cond.laysAt hfound hk hffM (a' (.lays cls Bundle.tN "detailMessage" "Ljava/lang/String;") (by simp [Bundle.ownAtoms0]))
  obtain ⟨tyB, dB, hdB, hdnB⟩ := Cond.laysAt hfound hk hffB (a' (.lays cls Bundle.tN "backtrace" "Ljava/lang/Object;") (by simp [Bundle.ownAtoms0]))
  have bC := Cond.laysApart hdB hdC hdnB hdnC (by rw [hnB, Y.causeName]; decide)
  have bS := Cond.laysApart hdB hdS hdnB hdnS (by rw [hnB, Y.stackName]; decide)
  have bP := Cond.laysApart hdB hdP hdnB hdnP (by rw [hnB, Y.suppName]; decide)
  have hskip : SkipFacts T e.platform s (fun u => u) u0 ((preparedCellV T.toThrowableT (freshCell P1.m.cls kX) a u0 sen).withEntry W.cur) :=
    ⟨{ ci198 := ci198, i198 := i198, fBack := fB }, ⟨hk198, hg198, ha198, hsB⟩, by
      have := fresh_default (c := P1.m.cls) tyB
      rw [htB] at this
      simpa [preparedCellV, Cell.setSlot, Cell.withEntry, Array.getElem?_setIfInBounds, bC, bS, bP, bC.symm, bS.symm, bP.symm, defaultValue] using this, fun _ _ => rfl⟩
  obtain ⟨tm, methC, cdC, kC, vm₁, hnC, -, -, -, -, -, -, -, hW₁, st1⟩ := Steps.initCold (tb := p.tables) (e := e) (below := below) (s := s) (U := W) X.here hexec X.warmed hpl hown (t := Bundle.init0 cls) rfl rfl (Bundle.fit_spec hcls).2
    (a' (.methodLink own ic (Bundle.init0 cls)) (by simp [Bundle.ownAtoms0])) (h (.instanceMethod (Bundle.init0 cls)) (by cases names <;> simp [Bundle.ownAtoms0, Bundle.chain0Atoms, Bundle.passAtoms])) (bytes := Bundle.five) (maxL := 1) (h (.code (Bundle.init0 cls) Bundle.five 1 none) (by cases names <;> simp [Bundle.ownAtoms0, Bundle.chain0Atoms, Bundle.passAtoms]))
    (f := g) hg (a := a) (rest := .ref a :: rest) hstack hd6
  cases Option.some.inj (hnC.symm.trans hP1m)
  have X₁ := X.noted hW₁
  obtain ⟨vm₂, X₂, st2⟩ := X₁.ctorPlainOffV hexec (g := { g with stack := .ref a :: rest }) hg hsize T L Z LZ (P1 :: Ps)
    (fun P hP => by rcases List.mem_cons.mp hP with rfl | hP; exact L1; exact hL P hP) ⟨hlink1, hlink⟩ (u0 := u0) (sen := sen) (self := a) (cell := freshCell P1.m.cls kX) (cellS := cellS)
    hcell (fun _ => by simp) (by simp) rfl rfl hsel0 hselF hcellS hneS hknownS (by rw [hkeep _ (hout' _)]; exact hu0) (by rw [hkeep _ (hout' _)]; exact hsen)
    (Takes.of_laid hk hord tyC (by rw [Y.causeType]; rfl)) (Takes.of_laid hk hord tyS (by rw [Y.stackType]; exact fits_refV_array _ u0)) (Takes.of_laid hk hord tyP (by rw [Y.suppType]; exact fits_refV_object _ sen)) Y.objLocals hskip htr [] hd6
    (by simp only [List.length_cons, hlen]; omega) (by simp only [List.length_cons, hlen]; exact hRlocals)
  have hlt : a < ((W.setVm vm₁).setVm vm₂).heap.size := (Array.getElem?_eq_some_iff.mp hcell).1
  refine ⟨(W.setVm vm₁).setVm vm₂, _, _, X₂, fun y hy => ?_, hlt, rfl, rfl, fun target hwalk => st1 _ (fun acts => ?_)⟩
  · simp only [List.mem_cons, List.not_mem_nil, or_false] at hy
    rcases hy with rfl | rfl | rfl | rfl <;> rfl
  · rw [doInvoke_state]
    exact st2 _ hwalk
end VXK
section VXK2
variable {p : Program} {l : Launch} {e : Env} {R : Room} {s : State} {m : MethodId} {args : Array Value} {below : List Frame} {meth : Method} {c : Code} {H : Heap} {locs : List Loc} {cells slots : Nat} {Q : State → Prop}
variable {ls : Array Slot} {rest : List Value} {D : va_G} {cl : List vw_C} {tys : List (ClassId × FieldType)} {ws : va_W}
/-- 'new E("text")' that isn't thrown at once: the object goes on the stack -/
theorem vx_makeS {cc : ByteArray} {pc : Nat} (hexec : p.tables.exec = Jvm.exec) (hb : c.code = cc) (hl : l.stackTraces = false) {own cls text : String} {names : List String} {ik is ic sa ci : Nat} {A : Nat → Prop} {T0 : u_T}
    (hown : s.vm.findClass own = some m.cls) (hcls : Bundle.fit cls = true) (hnames : ∀ n ∈ names, Bundle.fit n = true)
    (hk : (Cond.classLink own ik cls).before args s = true) (hini : (Cond.initialized cls).before args s = true) (hstr : vk_R own is text sa s) (hat : ∀ w ∈ vx_atS own ic cls names, w.before args s = true)
    (hgood : ∀ w ∈ Cond.classLink own ik cls :: Cond.initialized cls :: vx_atS own ic cls names, vx_ot w = true)
    (hU : vx_Zq Bundle.tN "UNASSIGNED_STACK" Bundle.steD A s s.heap) (hN : vx_Zq Bundle.tN "SUPPRESSED_SENTINEL" Bundle.listD A s s.heap) (hS : va_S A s.heap H locs) (hsize : ls.size = c.maxLocals)
    (d0 : decode cc pc = .ok (.new ik, 3)) (d3 : decode cc (pc + 3) = .ok (.dup, 1)) (d4 : decode cc (pc + 4) = .ok (.ldc is, 2)) (d6 : decode cc (pc + 6) = .ok (.invokespecial ic, 3))
    (hK : va_K D cl tys s) (hP : va_P D cl ws H) (hD : va_D A ws) (hA : ∀ q, s.heap.size ≤ q → A q) (hc : cl[ci]? = some (cls, T0, 0))
    (hRframes : names.length + 3 < R.frames) (hRlocals : (rest.map fun v => v.category).sum + (13 * (names.length + 1) + 43) ≤ R.locals) (hRcells : cells + 1 ≤ R.cells) (hRslots : slots + 6 ≤ R.slots)
    (kk : ∀ (q : Nat) (H1 : Heap), va_P D cl (ws ++ [(q, .inr (ci, []))]) H1 → va_D A (ws ++ [(q, .inr (ci, []))]) → va_S A s.heap H1 locs → W p l e R s m args below meth c H1 locs (cells + 1) (slots + 6) Q (F0 m (pc + 9) ls (.ref q :: rest))) :
    W p l e R s m args below meth c H locs cells slots Q (F0 m pc ls rest) := by
  intro T hT X
  subst hT
  have htr : e.platform.stackTraces = false := (show e.platform.stackTraces = l.stackTraces by rw [X.admits.platform]).trans hl
  have Y := vx_rebase X (R' := { frames := R.frames, locals := R.locals, cells := 1, slots := 6 }) (Nat.le_refl _) (Nat.le_refl _) hRcells hRslots
  obtain ⟨s', hA'⟩ : ∃ z, z = (T.setVm s.vm).setFrames (.invoking m args :: below) := ⟨_, rfl⟩
  rw [← hA'] at Y
  have hvm : s'.vm = s.vm := by rw [hA']; rfl
  have hhp : s'.heap = T.heap := by rw [hA']; rfl
  have hW0 : s.WarmedH s'.vm := by rw [hvm]; exact State.WarmedH.refl s
  have hat' : ∀ w ∈ vx_atS own ic cls names, w.before args s' = true := fun w hw => vx_ot_at hW0 hvm.symm (hgood w (List.mem_cons_of_mem _ (List.mem_cons_of_mem _ hw))) (hat w hw)
  have hk' : (Cond.classLink own ik cls).before args s' = true := vx_ot_at hW0 hvm.symm (hgood _ List.mem_cons_self) hk
  have hini' : (Cond.initialized cls).before args s' = true := vx_ot_at hW0 hvm.symm (hgood _ (List.mem_cons_of_mem _ List.mem_cons_self)) hini
  have hU' : vx_Zq Bundle.tN "UNASSIGNED_STACK" Bundle.steD A s' s'.heap := by rw [hhp]; exact vx_Zq.moved hW0.alike (hU.kept hS.2.1)
  have hN' : vx_Zq Bundle.tN "SUPPRESSED_SENTINEL" Bundle.listD A s' s'.heap := by rw [hhp]; exact vx_Zq.moved hW0.alike (hN.kept hS.2.1)
  have h : ∀ w ∈ Bundle.ownAtoms own ic cls names, w.before args s' = true := vx_own hat' (vx_isRefq hU'.1) (vx_isRefq hN'.1) hU'.2.word hN'.2.word
  have hown' : s'.vm.findClass own = some m.cls := by rw [hvm]; exact hown
  have hins : (Cond.instantiable cls 6).before args s' = true := h _ (by simp [Bundle.ownAtoms])
  obtain ⟨vm₁, cX, kX, hfX, hkX, -, -, X₁, st1⟩ := Y.newCold hexec (own := own) (C := cls) (index := ik) (n := 6) hown' hk' hins hini'
    (g := F0 m pc ls rest) rfl (by rw [hb]; exact d0) (Nat.le_refl _) (Nat.le_refl _)
  generalize hT1 : (T.setVm vm₁).pushCell { cls := cX, slots := kX.instanceTypes.map defaultValue, vm := .none } = T1 at X₁ st1
  have hcat : (Value.ref T.heap.size).category = 1 := rfl
  have hcellA : T1.heap[T.heap.size]? = some (freshCell cX kX) := by rw [← hT1]; exact State.heap_pushCell_size _ _
  have d3' : decode c.code (pc + 3) = .ok (.dup, 1) := by rw [hb]; exact d3
  have d4' : decode c.code (pc + 4) = .ok (.ldc is, 2) := by rw [hb]; exact d4
  have hstr' : vk_R own is text sa s' := vk_R.warm hW0 hstr
  obtain ⟨V, ce, L, Z, hL, hlt, hcl9, hvm9, st⟩ := vx_ctorMadeS X₁ hexec htr (own := own) (cls := cls) (names := names) (ic := ic) hown' hcls hnames h (fun x hx => nomatch hx) hfX hkX hcellA (by rw [hhp]; exact Nat.le_refl _) (msg := .ref sa) rfl
    (g := { method := m, pc := pc + 6, locals := ls, stack := .ref sa :: .ref T.heap.size :: .ref T.heap.size :: rest, locked := none }) rfl hsize (rest := rest) rfl
    (by rw [hb]; exact d6) hRframes (by simp only [List.map_cons, List.sum_cons, hcat]; omega)
  have Z0 := Stand.forget (locs := []) Z (fun y hy => by rw [hL y hy, hhp]; exact Nat.le_refl _)
  obtain ⟨f1, f2⟩ := vx_frame Z0.same
  rw [hhp] at f1 f2
  have hcid : ce.cls = D.1 ci := by
    rw [hcl9]
    have h1 := (hK.1 ci _ hc).2.1
    rw [hvm] at hfX
    exact Option.some.inj (hfX.symm.trans h1)
  have hh : (V.setCell T.heap.size ce).heap[T.heap.size]? = some ce := heapAt_setCell_self (s := V) ce hlt
  subst hA'
  have X5 := vx_back9 X Y Z0
  have X6 : Stand p l e R s m args below meth c (V.setCell T.heap.size ce) locs (cells + 1) (slots + 6) := { X5 with same := X5.same.mono (by omega) (by omega) }
  have hk9 : ∀ (k : Nat) (x : Nat × va_E), ws[k]? = some x → (V.setCell T.heap.size ce).heap[x.1]? = T.heap[x.1]? := fun k x hx => f2 x.1 ((hP k x hx).lt) (fun z hz => nomatch hz)
  obtain ⟨t, a1, b1⟩ := kk T.heap.size (V.setCell T.heap.size ce).heap ((hP.kept hk9).app (fun k x hx => by
      have hz : k < 1 := (List.getElem?_eq_some_iff.mp hx).1
      rw [show k = 0 by omega] at hx
      cases hx
      exact ⟨_, hc, ce, hh, hcid, hvm9, fun k hk => absurd hk (Nat.not_lt_zero k)⟩)) (hD.push hP rfl (hA _ hS.1)) ⟨Nat.le_trans hS.1 f1, fun q h1 h2 => (f2 q (Nat.lt_of_lt_of_le h1 hS.1) (fun z hz => nomatch hz)).trans (hS.2.1 q h1 h2), hS.2.2⟩ _ rfl X6
  refine ⟨t, st1 _ ?_, b1⟩
  show Steps p.tables e below (T1.setTop { method := m, pc := pc + 3, locals := ls, stack := .ref T.heap.size :: rest, locked := none }) _
  jvm_step X₁.here [X₁.here.top, hexec, d3', Value.category]
  exact X₁.ldcString hexec (own := own) (text := text) (index := is) (a := sa) hown' hstr'.1 hstr'.2
    (g := { method := m, pc := pc + 4, locals := ls, stack := .ref T.heap.size :: .ref T.heap.size :: rest, locked := none }) rfl d4' _ (st _ a1)
/-- 'new E()' that isn't thrown at once: the object goes on the stack -/
theorem vx_make0 {cc : ByteArray} {pc : Nat} (hexec : p.tables.exec = Jvm.exec) (hb : c.code = cc) (hl : l.stackTraces = false) {own cls : String} {names : List String} {ik ic ci : Nat} {A : Nat → Prop} {T0 : u_T}
    (hown : s.vm.findClass own = some m.cls) (hcls : Bundle.fit cls = true) (hnames : ∀ n ∈ names, Bundle.fit n = true)
    (hk : (Cond.classLink own ik cls).before args s = true) (hini : (Cond.initialized cls).before args s = true) (hat : ∀ w ∈ vx_at0 own ic cls names, w.before args s = true)
    (hgood : ∀ w ∈ Cond.classLink own ik cls :: Cond.initialized cls :: vx_at0 own ic cls names, vx_ot w = true)
    (hU : vx_Zq Bundle.tN "UNASSIGNED_STACK" Bundle.steD A s s.heap) (hN : vx_Zq Bundle.tN "SUPPRESSED_SENTINEL" Bundle.listD A s s.heap) (hS : va_S A s.heap H locs) (hsize : ls.size = c.maxLocals)
    (d0 : decode cc pc = .ok (.new ik, 3)) (d3 : decode cc (pc + 3) = .ok (.dup, 1)) (d4 : decode cc (pc + 4) = .ok (.invokespecial ic, 3))
    (hK : va_K D cl tys s) (hP : va_P D cl ws H) (hD : va_D A ws) (hA : ∀ q, s.heap.size ≤ q → A q) (hc : cl[ci]? = some (cls, T0, 0))
    (hRframes : names.length + 3 < R.frames) (hRlocals : (rest.map fun v => v.category).sum + (13 * (names.length + 1) + 42) ≤ R.locals) (hRcells : cells + 1 ≤ R.cells) (hRslots : slots + 6 ≤ R.slots)
    (kk : ∀ (q : Nat) (H1 : Heap), va_P D cl (ws ++ [(q, .inr (ci, []))]) H1 → va_D A (ws ++ [(q, .inr (ci, []))]) → va_S A s.heap H1 locs → W p l e R s m args below meth c H1 locs (cells + 1) (slots + 6) Q (F0 m (pc + 7) ls (.ref q :: rest))) :
    W p l e R s m args below meth c H locs cells slots Q (F0 m pc ls rest) := by
  intro T hT X
  subst hT
  have htr : e.platform.stackTraces = false := (show e.platform.stackTraces = l.stackTraces by rw [X.admits.platform]).trans hl
  have Y := vx_rebase X (R' := { frames := R.frames, locals := R.locals, cells := 1, slots := 6 }) (Nat.le_refl _) (Nat.le_refl _) hRcells hRslots
  obtain ⟨s', hA'⟩ : ∃ z, z = (T.setVm s.vm).setFrames (.invoking m args :: below) := ⟨_, rfl⟩
  rw [← hA'] at Y
  have hvm : s'.vm = s.vm := by rw [hA']; rfl
  have hhp : s'.heap = T.heap := by rw [hA']; rfl
  have hW0 : s.WarmedH s'.vm := by rw [hvm]; exact State.WarmedH.refl s
  have hat' : ∀ w ∈ vx_at0 own ic cls names, w.before args s' = true := fun w hw => vx_ot_at hW0 hvm.symm (hgood w (List.mem_cons_of_mem _ (List.mem_cons_of_mem _ hw))) (hat w hw)
  have hk' : (Cond.classLink own ik cls).before args s' = true := vx_ot_at hW0 hvm.symm (hgood _ List.mem_cons_self) hk
  have hini' : (Cond.initialized cls).before args s' = true := vx_ot_at hW0 hvm.symm (hgood _ (List.mem_cons_of_mem _ List.mem_cons_self)) hini
  have hU' : vx_Zq Bundle.tN "UNASSIGNED_STACK" Bundle.steD A s' s'.heap := by rw [hhp]; exact vx_Zq.moved hW0.alike (hU.kept hS.2.1)
  have hN' : vx_Zq Bundle.tN "SUPPRESSED_SENTINEL" Bundle.listD A s' s'.heap := by rw [hhp]; exact vx_Zq.moved hW0.alike (hN.kept hS.2.1)
  have h : ∀ w ∈ Bundle.ownAtoms0 own ic cls names, w.before args s' = true := vx_own hat' (vx_isRefq hU'.1) (vx_isRefq hN'.1) hU'.2.word hN'.2.word
  have hown' : s'.vm.findClass own = some m.cls := by rw [hvm]; exact hown
  have hins : (Cond.instantiable cls 6).before args s' = true := h _ (by simp [Bundle.ownAtoms0])
  obtain ⟨vm₁, cX, kX, hfX, hkX, -, -, X₁, st1⟩ := Y.newCold hexec (own := own) (C := cls) (index := ik) (n := 6) hown' hk' hins hini'
    (g := F0 m pc ls rest) rfl (by rw [hb]; exact d0) (Nat.le_refl _) (Nat.le_refl _)
  generalize hT1 : (T.setVm vm₁).pushCell { cls := cX, slots := kX.instanceTypes.map defaultValue, vm := .none } = T1 at X₁ st1
  have hcat : (Value.ref T.heap.size).category = 1 := rfl
  have hcellA : T1.heap[T.heap.size]? = some (freshCell cX kX) := by rw [← hT1]; exact State.heap_pushCell_size _ _
  have d3' : decode c.code (pc + 3) = .ok (.dup, 1) := by rw [hb]; exact d3
  obtain ⟨V, ce, L, Z, hL, hlt, hcl9, hvm9, st⟩ := vx_ctorMade0 X₁ hexec htr (own := own) (cls := cls) (names := names) (ic := ic) hown' hcls hnames h (fun x hx => nomatch hx) hfX hkX hcellA (by rw [hhp]; exact Nat.le_refl _)
    (g := { method := m, pc := pc + 4, locals := ls, stack := .ref T.heap.size :: .ref T.heap.size :: rest, locked := none }) rfl hsize (rest := rest) rfl
    (by rw [hb]; exact d4) hRframes (by simp only [List.map_cons, List.sum_cons, hcat]; omega)
  have Z0 := Stand.forget (locs := []) Z (fun y hy => by rw [hL y hy, hhp]; exact Nat.le_refl _)
  obtain ⟨f1, f2⟩ := vx_frame Z0.same
  rw [hhp] at f1 f2
  have hcid : ce.cls = D.1 ci := by
    rw [hcl9]
    have h1 := (hK.1 ci _ hc).2.1
    rw [hvm] at hfX
    exact Option.some.inj (hfX.symm.trans h1)
  have hh : (V.setCell T.heap.size ce).heap[T.heap.size]? = some ce := heapAt_setCell_self (s := V) ce hlt
  subst hA'
  have X5 := vx_back9 X Y Z0
  have X6 : Stand p l e R s m args below meth c (V.setCell T.heap.size ce) locs (cells + 1) (slots + 6) := { X5 with same := X5.same.mono (by omega) (by omega) }
  have hk9 : ∀ (k : Nat) (x : Nat × va_E), ws[k]? = some x → (V.setCell T.heap.size ce).heap[x.1]? = T.heap[x.1]? := fun k x hx => f2 x.1 ((hP k x hx).lt) (fun z hz => nomatch hz)
  obtain ⟨t, a1, b1⟩ := kk T.heap.size (V.setCell T.heap.size ce).heap ((hP.kept hk9).app (fun k x hx => by
      have hz : k < 1 := (List.getElem?_eq_some_iff.mp hx).1
      rw [show k = 0 by omega] at hx
      cases hx
      exact ⟨_, hc, ce, hh, hcid, hvm9, fun k hk => absurd hk (Nat.not_lt_zero k)⟩)) (hD.push hP rfl (hA _ hS.1)) ⟨Nat.le_trans hS.1 f1, fun q h1 h2 => (f2 q (Nat.lt_of_lt_of_le h1 hS.1) (fun z hz => nomatch hz)).trans (hS.2.1 q h1 h2), hS.2.2⟩ _ rfl X6
  refine ⟨t, st1 _ ?_, b1⟩
  show Steps p.tables e below (T1.setTop { method := m, pc := pc + 3, locals := ls, stack := .ref T.heap.size :: rest, locked := none }) _
  jvm_step X₁.here [X₁.here.top, hexec, d3', Value.category]
  exact st _ a1
/-- 'throw x' of an object that was made before -/
theorem vx_athrow {cc : ByteArray} {pc : Nat} (hexec : p.tables.exec = Jvm.exec) (hb : c.code = cc) {q : Addr} (hdg : decode cc pc = .ok (.athrow, 1)) (k : vx_W p l e R s m args below meth c H locs cells slots Q (F0 m pc ls rest) q) : W p l e R s m args below meth c H locs cells slots Q (F0 m pc ls (.ref q :: rest)) := by
  intro T hT X
  obtain ⟨t, st, hq⟩ := k T hT X
  refine ⟨t, ?_, hq⟩
  have hdg' : decode c.code pc = .ok (.athrow, 1) := by rw [hb]; exact hdg
  jvm_step X.here [X.here.top, hexec, hdg', athrow.wp_sem]
  exact st
end VXK2
/-! ===== END ===== -/
/-! ===== BEGIN a constructor that throws (launches without stack traces) ===== -/
section VXIA
variable {p : Program} {l : Launch} {e : Env} {R : Room} {s : State} {m : MethodId} {args : Array Value} {below : List Frame} {meth : Method} {c : Code} {T : State} {locs : List Loc} {cells slots : Nat}
theorem vx_callI (X : Stand p l e R s m args below meth c T locs cells slots) (hexec : p.tables.exec = Jvm.exec) {own : String} {index : Nat} {y : MethodName} {bytes : ByteArray} {maxL : Nat}
    (hown : s.vm.findClass own = some m.cls) (hy1 : y.name = "<init>") (hlink : (Cond.methodLink own index y).before args s = true) (hinst : (Cond.instanceMethod y).before args s = true)
    (hcode : (Cond.code y bytes maxL none).before args s = true) (hy : y.cls ≠ "java/lang/invoke/MethodHandle" ∧ y.cls ≠ "java/lang/invoke/VarHandle")
    {W9 : Nat} {Pre : Pt → Array Value → Prop} {Post : Pt → Array Value → Option Value → Pt → Prop} {PostX : Pt → Array Value → Addr → Pt → Prop} (hK : vx_Back l R p e below s args y 3 W9 Pre Post PostX)
    {g : JFrame} (hg : g.method = m) (hsize : g.locals.size = c.maxLocals) {a : Addr} {argsL rest : List Value} (hlen : ∀ sig, parseMethodDescriptor y.desc = some sig → argsL.length = sig.parameters.length)
    (hstack : g.stack = argsL.reverse ++ .ref a :: rest) (hW : 2 * g.monitorRoom + (rest.map fun v => v.category).sum ≤ W9) (hdg : decode c.code g.pc = .ok (.invokespecial index, 3))
    (hpre : ∀ vm₁, s.WarmedH vm₁ → Pre ⟨T.setVm vm₁, locs, cells, slots⟩ (Value.ref a :: argsL).toArray) :
    (∃ (v : Option Value) (vm₁ : Vm) (B : Pt), s.WarmedH vm₁ ∧ Stand p l e R s m args below meth c B.U B.locs B.cells B.slots ∧ Post ⟨T.setVm vm₁, locs, cells, slots⟩ (Value.ref a :: argsL).toArray v B ∧
      ∀ target, Steps p.tables e below (B.U.setTop { g with pc := g.pc + 3, stack := v.toList ++ rest }) target → Steps p.tables e below (T.setTop g) target) ∨
    (∃ (q : Addr) (vm₁ : Vm) (B : Pt), s.WarmedH vm₁ ∧ Stand p l e R s m args below meth c B.U B.locs B.cells B.slots ∧ PostX ⟨T.setVm vm₁, locs, cells, slots⟩ (Value.ref a :: argsL).toArray q B ∧
      Steps p.tables e below (T.setTop g) ((B.U.setTop { g with stack := rest }).pushFrame (.throwing q))) := by
  subst hg
  have hpl : e.platform.magicAccessors = ({} : Platform).magicAccessors := by rw [X.admits.platform]
  obtain ⟨mk, methM, cM, kP, vm₁, hnamed, hmethM, hcodeM, -, hlocalsM, -, hkP, -, hW₁, hstep₁⟩ := Steps.initColdArgs (e := e) X.here hexec X.warmed hpl hown hy1 hy hlink hinst hcode (f := g) rfl hlen hstack hdg
  have X₁ := X.noted hW₁
  rcases hK g.method meth c ⟨T.setVm vm₁, locs, cells, slots⟩ { g with stack := rest } (.invokespecial index) mk (Value.ref a :: argsL).toArray X₁ rfl hsize hdg hW (X₁.named hnamed) (hpre vm₁ X₁.warmed) with ⟨v, B, X', hpost, hsteps⟩ | ⟨q, B, X', hpost, hsteps⟩
  · exact Or.inl ⟨v, vm₁, B, X₁.warmed, X', hpost, fun target h => hstep₁ _ fun acts => by rw [doInvoke_state]; exact hsteps.trans h⟩
  · exact Or.inr ⟨q, vm₁, B, X₁.warmed, X', hpost, hstep₁ _ fun acts => by rw [doInvoke_state]; exact hsteps⟩
end VXIA
section VXIB
variable {p : Program} {l : Launch} {e : Env} {R : Room} {s : State} {m : MethodId} {args : Array Value} {below : List Frame} {meth : Method} {c : Code} {H : Heap} {locs : List Loc} {cells slots : Nat}
variable {y : MethodName} {bytes cc : ByteArray} {maxL nL mc ms n index : Nat} {ret : Option FieldType} {ws : List Cond} {rm : Room} {Pc : Array Value → State → Prop} {Qc : Array Value → State → Outcome → State → Prop} {XC : String → State → State → Prop} {free : Addr → Prop} {Ts : List Cond} {own C : String} {b : Addr} {As rest : List Value} {g : JFrame}
theorem vx_runI (S : CallFix p m c cc nL s args Ts own) (hM : vx_Met l y ws rm Pc Qc XC mc ms free) (cw : CallB R s args own index y bytes maxL none ws rm mc ms n ∧ y.name = "<init>" ∧ (Cond.instanceMethod y).before args s = true) (hp : PreS s H Pc (.ref b :: As))
    (hg : g.method = m) (hn : As.length = n) (hsize : g.locals.size = nL) (hstack : g.stack = As.reverse ++ .ref b :: rest) (hW : 2 * g.monitorRoom + (rest.map fun v => v.category).sum ≤ 8) (hdg : decode cc g.pc = .ok (.invokespecial index, 3)) (hf : cells + mc ≤ R.cells ∧ slots + ms ≤ R.slots) :
    vx_Run p l e R s m args below meth c H locs cells slots mc ms g rest (Qc (Value.ref b :: As).toArray) XC free := by
  have hK : vx_Back l R p e below s args y 3 8 (PreOf R mc ms Pc) (PostOf Qc mc ms free) (vx_Post XC mc ms free) := vx_callBack cw.1 hM hp.1
  obtain ⟨⟨-, -, -, -, -, -, hcode, -, hy, hlen, hl⟩, hy1, hin⟩ := cw
  obtain ⟨hx, hb, hml, ho, -⟩ := S
  have hPc := hp.2
  intro T hT X
  rcases vx_callI X hx (bytes := bytes) (maxL := maxL) ho hy1 hl hin hcode hy hK hg (hsize.trans hml.symm) (a := b) (argsL := As) (rest := rest) (fun sig h => hn.trans (hlen sig h)) hstack hW (by rw [hb]; exact hdg)
    (fun vm₁ hW₁ => ⟨hf.1, hf.2, hPc (T.setVm vm₁) hT hW₁⟩) with ⟨v, vm₁, ⟨U', l2, c2, s2⟩, hW₁, X', ⟨g', mk, t, L, e1, e2, hq, h1, hL, h2, h3⟩, st⟩ | ⟨q, vm₁, ⟨U', l2, c2, s2⟩, hW₁, X', ⟨g', mk, t, L, E, ce, e1, e2, hq, hce, hcv, hcl, h1, hL, h2, h3⟩, st⟩
  · dsimp only [Pt.U, Pt.locs, Pt.cells, Pt.slots] at X' e1 e2 h1 h2 h3 st
    subst h1; subst h2; subst h3
    exact Or.inl ⟨v, (T.setVm vm₁).calling g' mk (Value.ref b :: As).toArray, t, U', L, hT, X', hL, e1, e2, hq, st⟩
  · dsimp only [Pt.U, Pt.locs, Pt.cells, Pt.slots] at X' e1 e2 h1 h2 h3 st hcl
    subst h1; subst h2; subst h3
    exact Or.inr ⟨q, (T.setVm vm₁).calling g' mk (Value.ref b :: As).toArray, t, U', L, E, ce, hT, X', hL, e1, e2, hq, hce, hcv, vx_cls hW₁ hcl, st⟩
end VXIB
/-! ===== END ===== -/
/-! ===== BEGIN a private constructor of a nest mate that throws ===== -/
section VXIC
variable {p : Program} {l : Launch} {e : Env} {R : Room} {s : State} {m : MethodId} {args : Array Value} {below : List Frame} {meth : Method} {c : Code} {T : State} {locs : List Loc} {cells slots : Nat}
theorem vx_callIN (X : Stand p l e R s m args below meth c T locs cells slots) (hexec : p.tables.exec = Jvm.exec) {own : String} {index : Nat} {host : String} {y : MethodName} {bytes : ByteArray} {maxL : Nat}
    (hown : s.vm.findClass own = some m.cls) (hy1 : y.name = "<init>") (hlink : (Cond.methodLinkNest own index y host).before args s = true) (hinst : (Cond.instanceMethod y).before args s = true)
    (hcode : (Cond.code y bytes maxL none).before args s = true) (hy : y.cls ≠ "java/lang/invoke/MethodHandle" ∧ y.cls ≠ "java/lang/invoke/VarHandle")
    {W9 : Nat} {Pre : Pt → Array Value → Prop} {Post : Pt → Array Value → Option Value → Pt → Prop} {PostX : Pt → Array Value → Addr → Pt → Prop} (hK : vx_Back l R p e below s args y 3 W9 Pre Post PostX)
    {g : JFrame} (hg : g.method = m) (hsize : g.locals.size = c.maxLocals) {a : Addr} {argsL rest : List Value} (hlen : ∀ sig, parseMethodDescriptor y.desc = some sig → argsL.length = sig.parameters.length)
    (hstack : g.stack = argsL.reverse ++ .ref a :: rest) (hW : 2 * g.monitorRoom + (rest.map fun v => v.category).sum ≤ W9) (hdg : decode c.code g.pc = .ok (.invokespecial index, 3))
    (hpre : ∀ vm₁, s.WarmedH vm₁ → Pre ⟨T.setVm vm₁, locs, cells, slots⟩ (Value.ref a :: argsL).toArray) :
    (∃ (v : Option Value) (vm₁ : Vm) (B : Pt), s.WarmedH vm₁ ∧ Stand p l e R s m args below meth c B.U B.locs B.cells B.slots ∧ Post ⟨T.setVm vm₁, locs, cells, slots⟩ (Value.ref a :: argsL).toArray v B ∧
      ∀ target, Steps p.tables e below (B.U.setTop { g with pc := g.pc + 3, stack := v.toList ++ rest }) target → Steps p.tables e below (T.setTop g) target) ∨
    (∃ (q : Addr) (vm₁ : Vm) (B : Pt), s.WarmedH vm₁ ∧ Stand p l e R s m args below meth c B.U B.locs B.cells B.slots ∧ PostX ⟨T.setVm vm₁, locs, cells, slots⟩ (Value.ref a :: argsL).toArray q B ∧
      Steps p.tables e below (T.setTop g) ((B.U.setTop { g with stack := rest }).pushFrame (.throwing q))) := by
  subst hg
  have hpl : e.platform.magicAccessors = ({} : Platform).magicAccessors := by rw [X.admits.platform]
  obtain ⟨mk, methM, cM, kP, vm₁, hnamed, hmethM, hcodeM, -, hlocalsM, -, hkP, -, hW₁, hstep₁⟩ := Steps.initColdArgsNest (e := e) X.here hexec X.warmed hpl hown hy1 hy hlink hinst hcode (f := g) rfl hlen hstack hdg
  have X₁ := X.noted hW₁
  rcases hK g.method meth c ⟨T.setVm vm₁, locs, cells, slots⟩ { g with stack := rest } (.invokespecial index) mk (Value.ref a :: argsL).toArray X₁ rfl hsize hdg hW (X₁.named hnamed) (hpre vm₁ X₁.warmed) with ⟨v, B, X', hpost, hsteps⟩ | ⟨q, B, X', hpost, hsteps⟩
  · exact Or.inl ⟨v, vm₁, B, X₁.warmed, X', hpost, fun target h => hstep₁ _ fun acts => by rw [doInvoke_state]; exact hsteps.trans h⟩
  · exact Or.inr ⟨q, vm₁, B, X₁.warmed, X', hpost, hstep₁ _ fun acts => by rw [doInvoke_state]; exact hsteps⟩
end VXIC
section VXID
variable {p : Program} {l : Launch} {e : Env} {R : Room} {s : State} {m : MethodId} {args : Array Value} {below : List Frame} {meth : Method} {c : Code} {H : Heap} {locs : List Loc} {cells slots : Nat}
theorem vx_runIN {y : MethodName} {bytes cc : ByteArray} {maxL nL mc ms n index : Nat} {ws : List Cond} {rm : Room} {Pc : Array Value → State → Prop} {Qc : Array Value → State → Outcome → State → Prop} {XC : String → State → State → Prop} {free : Addr → Prop} {Ts : List Cond} {own host : String} {b : Addr} {As rest : List Value} {g : JFrame}
    (S : CallFix p m c cc nL s args Ts own) (hM : vx_Met l y ws rm Pc Qc XC mc ms free) (cw : va_CN R s args own index y host bytes maxL none ws rm mc ms n ∧ y.name = "<init>" ∧ (Cond.instanceMethod y).before args s = true) (hp : PreS s H Pc (.ref b :: As))
    (hg : g.method = m) (hn : As.length = n) (hsize : g.locals.size = nL) (hstack : g.stack = As.reverse ++ .ref b :: rest) (hW : 2 * g.monitorRoom + (rest.map fun v => v.category).sum ≤ 8) (hdg : decode cc g.pc = .ok (.invokespecial index, 3)) (hf : cells + mc ≤ R.cells ∧ slots + ms ≤ R.slots) :
    vx_Run p l e R s m args below meth c H locs cells slots mc ms g rest (Qc (Value.ref b :: As).toArray) XC free := by
  obtain ⟨⟨⟨hrc, hrs, hfr, hlo, hws, hcw⟩, hcode, hini, hy, hlen, hl⟩, hx1, hx2⟩ := cw
  have hK : vx_Back l R p e below s args y 3 8 (PreOf R mc ms Pc) (PostOf Qc mc ms free) (vx_Post XC mc ms free) := vx_back (bytes := bytes) (maxL := maxL) (ret := none) hM hp.1 hrc hrs hfr hlo hws hcw (fun a' U hW => word_at hW (Or.inl (by first | rfl | simp [Cond.onTables, Cond.keeps, Cond.steady])) hini)
  obtain ⟨hx, hb, hml, ho, -⟩ := S
  have hPc := hp.2
  intro T hT X
  rcases vx_callIN X hx (bytes := bytes) (maxL := maxL) ho hx1 hl hx2 hcode hy hK hg (hsize.trans hml.symm) (a := b) (argsL := As) (rest := rest) (fun sig h => hn.trans (hlen sig h)) hstack hW (by rw [hb]; exact hdg)
    (fun vm₁ hW₁ => ⟨hf.1, hf.2, hPc (T.setVm vm₁) hT hW₁⟩) with ⟨v, vm₁, ⟨U', l2, c2, s2⟩, hW₁, X', ⟨g', mk, t, L, e1, e2, hq, h1, hL, h2, h3⟩, st⟩ | ⟨q, vm₁, ⟨U', l2, c2, s2⟩, hW₁, X', ⟨g', mk, t, L, E, ce, e1, e2, hq, hce, hcv, hcl, h1, hL, h2, h3⟩, st⟩
  · dsimp only [Pt.U, Pt.locs, Pt.cells, Pt.slots] at X' e1 e2 h1 h2 h3 st
    subst h1; subst h2; subst h3
    exact Or.inl ⟨v, (T.setVm vm₁).calling g' mk (Value.ref b :: As).toArray, t, U', L, hT, X', hL, e1, e2, hq, st⟩
  · dsimp only [Pt.U, Pt.locs, Pt.cells, Pt.slots] at X' e1 e2 h1 h2 h3 st hcl
    subst h1; subst h2; subst h3
    exact Or.inr ⟨q, (T.setVm vm₁).calling g' mk (Value.ref b :: As).toArray, t, U', L, E, ce, hT, X', hL, e1, e2, hq, hce, hcv, vx_cls hW₁ hcl, st⟩
end VXID
/-! ===== END ===== -/
/-! ===== BEGIN a method of a class above, found by the receiver, that may throw (follows va_callVU, va_runU of this kit) ===== -/
section
variable {p : Program} {l : Launch} {e : Env} {R : Room} {s : State} {m : MethodId} {args : Array Value} {below : List Frame} {meth : Method} {c : Code} {H : Heap} {locs : List Loc} {cells slots : Nat}
theorem vx_callVU {T : State} {locs : List Loc} {cells slots : Nat} (X : Stand p l e R s m args below meth c T locs cells slots) (hexec : p.tables.exec = Jvm.exec) {own C owner : String} {index : Nat} {x y : MethodName} {bytes : ByteArray} {maxL : Nat} {ret : Option FieldType}
    (hown : s.vm.findClass own = some m.cls) (hlink : (Cond.methodLink own index x).before args s = true) (hsame : (Cond.sameMethod x.cls owner x.name x.desc).before args s = true)
    (hd0 : va_Decl s ⟨owner, x.name, x.desc⟩) (howner : owner ≠ "java/lang/invoke/MethodHandle" ∧ owner ≠ "java/lang/invoke/VarHandle")
    (hsel : (Cond.selects C x y).before args s = true) (hinst : (Cond.instanceMethod y).before args s = true) (hcode : (Cond.code y bytes maxL ret).before args s = true)
    {W : Nat} {Pre : Pt → Array Value → Prop} {Post : Pt → Array Value → Option Value → Pt → Prop} {PostX : Pt → Array Value → Addr → Pt → Prop} (hK : vx_Back l R p e below s args y 3 W Pre Post PostX)
    {b : Addr} {cellB : Cell} (hcell : T.heap[b]? = some cellB) (hobj : cellB.vm.isStatics = false) (hcls : s.vm.findClass C = some cellB.cls)
    {g : JFrame} (hg : g.method = m) (hsize : g.locals.size = c.maxLocals) {argsL rest : List Value} (hlen : ∀ sig, parseMethodDescriptor x.desc = some sig → argsL.length = sig.parameters.length)
    (hstack : g.stack = argsL.reverse ++ .ref b :: rest) (hW : 2 * g.monitorRoom + (rest.map fun v => v.category).sum ≤ W) (hdg : decode c.code g.pc = .ok (.invokevirtual index, 3))
    (hpre : ∀ vm₁, s.WarmedH vm₁ → Pre ⟨T.setVm vm₁, locs, cells, slots⟩ (Value.ref b :: argsL).toArray) :
    (∃ (v : Option Value) (vm₁ : Vm) (B : Pt), s.WarmedH vm₁ ∧ Stand p l e R s m args below meth c B.U B.locs B.cells B.slots ∧ Post ⟨T.setVm vm₁, locs, cells, slots⟩ (Value.ref b :: argsL).toArray v B ∧
      ∀ target, Steps p.tables e below (B.U.setTop { g with pc := g.pc + 3, stack := v.toList ++ rest }) target → Steps p.tables e below (T.setTop g) target) ∨
    (∃ (q : Addr) (vm₁ : Vm) (B : Pt), s.WarmedH vm₁ ∧ Stand p l e R s m args below meth c B.U B.locs B.cells B.slots ∧ PostX ⟨T.setVm vm₁, locs, cells, slots⟩ (Value.ref b :: argsL).toArray q B ∧
      Steps p.tables e below (T.setTop g) ((B.U.setTop { g with stack := rest }).pushFrame (.throwing q))) := by
  obtain ⟨r0, r, hn, hrm, hstR, hsigR⟩ := hd0
  obtain ⟨cn, ck, r1, hcn, hck, hni, hf, hn1⟩ := Cond.sameMethod_found hsame
  cases hn.symm.trans hn1
  obtain ⟨mk, methM, hnamed, hmethM, -, habM⟩ := Cond.instanceMethod_spec hinst
  obtain ⟨c2, r2, m2, q1, q2, q3, q4, kP, hkP, hkPi⟩ := Cond.selects_spec hsel
  cases hcls.symm.trans q1
  cases hf.symm.trans q2
  cases hnamed.symm.trans q3
  have hselP : selectMethod e.platform s.vm cellB.cls r0 = .method mk := by rw [Launch.admits_selectMethod X.admits]; exact q4
  obtain ⟨vm₁, X₁, hstep₁⟩ := X.invokevirtualUp hexec hown hlink hsame howner hn hrm hstR (a := b) (cell := cellB) hcell
    (fun z h => by rw [h] at hobj; cases hobj) hselP hmethM habM hkP hkPi (g := g) hg (argsL := argsL) (rest := rest) (hlen _ hsigR) hstack hdg
  rcases hK m meth c ⟨T.setVm vm₁, locs, cells, slots⟩ { g with stack := rest } (.invokevirtual index) mk (Value.ref b :: argsL).toArray X₁ hg hsize hdg hW (X₁.named hnamed) (hpre vm₁ X₁.warmed) with ⟨v, B, X', hpost, hsteps⟩ | ⟨q, B, X', hpost, hsteps⟩
  · exact Or.inl ⟨v, vm₁, B, X₁.warmed, X', hpost, fun target h => hstep₁ _ fun acts => by rw [doInvoke_state]; exact hsteps.trans h⟩
  · exact Or.inr ⟨q, vm₁, B, X₁.warmed, X', hpost, hstep₁ _ fun acts => by rw [doInvoke_state]; exact hsteps⟩
theorem vx_runU {x y : MethodName} {bytes cc : ByteArray} {maxL nL mc ms n index : Nat} {ret : Option FieldType} {ws : List Cond} {rm : Room} {Pc : Array Value → State → Prop} {Qc : Array Value → State → Outcome → State → Prop} {XC : String → State → State → Prop} {free : Addr → Prop} {Ts : List Cond} {own C owner : String} {b : Addr} {As rest : List Value} {g : JFrame}
    (S : CallFix p m c cc nL s args Ts own) (hM : vx_Met l y ws rm Pc Qc XC mc ms free) (cw : va_CU R s args own C owner index x y bytes maxL ret ws rm mc ms n) (hp : PreV s H C b Pc As)
    (hg : g.method = m) (hn : As.length = n) (hsize : g.locals.size = nL) (hstack : g.stack = As.reverse ++ .ref b :: rest) (hW : 2 * g.monitorRoom + (rest.map fun v => v.category).sum ≤ 8) (hdg : decode cc g.pc = .ok (.invokevirtual index, 3)) (hf : cells + mc ≤ R.cells ∧ slots + ms ≤ R.slots) :
    vx_Run p l e R s m args below meth c H locs cells slots mc ms g rest (Qc (Value.ref b :: As).toArray) XC free := by
  obtain ⟨hrc, hrs, hfr, hlo, hws, hcw⟩ := cw.back
  have hini := cw.init
  have hK : vx_Back l R p e below s args y 3 8 (PreOf R mc ms Pc) (PostOf Qc mc ms free) (vx_Post XC mc ms free) := vx_back (bytes := bytes) (maxL := maxL) (ret := ret) hM hp.1 hrc hrs hfr hlo hws hcw (fun a' U hW => word_at hW (Or.inl (by first | rfl | simp [Cond.onTables, Cond.keeps, Cond.steady])) hini)
  obtain ⟨hx, hb, hml, ho, -⟩ := S
  obtain ⟨-, ⟨cellB, hcB, hoB, hclB⟩, hPc⟩ := hp
  intro T hT X
  rcases vx_callVU X hx (C := C) (owner := owner) (bytes := bytes) (maxL := maxL) (ret := ret) ho cw.link cw.same cw.decl cw.notMH cw.sel cw.inst cw.code hK (by rw [hT]; exact hcB) hoB hclB hg (hsize.trans hml.symm) (argsL := As) (rest := rest) (fun sig h => hn.trans (cw.len sig h)) hstack hW (by rw [hb]; exact hdg)
    (fun vm₁ hW₁ => ⟨hf.1, hf.2, hPc (T.setVm vm₁) hT hW₁⟩) with ⟨v, vm₁, ⟨U', l2, c2, s2⟩, hW₁, X', ⟨g', mk, t, L, e1, e2, hq, h1, hL, h2, h3⟩, st⟩ | ⟨q, vm₁, ⟨U', l2, c2, s2⟩, hW₁, X', ⟨g', mk, t, L, E, ce, e1, e2, hq, hce, hcv, hcl, h1, hL, h2, h3⟩, st⟩
  · dsimp only [Pt.U, Pt.locs, Pt.cells, Pt.slots] at X' e1 e2 h1 h2 h3 st
    subst h1; subst h2; subst h3
    exact Or.inl ⟨v, (T.setVm vm₁).calling g' mk (Value.ref b :: As).toArray, t, U', L, hT, X', hL, e1, e2, hq, st⟩
  · dsimp only [Pt.U, Pt.locs, Pt.cells, Pt.slots] at X' e1 e2 h1 h2 h3 st hcl
    subst h1; subst h2; subst h3
    exact Or.inr ⟨q, (T.setVm vm₁).calling g' mk (Value.ref b :: As).toArray, t, U', L, E, ce, hT, X', hL, e1, e2, hq, hce, hcv, vx_cls hW₁ hcl, st⟩
end
/-! ===== END ===== -/
/-! ===== BEGIN super.m(..) that may throw (follows va_callSU, va_runSU) ===== -/
section
variable {p : Program} {l : Launch} {e : Env} {R : Room} {s : State} {m : MethodId} {args : Array Value} {below : List Frame} {meth : Method} {c : Code} {H : Heap} {locs : List Loc} {cells slots : Nat}
theorem vx_callSU {T : State} {locs : List Loc} {cells slots : Nat} (X : Stand p l e R s m args below meth c T locs cells slots) (hexec : p.tables.exec = Jvm.exec) {own : String} {index : Nat} {y : MethodName} {bytes : ByteArray} {maxL : Nat} {ret : Option FieldType}
    (hown : s.vm.findClass own = some m.cls) (hlink : (Cond.methodLink own index y).before args s = true) (hsame : (Cond.sameMethod y.cls y.cls y.name y.desc).before args s = true) (hsup : (Cond.superclass own y.cls).before args s = true)
    (hinst : (Cond.instanceMethod y).before args s = true) (hcode : (Cond.code y bytes maxL ret).before args s = true) (hno : y.name ≠ "<init>")
    {W : Nat} {Pre : Pt → Array Value → Prop} {Post : Pt → Array Value → Option Value → Pt → Prop} {PostX : Pt → Array Value → Addr → Pt → Prop} (hK : vx_Back l R p e below s args y 3 W Pre Post PostX)
    {b : Addr} {cellB : Cell} {kB : Class} (hcell : T.heap[b]? = some cellB) (hobj : cellB.vm.isStatics = false) (hkB : s.vm.classes[cellB.cls]? = some kB)
    {g : JFrame} (hg : g.method = m) (hsize : g.locals.size = c.maxLocals) {argsL rest : List Value} (hlen : ∀ sig, parseMethodDescriptor y.desc = some sig → argsL.length = sig.parameters.length)
    (hstack : g.stack = argsL.reverse ++ .ref b :: rest) (hW : 2 * g.monitorRoom + (rest.map fun v => v.category).sum ≤ W) (hdg : decode c.code g.pc = .ok (.invokespecial index, 3))
    (hpre : ∀ vm₁, s.WarmedH vm₁ → Pre ⟨T.setVm vm₁, locs, cells, slots⟩ (Value.ref b :: argsL).toArray) :
    (∃ (v : Option Value) (vm₁ : Vm) (B : Pt), s.WarmedH vm₁ ∧ Stand p l e R s m args below meth c B.U B.locs B.cells B.slots ∧ Post ⟨T.setVm vm₁, locs, cells, slots⟩ (Value.ref b :: argsL).toArray v B ∧
      ∀ target, Steps p.tables e below (B.U.setTop { g with pc := g.pc + 3, stack := v.toList ++ rest }) target → Steps p.tables e below (T.setTop g) target) ∨
    (∃ (q : Addr) (vm₁ : Vm) (B : Pt), s.WarmedH vm₁ ∧ Stand p l e R s m args below meth c B.U B.locs B.cells B.slots ∧ PostX ⟨T.setVm vm₁, locs, cells, slots⟩ (Value.ref b :: argsL).toArray q B ∧
      Steps p.tables e below (T.setTop g) ((B.U.setTop { g with stack := rest }).pushFrame (.throwing q))) := by
  obtain ⟨mk, methM, hnamed, hmethM, hstM, habM⟩ := Cond.instanceMethod_spec hinst
  obtain ⟨methM', cM, hmethM', -, -, -, -, -, -, hsigM⟩ := Cond.code_spec hnamed hcode
  cases hmethM.symm.trans hmethM'
  obtain ⟨ps, dk, kp, hps, hdk, hkp, hsuper, -, -, hnid⟩ := Cond.superclass_spec hown hsup
  have hn : s.methodNamed? ⟨y.cls, y.name, y.desc⟩ = some mk := hnamed
  have hpm : ps = mk.cls := Option.some.inj (hps.symm.trans (findClass_of_methodNamed hnamed))
  have hsub : s.vm.isSubclass ps mk.cls = true := by rw [hpm]; simp [Vm.isSubclass, Vm.isSubclassAux]
  obtain ⟨vm₁, X₁, hstep₁⟩ := X.invokespecialUp hexec hown hlink hsame hn hmethM hstM habM hno hdk hnid hps hsuper hsub (a := b) (cell := cellB) hcell
    (fun z h => by rw [h] at hobj; cases hobj) hkB (g := g) hg (argsL := argsL) (rest := rest) (hlen _ hsigM) hstack hdg
  rcases hK m meth c ⟨T.setVm vm₁, locs, cells, slots⟩ { g with stack := rest } (.invokespecial index) mk (Value.ref b :: argsL).toArray X₁ hg hsize hdg hW (X₁.named hnamed) (hpre vm₁ X₁.warmed) with ⟨v, B, X', hpost, hsteps⟩ | ⟨q, B, X', hpost, hsteps⟩
  · exact Or.inl ⟨v, vm₁, B, X₁.warmed, X', hpost, fun target h => hstep₁ _ (by rw [doInvoke_state]; exact hsteps.trans h)⟩
  · exact Or.inr ⟨q, vm₁, B, X₁.warmed, X', hpost, hstep₁ _ (by rw [doInvoke_state]; exact hsteps)⟩
theorem vx_runSU {y : MethodName} {bytes cc : ByteArray} {maxL nL mc ms n index : Nat} {ret : Option FieldType} {ws : List Cond} {rm : Room} {Pc : Array Value → State → Prop} {Qc : Array Value → State → Outcome → State → Prop} {XC : String → State → State → Prop} {free : Addr → Prop} {Ts : List Cond} {own C : String} {cC : ClassId} {b : Addr} {As rest : List Value} {g : JFrame}
    (hat : ClassAt s C cC) (S : CallFix p m c cc nL s args Ts own) (hM : vx_Met l y ws rm Pc Qc XC mc ms free) (cw : va_CS R s args own index y bytes maxL ret ws rm mc ms n) (hp : PreV s H C b Pc As)
    (hg : g.method = m) (hn : As.length = n) (hsize : g.locals.size = nL) (hstack : g.stack = As.reverse ++ .ref b :: rest) (hW : 2 * g.monitorRoom + (rest.map fun v => v.category).sum ≤ 8) (hdg : decode cc g.pc = .ok (.invokespecial index, 3)) (hf : cells + mc ≤ R.cells ∧ slots + ms ≤ R.slots) :
    vx_Run p l e R s m args below meth c H locs cells slots mc ms g rest (Qc (Value.ref b :: As).toArray) XC free := by
  obtain ⟨⟨hrc, hrs, hfr, hlo, hws, hcw⟩, hl1, hl2, hl3, hl4, hini, hcode, hno, hlen⟩ := cw
  have hK : vx_Back l R p e below s args y 3 8 (PreOf R mc ms Pc) (PostOf Qc mc ms free) (vx_Post XC mc ms free) := vx_back (bytes := bytes) (maxL := maxL) (ret := ret) hM hp.1 hrc hrs hfr hlo hws hcw (fun a' U hW => word_at hW (Or.inl (by first | rfl | simp [Cond.onTables, Cond.keeps, Cond.steady])) hini)
  obtain ⟨hx, hb, hml, ho, -⟩ := S
  obtain ⟨-, ⟨cellB, hcB, hoB, hclB⟩, hPc⟩ := hp
  obtain ⟨hfc, kB, hkB, -⟩ := hat
  cases hfc.symm.trans hclB
  intro T hT X
  rcases vx_callSU X hx (bytes := bytes) (maxL := maxL) (ret := ret) ho hl1 hl2 hl3 hl4 hcode hno hK (by rw [hT]; exact hcB) hoB hkB hg (hsize.trans hml.symm) (argsL := As) (rest := rest) (fun sig h => hn.trans (hlen sig h)) hstack hW (by rw [hb]; exact hdg)
    (fun vm₁ hW₁ => ⟨hf.1, hf.2, hPc (T.setVm vm₁) hT hW₁⟩) with ⟨v, vm₁, ⟨U', l2, c2, s2⟩, hW₁, X', ⟨g', mk, t, L, e1, e2, hq, h1, hL, h2, h3⟩, st⟩ | ⟨q, vm₁, ⟨U', l2, c2, s2⟩, hW₁, X', ⟨g', mk, t, L, E, ce, e1, e2, hq, hce, hcv, hcl, h1, hL, h2, h3⟩, st⟩
  · dsimp only [Pt.U, Pt.locs, Pt.cells, Pt.slots] at X' e1 e2 h1 h2 h3 st
    subst h1; subst h2; subst h3
    exact Or.inl ⟨v, (T.setVm vm₁).calling g' mk (Value.ref b :: As).toArray, t, U', L, hT, X', hL, e1, e2, hq, st⟩
  · dsimp only [Pt.U, Pt.locs, Pt.cells, Pt.slots] at X' e1 e2 h1 h2 h3 st hcl
    subst h1; subst h2; subst h3
    exact Or.inr ⟨q, (T.setVm vm₁).calling g' mk (Value.ref b :: As).toArray, t, U', L, E, ce, hT, X', hL, e1, e2, hq, hce, hcv, vx_cls hW₁ hcl, st⟩
end
/-! ===== END ===== -/
/-! ===== BEGIN a private method of a nest mate that may throw (follows va_callVN, va_callSN, va_runVN, va_runSN) ===== -/
section
variable {p : Program} {l : Launch} {e : Env} {R : Room} {s : State} {m : MethodId} {args : Array Value} {below : List Frame} {meth : Method} {c : Code} {H : Heap} {locs : List Loc} {cells slots : Nat}
variable {T : State}
theorem vx_callVN (X : Stand p l e R s m args below meth c T locs cells slots) (hexec : p.tables.exec = Jvm.exec) {own C : String} {index : Nat} {host : String} {y : MethodName} {bytes : ByteArray} {maxL : Nat} {ret : Option FieldType}
    (hown : s.vm.findClass own = some m.cls) (hlink : (Cond.methodLinkNest own index y host).before args s = true) (hinst : (Cond.instanceMethod y).before args s = true) (hsel : (Cond.selects C y y).before args s = true)
    (hcode : (Cond.code y bytes maxL ret).before args s = true) (hy : y.cls ≠ "java/lang/invoke/MethodHandle" ∧ y.cls ≠ "java/lang/invoke/VarHandle")
    {W : Nat} {Pre : Pt → Array Value → Prop} {Post : Pt → Array Value → Option Value → Pt → Prop} {PostX : Pt → Array Value → Addr → Pt → Prop} (hK : vx_Back l R p e below s args y 3 W Pre Post PostX)
    {b : Addr} {cellB : Cell} (hcell : T.heap[b]? = some cellB) (hobj : cellB.vm.isStatics = false) (hcls : s.vm.findClass C = some cellB.cls)
    {g : JFrame} (hg : g.method = m) (hsize : g.locals.size = c.maxLocals) {argsL rest : List Value} (hlen : ∀ sig, parseMethodDescriptor y.desc = some sig → argsL.length = sig.parameters.length)
    (hstack : g.stack = argsL.reverse ++ .ref b :: rest) (hW : 2 * g.monitorRoom + (rest.map fun v => v.category).sum ≤ W) (hdg : decode c.code g.pc = .ok (.invokevirtual index, 3))
    (hpre : ∀ vm₁, s.WarmedH vm₁ → Pre ⟨T.setVm vm₁, locs, cells, slots⟩ (Value.ref b :: argsL).toArray) :
    (∃ (v : Option Value) (vm₁ : Vm) (B : Pt), s.WarmedH vm₁ ∧ Stand p l e R s m args below meth c B.U B.locs B.cells B.slots ∧ Post ⟨T.setVm vm₁, locs, cells, slots⟩ (Value.ref b :: argsL).toArray v B ∧
      ∀ target, Steps p.tables e below (B.U.setTop { g with pc := g.pc + 3, stack := v.toList ++ rest }) target → Steps p.tables e below (T.setTop g) target) ∨
    (∃ (q : Addr) (vm₁ : Vm) (B : Pt), s.WarmedH vm₁ ∧ Stand p l e R s m args below meth c B.U B.locs B.cells B.slots ∧ PostX ⟨T.setVm vm₁, locs, cells, slots⟩ (Value.ref b :: argsL).toArray q B ∧
      Steps p.tables e below (T.setTop g) ((B.U.setTop { g with stack := rest }).pushFrame (.throwing q))) := by
  obtain ⟨mk, methM, hnamed, hmethM, hstM, habM⟩ := Cond.instanceMethod_spec hinst
  obtain ⟨methM', cM, hmethM', -, -, -, -, -, -, hsigM⟩ := Cond.code_spec hnamed hcode
  cases hmethM.symm.trans hmethM'
  obtain ⟨c2, r2, m2, q1, q2, q3, q4, kP, hkP, hkPi⟩ := Cond.selects_spec hsel
  cases hcls.symm.trans q1
  cases (State.methodFound?_of_named hnamed hy).symm.trans q2
  cases hnamed.symm.trans q3
  have hselP : selectMethod e.platform s.vm cellB.cls mk = .method mk := by rw [Launch.admits_selectMethod X.admits]; exact q4
  obtain ⟨vm₁, X₁, hstep₁⟩ := X.invokevirtualNest hexec hown hlink hnamed hmethM hstM hkP hkPi hy (a := b) (cell := cellB) hcell
    (fun z h => by rw [h] at hobj; cases hobj) hselP hmethM habM hkP hkPi (g := g) hg (argsL := argsL) (rest := rest) (hlen _ hsigM) hstack hdg
  rcases hK m meth c ⟨T.setVm vm₁, locs, cells, slots⟩ { g with stack := rest } (.invokevirtual index) mk (Value.ref b :: argsL).toArray X₁ hg hsize hdg hW (X₁.named hnamed) (hpre vm₁ X₁.warmed) with ⟨v, B, X', hpost, hsteps⟩ | ⟨q, B, X', hpost, hsteps⟩
  · exact Or.inl ⟨v, vm₁, B, X₁.warmed, X', hpost, fun target h => hstep₁ _ fun acts => by rw [doInvoke_state]; exact hsteps.trans h⟩
  · exact Or.inr ⟨q, vm₁, B, X₁.warmed, X', hpost, hstep₁ _ fun acts => by rw [doInvoke_state]; exact hsteps⟩
theorem vx_callSN (X : Stand p l e R s m args below meth c T locs cells slots) (hexec : p.tables.exec = Jvm.exec) {own : String} {index : Nat} {host : String} {y : MethodName} {bytes : ByteArray} {maxL : Nat} {ret : Option FieldType}
    (hown : s.vm.findClass own = some m.cls) (hlink : (Cond.methodLinkNest own index y host).before args s = true) (hstat : (Cond.static y).before args s = true) (hinit : (Cond.initialized y.cls).before args s = true)
    (hcode : (Cond.code y bytes maxL ret).before args s = true) (hy : y.cls ≠ "java/lang/invoke/MethodHandle" ∧ y.cls ≠ "java/lang/invoke/VarHandle")
    {W : Nat} {Pre : Pt → Array Value → Prop} {Post : Pt → Array Value → Option Value → Pt → Prop} {PostX : Pt → Array Value → Addr → Pt → Prop} (hK : vx_Back l R p e below s args y 3 W Pre Post PostX)
    {g : JFrame} (hg : g.method = m) (hsize : g.locals.size = c.maxLocals) {argsL rest : List Value} (hlen : ∀ sig, parseMethodDescriptor y.desc = some sig → argsL.length = sig.parameters.length)
    (hstack : g.stack = argsL.reverse ++ rest) (hW : 2 * g.monitorRoom + (rest.map fun v => v.category).sum ≤ W) (hdg : decode c.code g.pc = .ok (.invokestatic index, 3))
    (hpre : ∀ vm₁, s.WarmedH vm₁ → Pre ⟨T.setVm vm₁, locs, cells, slots⟩ argsL.toArray) :
    (∃ (v : Option Value) (vm₁ : Vm) (B : Pt), s.WarmedH vm₁ ∧ Stand p l e R s m args below meth c B.U B.locs B.cells B.slots ∧ Post ⟨T.setVm vm₁, locs, cells, slots⟩ argsL.toArray v B ∧
      ∀ target, Steps p.tables e below (B.U.setTop { g with pc := g.pc + 3, stack := v.toList ++ rest }) target → Steps p.tables e below (T.setTop g) target) ∨
    (∃ (q : Addr) (vm₁ : Vm) (B : Pt), s.WarmedH vm₁ ∧ Stand p l e R s m args below meth c B.U B.locs B.cells B.slots ∧ PostX ⟨T.setVm vm₁, locs, cells, slots⟩ argsL.toArray q B ∧
      Steps p.tables e below (T.setTop g) ((B.U.setTop { g with stack := rest }).pushFrame (.throwing q))) := by
  obtain ⟨mk, hnamed⟩ := Cond.code_named hcode
  obtain ⟨methM, cM, hmethM, -, -, -, -, -, -, hsigM⟩ := Cond.code_spec hnamed hcode
  have hstatic : methM.isStatic = true := Cond.static_spec hnamed hmethM hstat
  obtain ⟨kP, hkP, -⟩ := className_of_methodNamed hnamed
  have hinitP : kP.init = .initialized := Cond.initialized_spec (findClass_of_methodNamed hnamed) hkP hinit
  obtain ⟨vm₁, X₁, hstep₁⟩ := X.invokestaticNest hexec hown hlink hnamed hmethM hstatic hkP hinitP hy (g := g) hg (argsL := argsL) (rest := rest) (hlen _ hsigM) hstack hdg
  rcases hK m meth c ⟨T.setVm vm₁, locs, cells, slots⟩ { g with stack := rest } (.invokestatic index) mk argsL.toArray X₁ hg hsize hdg hW (X₁.named hnamed) (hpre vm₁ X₁.warmed) with ⟨v, B, X', hpost, hsteps⟩ | ⟨q, B, X', hpost, hsteps⟩
  · exact Or.inl ⟨v, vm₁, B, X₁.warmed, X', hpost, fun target h => hstep₁ _ fun acts => by rw [doInvoke_state]; exact hsteps.trans h⟩
  · exact Or.inr ⟨q, vm₁, B, X₁.warmed, X', hpost, hstep₁ _ fun acts => by rw [doInvoke_state]; exact hsteps⟩
theorem vx_runVN {y : MethodName} {bytes cc : ByteArray} {maxL nL mc ms n index : Nat} {ret : Option FieldType} {ws : List Cond} {rm : Room} {Pc : Array Value → State → Prop} {Qc : Array Value → State → Outcome → State → Prop} {XC : String → State → State → Prop} {free : Addr → Prop} {Ts : List Cond} {own C host : String} {b : Addr} {As rest : List Value} {g : JFrame}
    (S : CallFix p m c cc nL s args Ts own) (hM : vx_Met l y ws rm Pc Qc XC mc ms free) (cw : va_CN R s args own index y host bytes maxL ret ws rm mc ms n ∧ (Cond.instanceMethod y).before args s = true ∧ (Cond.selects C y y).before args s = true) (hp : PreV s H C b Pc As)
    (hg : g.method = m) (hn : As.length = n) (hsize : g.locals.size = nL) (hstack : g.stack = As.reverse ++ .ref b :: rest) (hW : 2 * g.monitorRoom + (rest.map fun v => v.category).sum ≤ 8) (hdg : decode cc g.pc = .ok (.invokevirtual index, 3)) (hf : cells + mc ≤ R.cells ∧ slots + ms ≤ R.slots) :
    vx_Run p l e R s m args below meth c H locs cells slots mc ms g rest (Qc (Value.ref b :: As).toArray) XC free := by
  obtain ⟨⟨⟨hrc, hrs, hfr, hlo, hws, hcw⟩, hcode, hini, hy, hlen, hl⟩, hx1, hx2⟩ := cw
  have hK : vx_Back l R p e below s args y 3 8 (PreOf R mc ms Pc) (PostOf Qc mc ms free) (vx_Post XC mc ms free) := vx_back (bytes := bytes) (maxL := maxL) (ret := ret) hM hp.1 hrc hrs hfr hlo hws hcw (fun a' U hW => word_at hW (Or.inl (by first | rfl | simp [Cond.onTables, Cond.keeps, Cond.steady])) hini)
  obtain ⟨hx, hb, hml, ho, -⟩ := S
  obtain ⟨-, ⟨cellB, hcB, hoB, hclB⟩, hPc⟩ := hp
  intro T hT X
  rcases vx_callVN X hx (C := C) (bytes := bytes) (maxL := maxL) (ret := ret) ho hl hx1 hx2 hcode hy hK (by rw [hT]; exact hcB) hoB hclB hg (hsize.trans hml.symm) (argsL := As) (rest := rest) (fun sig h => hn.trans (hlen sig h)) hstack hW (by rw [hb]; exact hdg)
    (fun vm₁ hW₁ => ⟨hf.1, hf.2, hPc (T.setVm vm₁) hT hW₁⟩) with ⟨v, vm₁, ⟨U', l2, c2, s2⟩, hW₁, X', ⟨g', mk, t, L, e1, e2, hq, h1, hL, h2, h3⟩, st⟩ | ⟨q, vm₁, ⟨U', l2, c2, s2⟩, hW₁, X', ⟨g', mk, t, L, E, ce, e1, e2, hq, hce, hcv, hcl, h1, hL, h2, h3⟩, st⟩
  · dsimp only [Pt.U, Pt.locs, Pt.cells, Pt.slots] at X' e1 e2 h1 h2 h3 st
    subst h1; subst h2; subst h3
    exact Or.inl ⟨v, (T.setVm vm₁).calling g' mk (Value.ref b :: As).toArray, t, U', L, hT, X', hL, e1, e2, hq, st⟩
  · dsimp only [Pt.U, Pt.locs, Pt.cells, Pt.slots] at X' e1 e2 h1 h2 h3 st hcl
    subst h1; subst h2; subst h3
    exact Or.inr ⟨q, (T.setVm vm₁).calling g' mk (Value.ref b :: As).toArray, t, U', L, E, ce, hT, X', hL, e1, e2, hq, hce, hcv, vx_cls hW₁ hcl, st⟩
theorem vx_runSN {y : MethodName} {bytes cc : ByteArray} {maxL nL mc ms n index : Nat} {ret : Option FieldType} {ws : List Cond} {rm : Room} {Pc : Array Value → State → Prop} {Qc : Array Value → State → Outcome → State → Prop} {XC : String → State → State → Prop} {free : Addr → Prop} {Ts : List Cond} {own host : String} {As rest : List Value} {g : JFrame}
    (S : CallFix p m c cc nL s args Ts own) (hM : vx_Met l y ws rm Pc Qc XC mc ms free) (cw : va_CN R s args own index y host bytes maxL ret ws rm mc ms n ∧ (Cond.static y).before args s = true ∧ True) (hp : PreS s H Pc As)
    (hg : g.method = m) (hn : As.length = n) (hsize : g.locals.size = nL) (hstack : g.stack = As.reverse ++ rest) (hW : 2 * g.monitorRoom + (rest.map fun v => v.category).sum ≤ 8) (hdg : decode cc g.pc = .ok (.invokestatic index, 3)) (hf : cells + mc ≤ R.cells ∧ slots + ms ≤ R.slots) :
    vx_Run p l e R s m args below meth c H locs cells slots mc ms g rest (Qc As.toArray) XC free := by
  obtain ⟨⟨⟨hrc, hrs, hfr, hlo, hws, hcw⟩, hcode, hini, hy, hlen, hl⟩, hx1, hx2⟩ := cw
  have hK : vx_Back l R p e below s args y 3 8 (PreOf R mc ms Pc) (PostOf Qc mc ms free) (vx_Post XC mc ms free) := vx_back (bytes := bytes) (maxL := maxL) (ret := ret) hM hp.1 hrc hrs hfr hlo hws hcw (fun a' U hW => word_at hW (Or.inl (by first | rfl | simp [Cond.onTables, Cond.keeps, Cond.steady])) hini)
  obtain ⟨hx, hb, hml, ho, -⟩ := S
  have hPc := hp.2
  intro T hT X
  rcases vx_callSN X hx (bytes := bytes) (maxL := maxL) (ret := ret) ho hl hx1 hini hcode hy hK hg (hsize.trans hml.symm) (argsL := As) (rest := rest) (fun sig h => hn.trans (hlen sig h)) hstack hW (by rw [hb]; exact hdg)
    (fun vm₁ hW₁ => ⟨hf.1, hf.2, hPc (T.setVm vm₁) hT hW₁⟩) with ⟨v, vm₁, ⟨U', l2, c2, s2⟩, hW₁, X', ⟨g', mk, t, L, e1, e2, hq, h1, hL, h2, h3⟩, st⟩ | ⟨q, vm₁, ⟨U', l2, c2, s2⟩, hW₁, X', ⟨g', mk, t, L, E, ce, e1, e2, hq, hce, hcv, hcl, h1, hL, h2, h3⟩, st⟩
  · dsimp only [Pt.U, Pt.locs, Pt.cells, Pt.slots] at X' e1 e2 h1 h2 h3 st
    subst h1; subst h2; subst h3
    exact Or.inl ⟨v, (T.setVm vm₁).calling g' mk As.toArray, t, U', L, hT, X', hL, e1, e2, hq, st⟩
  · dsimp only [Pt.U, Pt.locs, Pt.cells, Pt.slots] at X' e1 e2 h1 h2 h3 st hcl
    subst h1; subst h2; subst h3
    exact Or.inr ⟨q, (T.setVm vm₁).calling g' mk As.toArray, t, U', L, E, ce, hT, X', hL, e1, e2, hq, hce, hcv, vx_cls hW₁ hcl, st⟩
end
/-! ===== END ===== -/
/-! ===== BEGIN calls by an interface of methods that may throw (vx_callIF, vx_runF follow va_callIF, va_runF of this kit) ===== -/
section
variable {p : Program} {l : Launch} {e : Env} {R : Room} {s : State} {m : MethodId} {args : Array Value} {below : List Frame} {meth : Method} {c : Code} {H : Heap} {locs : List Loc} {cells slots : Nat} {Q : State → Prop}
variable {mc ms : Nat} {free : Addr → Prop} {A0 A1 : Nat → Prop} {H0 : Heap} {a : Array Value} {pc : Nat} {ls : Array Slot} {st0 rest : List Value}
def vx_Run5 (p : Program) (l : Launch) (e : Env) (R : Room) (s : State) (m : MethodId) (args : Array Value) (below : List Frame) (meth : Method) (c : Code) (H : Heap) (locs : List Loc) (cells slots mc ms : Nat) (g : JFrame) (rest : List Value) (Qa : State → Outcome → State → Prop) (XC : String → State → State → Prop) (free : Addr → Prop) : Prop :=
  ∀ T : State, T.heap = H → Stand p l e R s m args below meth c T locs cells slots →
    (∃ (v : Option Value) (st₀ t T' : State) (L : List Loc), st₀.heap = H ∧ Stand p l e R s m args below meth c T' (locs ++ L) (cells + mc) (slots + ms) ∧ (∀ q ∈ L, free q.base) ∧ T'.heap = t.heap ∧ T'.vm = t.vm ∧ Qa st₀ (.returned v) t ∧
      Goes p e below T g T' { g with pc := g.pc + 5, stack := v.toList ++ rest }) ∨
    (∃ (q : Addr) (st₀ t T' : State) (L : List Loc) (E : String) (ce : Cell), st₀.heap = H ∧ Stand p l e R s m args below meth c T' (locs ++ L) (cells + mc) (slots + ms) ∧ (∀ z ∈ L, free z.base) ∧ T'.heap = t.heap ∧ T'.vm = t.vm ∧ XC E st₀ t ∧ t.heap[q]? = some ce ∧ ce.vm = .none ∧ s.vm.findClass E = some ce.cls ∧
      Steps p.tables e below (T.setTop g) ((T'.setTop { g with stack := rest }).pushFrame (.throwing q)))
theorem vx_callIF {T : State} (X : Stand p l e R s m args below meth c T locs cells slots) (hexec : p.tables.exec = Jvm.exec) {own C : String} {index count : Nat} {x y : MethodName} {bytes : ByteArray} {maxL : Nat} {ret : Option FieldType}
    (hown : s.vm.findClass own = some m.cls) (hlink : (Cond.methodLink own index x).before args s = true) (hdecl : (Cond.declares x).before args s = true) (hface : (Cond.interfaceMethod x.cls x.cls x.name x.desc).before args s = true)
    (hsel : (Cond.selects C x y).before args s = true) (hinst : (Cond.instanceMethod y).before args s = true) (hpub : (Cond.publicMethod y).before args s = true) (hunh : (Cond.unhidden C x.name x.desc).before args s = true)
    (hcast : (Cond.castable C x.cls).before args s = true) (hcode : (Cond.code y bytes maxL ret).before args s = true) (hx : x.cls ≠ "java/lang/invoke/MethodHandle" ∧ x.cls ≠ "java/lang/invoke/VarHandle")
    {W9 : Nat} {Pre : Pt → Array Value → Prop} {Post : Pt → Array Value → Option Value → Pt → Prop} {PostX : Pt → Array Value → Addr → Pt → Prop} (hK : vx_Back l R p e below s args y 5 W9 Pre Post PostX)
    {b : Addr} {cellB : Cell} {kB : Class} (hcell : T.heap[b]? = some cellB) (hobj : cellB.vm.isStatics = false) (hcls : s.vm.findClass C = some cellB.cls) (hkB : s.vm.classes[cellB.cls]? = some kB)
    {g : JFrame} (hg : g.method = m) (hsize : g.locals.size = c.maxLocals) {argsL rest : List Value} (hlen : ∀ sig, parseMethodDescriptor x.desc = some sig → argsL.length = sig.parameters.length)
    (hstack : g.stack = argsL.reverse ++ .ref b :: rest) (hW : 2 * g.monitorRoom + (rest.map fun v => v.category).sum ≤ W9) (hdg : decode c.code g.pc = .ok (.invokeinterface index count, 5))
    (hpre : ∀ vm₁, s.WarmedH vm₁ → Pre ⟨T.setVm vm₁, locs, cells, slots⟩ (Value.ref b :: argsL).toArray) :
    (∃ (v : Option Value) (vm₁ : Vm) (B : Pt), s.WarmedH vm₁ ∧ Stand p l e R s m args below meth c B.U B.locs B.cells B.slots ∧ Post ⟨T.setVm vm₁, locs, cells, slots⟩ (Value.ref b :: argsL).toArray v B ∧
      ∀ target, Steps p.tables e below (B.U.setTop { g with pc := g.pc + 5, stack := v.toList ++ rest }) target → Steps p.tables e below (T.setTop g) target) ∨
    (∃ (q : Addr) (vm₁ : Vm) (B : Pt), s.WarmedH vm₁ ∧ Stand p l e R s m args below meth c B.U B.locs B.cells B.slots ∧ PostX ⟨T.setVm vm₁, locs, cells, slots⟩ (Value.ref b :: argsL).toArray q B ∧
      Steps p.tables e below (T.setTop g) ((B.U.setTop { g with stack := rest }).pushFrame (.throwing q))) := by
  obtain ⟨r0, r, hn, hrm, hstR, hsigR⟩ := Cond.declares_spec hdecl
  obtain ⟨cL, kL, r1, hcL, hkL, hiL, hfoundL, hn1⟩ := Cond.interfaceMethod_spec hface
  cases hn.symm.trans hn1
  have hr0cls : r0.cls = cL := Option.some.inj ((findClass_of_methodNamed hn).symm.trans hcL)
  obtain ⟨hnameR, hdescR⟩ := name_of_methodNamed hn hrm
  obtain ⟨mk, methM, hnamed, hmethM, -, habM⟩ := Cond.instanceMethod_spec hinst
  obtain ⟨c2, r2, m2, q1, q2, q3, q4, -⟩ := Cond.selects_spec hsel
  cases hcls.symm.trans q1
  cases hfoundL.symm.trans q2
  cases hnamed.symm.trans q3
  have hselP : selectMethod e.platform s.vm cellB.cls r0 = .method mk := by rw [Launch.admits_selectMethod X.admits]; exact q4
  have hpubM : hasFlag methM.accessFlags Acc.public_ = true := Cond.publicMethod_spec hnamed hmethM hpub
  have hway : ((cellB.cls :: s.vm.superclasses cellB.cls).any fun k => (declaredIn s.vm r.name r.desc k).any fun (_, z) => z.isPrivate || z.isStatic) = false := by
    rw [hnameR, hdescR]; exact Cond.unhidden_spec hcls hunh
  obtain ⟨c3, t3, w1, w2, w3⟩ := Cond.castable_spec hcast
  cases hcls.symm.trans w1
  cases hcL.symm.trans w2
  obtain ⟨vm₁, X₁, hstep₁⟩ := X.invokeinterface hexec hown hlink hn hrm hstR (by rw [hr0cls]; exact hkL) hiL hx (a := b) (cell := cellB) (kcell := kB) hcell
    (fun z h => by rw [h] at hobj; cases hobj) hkB (by rw [hr0cls]; exact w3) hselP hmethM hway hpubM habM (g := g) hg (argsL := argsL) (rest := rest) (hlen _ hsigR) hstack hdg
  rcases hK m meth c ⟨T.setVm vm₁, locs, cells, slots⟩ { g with stack := rest } (.invokeinterface index count) mk (Value.ref b :: argsL).toArray X₁ hg hsize hdg hW (X₁.named hnamed) (hpre vm₁ X₁.warmed) with ⟨v, B, X', hpost, hsteps⟩ | ⟨q, B, X', hpost, hsteps⟩
  · exact Or.inl ⟨v, vm₁, B, X₁.warmed, X', hpost, fun target h => hstep₁ _ fun acts => by rw [doInvoke_state]; exact hsteps.trans h⟩
  · exact Or.inr ⟨q, vm₁, B, X₁.warmed, X', hpost, hstep₁ _ fun acts => by rw [doInvoke_state]; exact hsteps⟩
theorem vx_runF {x y : MethodName} {bytes cc : ByteArray} {maxL nL mc ms n index count : Nat} {ret : Option FieldType} {ws : List Cond} {rm : Room} {Pc : Array Value → State → Prop} {Qc : Array Value → State → Outcome → State → Prop} {XC : String → State → State → Prop} {free : Addr → Prop} {Ts : List Cond} {own C : String} {cC : ClassId} {b : Addr} {As rest : List Value} {g : JFrame}
    (hat : ClassAt s C cC) (S : CallFix p m c cc nL s args Ts own) (hM : vx_Met l y ws rm Pc Qc XC mc ms free) (cw : va_CI R s args own C index x y bytes maxL ret ws rm mc ms n) (hp : PreV s H C b Pc As)
    (hg : g.method = m) (hn : As.length = n) (hsize : g.locals.size = nL) (hstack : g.stack = As.reverse ++ .ref b :: rest) (hW : 2 * g.monitorRoom + (rest.map fun v => v.category).sum ≤ 8) (hdg : decode cc g.pc = .ok (.invokeinterface index count, 5)) (hf : cells + mc ≤ R.cells ∧ slots + ms ≤ R.slots) :
    vx_Run5 p l e R s m args below meth c H locs cells slots mc ms g rest (Qc (Value.ref b :: As).toArray) XC free := by
  obtain ⟨hrc, hrs, hfr, hlo, hws, hcw⟩ := cw.back
  have hini := cw.init
  have hK : vx_Back l R p e below s args y 5 8 (PreOf R mc ms Pc) (PostOf Qc mc ms free) (vx_Post XC mc ms free) := vx_back (bytes := bytes) (maxL := maxL) (ret := ret) hM hp.1 hrc hrs hfr hlo hws hcw (fun a' U hW => word_at hW (Or.inl (by first | rfl | simp [Cond.onTables, Cond.keeps, Cond.steady])) hini)
  obtain ⟨hx, hb, hml, ho, -⟩ := S
  obtain ⟨-, ⟨cellB, hcB, hoB, hclB⟩, hPc⟩ := hp
  obtain ⟨hfc, kB, hkB, -⟩ := hat
  cases hfc.symm.trans hclB
  intro T hT X
  rcases vx_callIF X hx (C := C) (bytes := bytes) (maxL := maxL) (ret := ret) ho cw.link cw.decl cw.face cw.sel cw.inst cw.pub cw.unh cw.cast cw.code cw.notMH hK (by rw [hT]; exact hcB) hoB hclB hkB hg (hsize.trans hml.symm) (argsL := As) (rest := rest) (fun sig h => hn.trans (cw.len sig h)) hstack hW (by rw [hb]; exact hdg)
    (fun vm₁ hW₁ => ⟨hf.1, hf.2, hPc (T.setVm vm₁) hT hW₁⟩) with ⟨v, vm₁, ⟨U', l2, c2, s2⟩, hW₁, X', ⟨g', mk, t, L, e1, e2, hq, h1, hL, h2, h3⟩, st⟩ | ⟨q, vm₁, ⟨U', l2, c2, s2⟩, hW₁, X', ⟨g', mk, t, L, E, ce, e1, e2, hq, hce, hcv, hcl, h1, hL, h2, h3⟩, st⟩
  · dsimp only [Pt.U, Pt.locs, Pt.cells, Pt.slots] at X' e1 e2 h1 h2 h3 st
    subst h1; subst h2; subst h3
    exact Or.inl ⟨v, (T.setVm vm₁).calling g' mk (Value.ref b :: As).toArray, t, U', L, hT, X', hL, e1, e2, hq, st⟩
  · dsimp only [Pt.U, Pt.locs, Pt.cells, Pt.slots] at X' e1 e2 h1 h2 h3 st hcl
    subst h1; subst h2; subst h3
    exact Or.inr ⟨q, (T.setVm vm₁).calling g' mk (Value.ref b :: As).toArray, t, U', L, E, ce, hT, X', hL, e1, e2, hq, hce, hcv, vx_cls hW₁ hcl, st⟩
theorem vx_callFv {S SX : Type} {post : S → Prop} {px : SX → Prop} {B : S → State → Prop} {BX : String → SX → State → Prop} {AX : Nat → Prop} (hr : vx_Run5 p l e R s m args below meth c H locs cells slots mc ms (F0 m pc ls st0) rest (va_Qv post B A1 a) (vx_X px BX AX) free) (hS : va_S A0 H0 H locs) (hA : ∀ q, q < H.size → A1 q → A0 q) (hf : ∀ q, free q → A0 q) (hAX : ∀ q, q < H.size → AX q → A0 q)
    (kx : ∀ (E : String) (ce : Cell) (q9 : Addr) (u : SX) (t : State) (H1 : Heap) (locs1 : List Loc), t.heap = H1 → s.vm.Alike t.vm → px u → BX E u t → H.size ≤ H1.size → (∀ q : Nat, q < H.size → ¬ AX q → H1[q]? = H[q]?) → va_S A0 H0 H1 locs1 → H1[q9]? = some ce → ce.vm = .none → s.vm.findClass E = some ce.cls → vx_W p l e R s m args below meth c H1 locs1 (cells + mc) (slots + ms) Q (F0 m pc ls rest) q9)
    (kk : ∀ (u : S) (t : State) (H1 : Heap) (locs1 : List Loc), t.heap = H1 → s.vm.Alike t.vm → post u → B u t → H.size ≤ H1.size → (∀ q : Nat, q < H.size → ¬ A1 q → H1[q]? = H[q]?) → va_S A0 H0 H1 locs1 → W p l e R s m args below meth c H1 locs1 (cells + mc) (slots + ms) Q (F0 m (pc + 5) ls (rest))) : W p l e R s m args below meth c H locs cells slots Q (F0 m pc ls st0) := by
  intro T hT X
  rcases hr T hT X with ⟨v, st₀, t, T', L, h0, X', hL, e1, e2, ⟨⟨u, hv, hp, hb⟩, hF⟩, st⟩ | ⟨q, st₀, t, T', L, E, ce, h0, X', hL, e1, e2, ⟨u, hp, hb, hF⟩, hce, hcv, hcl, st⟩
  · cases hv
    obtain ⟨k1, k2, k3⟩ := vx_keep h0 e1 hS hA hf hL hF
    obtain ⟨t2, a1, b1⟩ := kk u t T'.heap (locs ++ L) e1.symm (by rw [← e2]; exact X'.warmed.alike) hp hb k1 k2 k3 T' rfl X'
    exact ⟨t2, st t2 a1, b1⟩
  · obtain ⟨k1, k2, k3⟩ := vx_keep h0 e1 hS hAX hf hL hF
    obtain ⟨t2, a1, b1⟩ := kx E ce q u t T'.heap (locs ++ L) e1.symm (by rw [← e2]; exact X'.warmed.alike) hp hb k1 k2 k3 (by rw [e1]; exact hce) hcv hcl T' rfl X'
    exact ⟨t2, st.trans a1, b1⟩
theorem vx_callFi {S SX : Type} {post : Int32 → S → Prop} {px : SX → Prop} {B : S → State → Prop} {BX : String → SX → State → Prop} {AX : Nat → Prop} (hr : vx_Run5 p l e R s m args below meth c H locs cells slots mc ms (F0 m pc ls st0) rest (va_Qi post B A1 a) (vx_X px BX AX) free) (hS : va_S A0 H0 H locs) (hA : ∀ q, q < H.size → A1 q → A0 q) (hf : ∀ q, free q → A0 q) (hAX : ∀ q, q < H.size → AX q → A0 q)
    (kx : ∀ (E : String) (ce : Cell) (q9 : Addr) (u : SX) (t : State) (H1 : Heap) (locs1 : List Loc), t.heap = H1 → s.vm.Alike t.vm → px u → BX E u t → H.size ≤ H1.size → (∀ q : Nat, q < H.size → ¬ AX q → H1[q]? = H[q]?) → va_S A0 H0 H1 locs1 → H1[q9]? = some ce → ce.vm = .none → s.vm.findClass E = some ce.cls → vx_W p l e R s m args below meth c H1 locs1 (cells + mc) (slots + ms) Q (F0 m pc ls rest) q9)
    (kk : ∀ (r : Int32) (u : S) (t : State) (H1 : Heap) (locs1 : List Loc), t.heap = H1 → s.vm.Alike t.vm → post r u → B u t → H.size ≤ H1.size → (∀ q : Nat, q < H.size → ¬ A1 q → H1[q]? = H[q]?) → va_S A0 H0 H1 locs1 → W p l e R s m args below meth c H1 locs1 (cells + mc) (slots + ms) Q (F0 m (pc + 5) ls (.int r :: rest))) : W p l e R s m args below meth c H locs cells slots Q (F0 m pc ls st0) := by
  intro T hT X
  rcases hr T hT X with ⟨v, st₀, t, T', L, h0, X', hL, e1, e2, ⟨⟨r, u, hv, hp, hb⟩, hF⟩, st⟩ | ⟨q, st₀, t, T', L, E, ce, h0, X', hL, e1, e2, ⟨u, hp, hb, hF⟩, hce, hcv, hcl, st⟩
  · cases hv
    obtain ⟨k1, k2, k3⟩ := vx_keep h0 e1 hS hA hf hL hF
    obtain ⟨t2, a1, b1⟩ := kk r u t T'.heap (locs ++ L) e1.symm (by rw [← e2]; exact X'.warmed.alike) hp hb k1 k2 k3 T' rfl X'
    exact ⟨t2, st t2 a1, b1⟩
  · obtain ⟨k1, k2, k3⟩ := vx_keep h0 e1 hS hAX hf hL hF
    obtain ⟨t2, a1, b1⟩ := kx E ce q u t T'.heap (locs ++ L) e1.symm (by rw [← e2]; exact X'.warmed.alike) hp hb k1 k2 k3 (by rw [e1]; exact hce) hcv hcl T' rfl X'
    exact ⟨t2, st.trans a1, b1⟩
theorem vx_callFl {S SX : Type} {post : Int64 → S → Prop} {px : SX → Prop} {B : S → State → Prop} {BX : String → SX → State → Prop} {AX : Nat → Prop} (hr : vx_Run5 p l e R s m args below meth c H locs cells slots mc ms (F0 m pc ls st0) rest (va_Ql post B A1 a) (vx_X px BX AX) free) (hS : va_S A0 H0 H locs) (hA : ∀ q, q < H.size → A1 q → A0 q) (hf : ∀ q, free q → A0 q) (hAX : ∀ q, q < H.size → AX q → A0 q)
    (kx : ∀ (E : String) (ce : Cell) (q9 : Addr) (u : SX) (t : State) (H1 : Heap) (locs1 : List Loc), t.heap = H1 → s.vm.Alike t.vm → px u → BX E u t → H.size ≤ H1.size → (∀ q : Nat, q < H.size → ¬ AX q → H1[q]? = H[q]?) → va_S A0 H0 H1 locs1 → H1[q9]? = some ce → ce.vm = .none → s.vm.findClass E = some ce.cls → vx_W p l e R s m args below meth c H1 locs1 (cells + mc) (slots + ms) Q (F0 m pc ls rest) q9)
    (kk : ∀ (r : Int64) (u : S) (t : State) (H1 : Heap) (locs1 : List Loc), t.heap = H1 → s.vm.Alike t.vm → post r u → B u t → H.size ≤ H1.size → (∀ q : Nat, q < H.size → ¬ A1 q → H1[q]? = H[q]?) → va_S A0 H0 H1 locs1 → W p l e R s m args below meth c H1 locs1 (cells + mc) (slots + ms) Q (F0 m (pc + 5) ls (.long r :: rest))) : W p l e R s m args below meth c H locs cells slots Q (F0 m pc ls st0) := by
  intro T hT X
  rcases hr T hT X with ⟨v, st₀, t, T', L, h0, X', hL, e1, e2, ⟨⟨r, u, hv, hp, hb⟩, hF⟩, st⟩ | ⟨q, st₀, t, T', L, E, ce, h0, X', hL, e1, e2, ⟨u, hp, hb, hF⟩, hce, hcv, hcl, st⟩
  · cases hv
    obtain ⟨k1, k2, k3⟩ := vx_keep h0 e1 hS hA hf hL hF
    obtain ⟨t2, a1, b1⟩ := kk r u t T'.heap (locs ++ L) e1.symm (by rw [← e2]; exact X'.warmed.alike) hp hb k1 k2 k3 T' rfl X'
    exact ⟨t2, st t2 a1, b1⟩
  · obtain ⟨k1, k2, k3⟩ := vx_keep h0 e1 hS hAX hf hL hF
    obtain ⟨t2, a1, b1⟩ := kx E ce q u t T'.heap (locs ++ L) e1.symm (by rw [← e2]; exact X'.warmed.alike) hp hb k1 k2 k3 (by rw [e1]; exact hce) hcv hcl T' rfl X'
    exact ⟨t2, st.trans a1, b1⟩
theorem vx_callFf {S SX : Type} {post : UInt32 → S → Prop} {px : SX → Prop} {B : S → State → Prop} {BX : String → SX → State → Prop} {AX : Nat → Prop} (hr : vx_Run5 p l e R s m args below meth c H locs cells slots mc ms (F0 m pc ls st0) rest (va_Qf post B A1 a) (vx_X px BX AX) free) (hS : va_S A0 H0 H locs) (hA : ∀ q, q < H.size → A1 q → A0 q) (hf : ∀ q, free q → A0 q) (hAX : ∀ q, q < H.size → AX q → A0 q)
    (kx : ∀ (E : String) (ce : Cell) (q9 : Addr) (u : SX) (t : State) (H1 : Heap) (locs1 : List Loc), t.heap = H1 → s.vm.Alike t.vm → px u → BX E u t → H.size ≤ H1.size → (∀ q : Nat, q < H.size → ¬ AX q → H1[q]? = H[q]?) → va_S A0 H0 H1 locs1 → H1[q9]? = some ce → ce.vm = .none → s.vm.findClass E = some ce.cls → vx_W p l e R s m args below meth c H1 locs1 (cells + mc) (slots + ms) Q (F0 m pc ls rest) q9)
    (kk : ∀ (r : UInt32) (u : S) (t : State) (H1 : Heap) (locs1 : List Loc), t.heap = H1 → s.vm.Alike t.vm → post r u → B u t → H.size ≤ H1.size → (∀ q : Nat, q < H.size → ¬ A1 q → H1[q]? = H[q]?) → va_S A0 H0 H1 locs1 → W p l e R s m args below meth c H1 locs1 (cells + mc) (slots + ms) Q (F0 m (pc + 5) ls (.float r :: rest))) : W p l e R s m args below meth c H locs cells slots Q (F0 m pc ls st0) := by
  intro T hT X
  rcases hr T hT X with ⟨v, st₀, t, T', L, h0, X', hL, e1, e2, ⟨⟨r, u, hv, hp, hb⟩, hF⟩, st⟩ | ⟨q, st₀, t, T', L, E, ce, h0, X', hL, e1, e2, ⟨u, hp, hb, hF⟩, hce, hcv, hcl, st⟩
  · cases hv
    obtain ⟨k1, k2, k3⟩ := vx_keep h0 e1 hS hA hf hL hF
    obtain ⟨t2, a1, b1⟩ := kk r u t T'.heap (locs ++ L) e1.symm (by rw [← e2]; exact X'.warmed.alike) hp hb k1 k2 k3 T' rfl X'
    exact ⟨t2, st t2 a1, b1⟩
  · obtain ⟨k1, k2, k3⟩ := vx_keep h0 e1 hS hAX hf hL hF
    obtain ⟨t2, a1, b1⟩ := kx E ce q u t T'.heap (locs ++ L) e1.symm (by rw [← e2]; exact X'.warmed.alike) hp hb k1 k2 k3 (by rw [e1]; exact hce) hcv hcl T' rfl X'
    exact ⟨t2, st.trans a1, b1⟩
theorem vx_callFd {S SX : Type} {post : UInt64 → S → Prop} {px : SX → Prop} {B : S → State → Prop} {BX : String → SX → State → Prop} {AX : Nat → Prop} (hr : vx_Run5 p l e R s m args below meth c H locs cells slots mc ms (F0 m pc ls st0) rest (va_Qd post B A1 a) (vx_X px BX AX) free) (hS : va_S A0 H0 H locs) (hA : ∀ q, q < H.size → A1 q → A0 q) (hf : ∀ q, free q → A0 q) (hAX : ∀ q, q < H.size → AX q → A0 q)
    (kx : ∀ (E : String) (ce : Cell) (q9 : Addr) (u : SX) (t : State) (H1 : Heap) (locs1 : List Loc), t.heap = H1 → s.vm.Alike t.vm → px u → BX E u t → H.size ≤ H1.size → (∀ q : Nat, q < H.size → ¬ AX q → H1[q]? = H[q]?) → va_S A0 H0 H1 locs1 → H1[q9]? = some ce → ce.vm = .none → s.vm.findClass E = some ce.cls → vx_W p l e R s m args below meth c H1 locs1 (cells + mc) (slots + ms) Q (F0 m pc ls rest) q9)
    (kk : ∀ (r : UInt64) (u : S) (t : State) (H1 : Heap) (locs1 : List Loc), t.heap = H1 → s.vm.Alike t.vm → post r u → B u t → H.size ≤ H1.size → (∀ q : Nat, q < H.size → ¬ A1 q → H1[q]? = H[q]?) → va_S A0 H0 H1 locs1 → W p l e R s m args below meth c H1 locs1 (cells + mc) (slots + ms) Q (F0 m (pc + 5) ls (.double r :: rest))) : W p l e R s m args below meth c H locs cells slots Q (F0 m pc ls st0) := by
  intro T hT X
  rcases hr T hT X with ⟨v, st₀, t, T', L, h0, X', hL, e1, e2, ⟨⟨r, u, hv, hp, hb⟩, hF⟩, st⟩ | ⟨q, st₀, t, T', L, E, ce, h0, X', hL, e1, e2, ⟨u, hp, hb, hF⟩, hce, hcv, hcl, st⟩
  · cases hv
    obtain ⟨k1, k2, k3⟩ := vx_keep h0 e1 hS hA hf hL hF
    obtain ⟨t2, a1, b1⟩ := kk r u t T'.heap (locs ++ L) e1.symm (by rw [← e2]; exact X'.warmed.alike) hp hb k1 k2 k3 T' rfl X'
    exact ⟨t2, st t2 a1, b1⟩
  · obtain ⟨k1, k2, k3⟩ := vx_keep h0 e1 hS hAX hf hL hF
    obtain ⟨t2, a1, b1⟩ := kx E ce q u t T'.heap (locs ++ L) e1.symm (by rw [← e2]; exact X'.warmed.alike) hp hb k1 k2 k3 (by rw [e1]; exact hce) hcv hcl T' rfl X'
    exact ⟨t2, st.trans a1, b1⟩
end
/-! ===== END ===== -/
/-! ===== BEGIN by an interface, a method with a table of its own that may throw (follows va_callIFW, va_runFW) ===== -/
section
variable {p : Program} {l : Launch} {e : Env} {R : Room} {s : State} {m : MethodId} {args : Array Value} {below : List Frame} {meth : Method} {c : Code} {H : Heap} {locs : List Loc} {cells slots : Nat}
theorem vx_callIFW {T : State} (X : Stand p l e R s m args below meth c T locs cells slots) (hexec : p.tables.exec = Jvm.exec) {own C : String} {index count : Nat} {x y : MethodName} {bytes : ByteArray} {maxL : Nat} {ret : Option FieldType} {hh : List (Nat × Nat × Nat × Nat)}
    (hown : s.vm.findClass own = some m.cls) (hlink : (Cond.methodLink own index x).before args s = true) (hdecl : (Cond.declares x).before args s = true) (hface : (Cond.interfaceMethod x.cls x.cls x.name x.desc).before args s = true)
    (hsel : (Cond.selects C x y).before args s = true) (hinst : (Cond.instanceMethod y).before args s = true) (hpub : (Cond.publicMethod y).before args s = true) (hunh : (Cond.unhidden C x.name x.desc).before args s = true)
    (hcast : (Cond.castable C x.cls).before args s = true) (hcode : (Cond.codeWith y bytes maxL ret hh).before args s = true) (hx : x.cls ≠ "java/lang/invoke/MethodHandle" ∧ x.cls ≠ "java/lang/invoke/VarHandle")
    {W : Nat} {Pre : Pt → Array Value → Prop} {Post : Pt → Array Value → Option Value → Pt → Prop} {PostX : Pt → Array Value → Addr → Pt → Prop} (hK : vx_Back l R p e below s args y 5 W Pre Post PostX)
    {b : Addr} {cellB : Cell} {kB : Class} (hcell : T.heap[b]? = some cellB) (hobj : cellB.vm.isStatics = false) (hcls : s.vm.findClass C = some cellB.cls) (hkB : s.vm.classes[cellB.cls]? = some kB)
    {g : JFrame} (hg : g.method = m) (hsize : g.locals.size = c.maxLocals) {argsL rest : List Value} (hlen : ∀ sig, parseMethodDescriptor x.desc = some sig → argsL.length = sig.parameters.length)
    (hstack : g.stack = argsL.reverse ++ .ref b :: rest) (hW : 2 * g.monitorRoom + (rest.map fun v => v.category).sum ≤ W) (hdg : decode c.code g.pc = .ok (.invokeinterface index count, 5))
    (hpre : ∀ vm₁, s.WarmedH vm₁ → Pre ⟨T.setVm vm₁, locs, cells, slots⟩ (Value.ref b :: argsL).toArray) :
    (∃ (v : Option Value) (vm₁ : Vm) (B : Pt), s.WarmedH vm₁ ∧ Stand p l e R s m args below meth c B.U B.locs B.cells B.slots ∧ Post ⟨T.setVm vm₁, locs, cells, slots⟩ (Value.ref b :: argsL).toArray v B ∧
      ∀ target, Steps p.tables e below (B.U.setTop { g with pc := g.pc + 5, stack := v.toList ++ rest }) target → Steps p.tables e below (T.setTop g) target) ∨
    (∃ (q : Addr) (vm₁ : Vm) (B : Pt), s.WarmedH vm₁ ∧ Stand p l e R s m args below meth c B.U B.locs B.cells B.slots ∧ PostX ⟨T.setVm vm₁, locs, cells, slots⟩ (Value.ref b :: argsL).toArray q B ∧
      Steps p.tables e below (T.setTop g) ((B.U.setTop { g with stack := rest }).pushFrame (.throwing q))) := by
  obtain ⟨r0, r, hn, hrm, hstR, hsigR⟩ := Cond.declares_spec hdecl
  obtain ⟨cL, kL, r1, hcL, hkL, hiL, hfoundL, hn1⟩ := Cond.interfaceMethod_spec hface
  cases hn.symm.trans hn1
  have hr0cls : r0.cls = cL := Option.some.inj ((findClass_of_methodNamed hn).symm.trans hcL)
  obtain ⟨hnameR, hdescR⟩ := name_of_methodNamed hn hrm
  obtain ⟨mk, methM, hnamed, hmethM, -, habM⟩ := Cond.instanceMethod_spec hinst
  obtain ⟨c2, r2, m2, q1, q2, q3, q4, -⟩ := Cond.selects_spec hsel
  cases hcls.symm.trans q1
  cases hfoundL.symm.trans q2
  cases hnamed.symm.trans q3
  have hselP : selectMethod e.platform s.vm cellB.cls r0 = .method mk := by rw [Launch.admits_selectMethod X.admits]; exact q4
  have hpubM : hasFlag methM.accessFlags Acc.public_ = true := Cond.publicMethod_spec hnamed hmethM hpub
  have hway : ((cellB.cls :: s.vm.superclasses cellB.cls).any fun k => (declaredIn s.vm r.name r.desc k).any fun (_, z) => z.isPrivate || z.isStatic) = false := by
    rw [hnameR, hdescR]; exact Cond.unhidden_spec hcls hunh
  obtain ⟨c3, t3, w1, w2, w3⟩ := Cond.castable_spec hcast
  cases hcls.symm.trans w1
  cases hcL.symm.trans w2
  obtain ⟨vm₁, X₁, hstep₁⟩ := X.invokeinterface hexec hown hlink hn hrm hstR (by rw [hr0cls]; exact hkL) hiL hx (a := b) (cell := cellB) (kcell := kB) hcell
    (fun z h => by rw [h] at hobj; cases hobj) hkB (by rw [hr0cls]; exact w3) hselP hmethM hway hpubM habM (g := g) hg (argsL := argsL) (rest := rest) (hlen _ hsigR) hstack hdg
  rcases hK m meth c ⟨T.setVm vm₁, locs, cells, slots⟩ { g with stack := rest } (.invokeinterface index count) mk (Value.ref b :: argsL).toArray X₁ hg hsize hdg hW (X₁.named hnamed) (hpre vm₁ X₁.warmed) with ⟨v, B, X', hpost, hsteps⟩ | ⟨q, B, X', hpost, hsteps⟩
  · exact Or.inl ⟨v, vm₁, B, X₁.warmed, X', hpost, fun target h => hstep₁ _ fun acts => by rw [doInvoke_state]; exact hsteps.trans h⟩
  · exact Or.inr ⟨q, vm₁, B, X₁.warmed, X', hpost, hstep₁ _ fun acts => by rw [doInvoke_state]; exact hsteps⟩
theorem vx_runFW {x y : MethodName} {bytes cc : ByteArray} {maxL nL mc ms n index count : Nat} {ret : Option FieldType} {hh : List (Nat × Nat × Nat × Nat)} {ws : List Cond} {rm : Room} {Pc : Array Value → State → Prop} {Qc : Array Value → State → Outcome → State → Prop} {XC : String → State → State → Prop} {free : Addr → Prop} {Ts : List Cond} {own C : String} {cC : ClassId} {b : Addr} {As rest : List Value} {g : JFrame}
    (hat : ClassAt s C cC) (S : CallFix p m c cc nL s args Ts own) (hM : vx_Met l y ws rm Pc Qc XC mc ms free) (cw : va_CIW R s args own C index x y bytes maxL ret hh ws rm mc ms n) (hp : PreV s H C b Pc As)
    (hg : g.method = m) (hn : As.length = n) (hsize : g.locals.size = nL) (hstack : g.stack = As.reverse ++ .ref b :: rest) (hW : 2 * g.monitorRoom + (rest.map fun v => v.category).sum ≤ 8) (hdg : decode cc g.pc = .ok (.invokeinterface index count, 5)) (hf : cells + mc ≤ R.cells ∧ slots + ms ≤ R.slots) :
    vx_Run5 p l e R s m args below meth c H locs cells slots mc ms g rest (Qc (Value.ref b :: As).toArray) XC free := by
  obtain ⟨hrc, hrs, hfr, hlo, hws, hcw⟩ := cw.back
  have hini := cw.init
  have hK : vx_Back l R p e below s args y 5 8 (PreOf R mc ms Pc) (PostOf Qc mc ms free) (vx_Post XC mc ms free) := vx_backW (hh := hh) (bytes := bytes) (maxL := maxL) (ret := ret) hM hp.1 hrc hrs hfr hlo hws hcw (fun a' U hW => word_at hW (Or.inl (by first | rfl | simp [Cond.onTables, Cond.keeps, Cond.steady])) hini)
  obtain ⟨hx, hb, hml, ho, -⟩ := S
  obtain ⟨-, ⟨cellB, hcB, hoB, hclB⟩, hPc⟩ := hp
  obtain ⟨hfc, kB, hkB, -⟩ := hat
  cases hfc.symm.trans hclB
  intro T hT X
  rcases vx_callIFW X hx (C := C) (hh := hh) (bytes := bytes) (maxL := maxL) (ret := ret) ho cw.link cw.decl cw.face cw.sel cw.inst cw.pub cw.unh cw.cast cw.code cw.notMH hK (by rw [hT]; exact hcB) hoB hclB hkB hg (hsize.trans hml.symm) (argsL := As) (rest := rest) (fun sig h => hn.trans (cw.len sig h)) hstack hW (by rw [hb]; exact hdg)
    (fun vm₁ hW₁ => ⟨hf.1, hf.2, hPc (T.setVm vm₁) hT hW₁⟩) with ⟨v, vm₁, ⟨U', l2, c2, s2⟩, hW₁, X', ⟨g', mk, t, L, e1, e2, hq, h1, hL, h2, h3⟩, st⟩ | ⟨q, vm₁, ⟨U', l2, c2, s2⟩, hW₁, X', ⟨g', mk, t, L, E, ce, e1, e2, hq, hce, hcv, hcl, h1, hL, h2, h3⟩, st⟩
  · dsimp only [Pt.U, Pt.locs, Pt.cells, Pt.slots] at X' e1 e2 h1 h2 h3 st
    subst h1; subst h2; subst h3
    exact Or.inl ⟨v, (T.setVm vm₁).calling g' mk (Value.ref b :: As).toArray, t, U', L, hT, X', hL, e1, e2, hq, st⟩
  · dsimp only [Pt.U, Pt.locs, Pt.cells, Pt.slots] at X' e1 e2 h1 h2 h3 st hcl
    subst h1; subst h2; subst h3
    exact Or.inr ⟨q, (T.setVm vm₁).calling g' mk (Value.ref b :: As).toArray, t, U', L, E, ce, hT, X', hL, e1, e2, hq, hce, hcv, vx_cls hW₁ hcl, st⟩
end
/-! ===== END ===== -/
/-! ===== BEGIN .. of methods that hand back an object of the pool ===== -/
section
variable {p : Program} {l : Launch} {e : Env} {R : Room} {s : State} {m : MethodId} {args : Array Value} {below : List Frame} {meth : Method} {c : Code} {H : Heap} {locs : List Loc} {cells slots : Nat} {Q : State → Prop}
variable {mc ms : Nat} {free : Addr → Prop} {A0 A1 : Nat → Prop} {H0 : Heap} {a : Array Value} {pc : Nat} {ls : Array Slot} {st0 rest : List Value}
theorem vx_callq {S SX : Type} {post : Option Nat → S → Prop} {px : SX → Prop} {B : S → State → Prop} {BX : String → SX → State → Prop} {AX : Nat → Prop} (hr : vx_Run p l e R s m args below meth c H locs cells slots mc ms (F0 m pc ls st0) rest (va_Qq post B A1 a) (vx_X px BX AX) free) (hS : va_S A0 H0 H locs) (hA : ∀ q, q < H.size → A1 q → A0 q) (hf : ∀ q, free q → A0 q) (hAX : ∀ q, q < H.size → AX q → A0 q)
    (kx : ∀ (E : String) (ce : Cell) (q9 : Addr) (u : SX) (t : State) (H1 : Heap) (locs1 : List Loc), t.heap = H1 → s.vm.Alike t.vm → px u → BX E u t → H.size ≤ H1.size → (∀ q : Nat, q < H.size → ¬ AX q → H1[q]? = H[q]?) → va_S A0 H0 H1 locs1 → H1[q9]? = some ce → ce.vm = .none → s.vm.findClass E = some ce.cls → vx_W p l e R s m args below meth c H1 locs1 (cells + mc) (slots + ms) Q (F0 m pc ls rest) q9)
    (kk : ∀ (r : Option Nat) (u : S) (t : State) (H1 : Heap) (locs1 : List Loc), t.heap = H1 → s.vm.Alike t.vm → post r u → B u t → H.size ≤ H1.size → (∀ q : Nat, q < H.size → ¬ A1 q → H1[q]? = H[q]?) → va_S A0 H0 H1 locs1 → W p l e R s m args below meth c H1 locs1 (cells + mc) (slots + ms) Q (F0 m (pc + 3) ls (va_rf r :: rest))) : W p l e R s m args below meth c H locs cells slots Q (F0 m pc ls st0) := by
  intro T hT X
  rcases hr T hT X with ⟨v, st₀, t, T', L, h0, X', hL, e1, e2, ⟨⟨r, u, hv, hp, hb⟩, hF⟩, st⟩ | ⟨q, st₀, t, T', L, E, ce, h0, X', hL, e1, e2, ⟨u, hp, hb, hF⟩, hce, hcv, hcl, st⟩
  · cases hv
    obtain ⟨k1, k2, k3⟩ := vx_keep h0 e1 hS hA hf hL hF
    obtain ⟨t2, a1, b1⟩ := kk r u t T'.heap (locs ++ L) e1.symm (by rw [← e2]; exact X'.warmed.alike) hp hb k1 k2 k3 T' rfl X'
    exact ⟨t2, st t2 a1, b1⟩
  · obtain ⟨k1, k2, k3⟩ := vx_keep h0 e1 hS hAX hf hL hF
    obtain ⟨t2, a1, b1⟩ := kx E ce q u t T'.heap (locs ++ L) e1.symm (by rw [← e2]; exact X'.warmed.alike) hp hb k1 k2 k3 (by rw [e1]; exact hce) hcv hcl T' rfl X'
    exact ⟨t2, st.trans a1, b1⟩
end
/-! ===== END ===== -/
/-! ===== BEGIN .. a constant ===== -/
section
variable {p : Program} {l : Launch} {e : Env} {R : Room} {s : State} {m : MethodId} {args : Array Value} {below : List Frame} {meth : Method} {c : Code} {H : Heap} {locs : List Loc} {cells slots : Nat} {Q : State → Prop}
variable {mc ms : Nat} {free : Addr → Prop} {A0 A1 : Nat → Prop} {H0 : Heap} {a : Array Value} {pc : Nat} {ls : Array Slot} {st0 rest : List Value}
theorem vx_calle {ad : Nat → Nat} {S SX : Type} {post : Option Nat → S → Prop} {px : SX → Prop} {B : S → State → Prop} {BX : String → SX → State → Prop} {AX : Nat → Prop} (hr : vx_Run p l e R s m args below meth c H locs cells slots mc ms (F0 m pc ls st0) rest (va_Qe ad post B A1 a) (vx_X px BX AX) free) (hS : va_S A0 H0 H locs) (hA : ∀ q, q < H.size → A1 q → A0 q) (hf : ∀ q, free q → A0 q) (hAX : ∀ q, q < H.size → AX q → A0 q)
    (kx : ∀ (E : String) (ce : Cell) (q9 : Addr) (u : SX) (t : State) (H1 : Heap) (locs1 : List Loc), t.heap = H1 → s.vm.Alike t.vm → px u → BX E u t → H.size ≤ H1.size → (∀ q : Nat, q < H.size → ¬ AX q → H1[q]? = H[q]?) → va_S A0 H0 H1 locs1 → H1[q9]? = some ce → ce.vm = .none → s.vm.findClass E = some ce.cls → vx_W p l e R s m args below meth c H1 locs1 (cells + mc) (slots + ms) Q (F0 m pc ls rest) q9)
    (kk : ∀ (r : Option Nat) (u : S) (t : State) (H1 : Heap) (locs1 : List Loc), t.heap = H1 → s.vm.Alike t.vm → post r u → B u t → H.size ≤ H1.size → (∀ q : Nat, q < H.size → ¬ A1 q → H1[q]? = H[q]?) → va_S A0 H0 H1 locs1 → W p l e R s m args below meth c H1 locs1 (cells + mc) (slots + ms) Q (F0 m (pc + 3) ls (va_re ad r :: rest))) : W p l e R s m args below meth c H locs cells slots Q (F0 m pc ls st0) := by
  intro T hT X
  rcases hr T hT X with ⟨v, st₀, t, T', L, h0, X', hL, e1, e2, ⟨⟨r, u, hv, hp, hb⟩, hF⟩, st⟩ | ⟨q, st₀, t, T', L, E, ce, h0, X', hL, e1, e2, ⟨u, hp, hb, hF⟩, hce, hcv, hcl, st⟩
  · cases hv
    obtain ⟨k1, k2, k3⟩ := vx_keep h0 e1 hS hA hf hL hF
    obtain ⟨t2, a1, b1⟩ := kk r u t T'.heap (locs ++ L) e1.symm (by rw [← e2]; exact X'.warmed.alike) hp hb k1 k2 k3 T' rfl X'
    exact ⟨t2, st t2 a1, b1⟩
  · obtain ⟨k1, k2, k3⟩ := vx_keep h0 e1 hS hAX hf hL hF
    obtain ⟨t2, a1, b1⟩ := kx E ce q u t T'.heap (locs ++ L) e1.symm (by rw [← e2]; exact X'.warmed.alike) hp hb k1 k2 k3 (by rw [e1]; exact hce) hcv hcl T' rfl X'
    exact ⟨t2, st.trans a1, b1⟩
end
/-! ===== END ===== -/
/-! ===== BEGIN .. by an interface, an object ===== -/
section
variable {p : Program} {l : Launch} {e : Env} {R : Room} {s : State} {m : MethodId} {args : Array Value} {below : List Frame} {meth : Method} {c : Code} {H : Heap} {locs : List Loc} {cells slots : Nat} {Q : State → Prop}
variable {mc ms : Nat} {free : Addr → Prop} {A0 A1 : Nat → Prop} {H0 : Heap} {a : Array Value} {pc : Nat} {ls : Array Slot} {st0 rest : List Value}
theorem vx_callFq {S SX : Type} {post : Option Nat → S → Prop} {px : SX → Prop} {B : S → State → Prop} {BX : String → SX → State → Prop} {AX : Nat → Prop} (hr : vx_Run5 p l e R s m args below meth c H locs cells slots mc ms (F0 m pc ls st0) rest (va_Qq post B A1 a) (vx_X px BX AX) free) (hS : va_S A0 H0 H locs) (hA : ∀ q, q < H.size → A1 q → A0 q) (hf : ∀ q, free q → A0 q) (hAX : ∀ q, q < H.size → AX q → A0 q)
    (kx : ∀ (E : String) (ce : Cell) (q9 : Addr) (u : SX) (t : State) (H1 : Heap) (locs1 : List Loc), t.heap = H1 → s.vm.Alike t.vm → px u → BX E u t → H.size ≤ H1.size → (∀ q : Nat, q < H.size → ¬ AX q → H1[q]? = H[q]?) → va_S A0 H0 H1 locs1 → H1[q9]? = some ce → ce.vm = .none → s.vm.findClass E = some ce.cls → vx_W p l e R s m args below meth c H1 locs1 (cells + mc) (slots + ms) Q (F0 m pc ls rest) q9)
    (kk : ∀ (r : Option Nat) (u : S) (t : State) (H1 : Heap) (locs1 : List Loc), t.heap = H1 → s.vm.Alike t.vm → post r u → B u t → H.size ≤ H1.size → (∀ q : Nat, q < H.size → ¬ A1 q → H1[q]? = H[q]?) → va_S A0 H0 H1 locs1 → W p l e R s m args below meth c H1 locs1 (cells + mc) (slots + ms) Q (F0 m (pc + 5) ls (va_rf r :: rest))) : W p l e R s m args below meth c H locs cells slots Q (F0 m pc ls st0) := by
  intro T hT X
  rcases hr T hT X with ⟨v, st₀, t, T', L, h0, X', hL, e1, e2, ⟨⟨r, u, hv, hp, hb⟩, hF⟩, st⟩ | ⟨q, st₀, t, T', L, E, ce, h0, X', hL, e1, e2, ⟨u, hp, hb, hF⟩, hce, hcv, hcl, st⟩
  · cases hv
    obtain ⟨k1, k2, k3⟩ := vx_keep h0 e1 hS hA hf hL hF
    obtain ⟨t2, a1, b1⟩ := kk r u t T'.heap (locs ++ L) e1.symm (by rw [← e2]; exact X'.warmed.alike) hp hb k1 k2 k3 T' rfl X'
    exact ⟨t2, st t2 a1, b1⟩
  · obtain ⟨k1, k2, k3⟩ := vx_keep h0 e1 hS hAX hf hL hF
    obtain ⟨t2, a1, b1⟩ := kx E ce q u t T'.heap (locs ++ L) e1.symm (by rw [← e2]; exact X'.warmed.alike) hp hb k1 k2 k3 (by rw [e1]; exact hce) hcv hcl T' rfl X'
    exact ⟨t2, st.trans a1, b1⟩
end
/-! ===== END ===== -/
/-! ===== BEGIN .. by an interface, a constant ===== -/
section
variable {p : Program} {l : Launch} {e : Env} {R : Room} {s : State} {m : MethodId} {args : Array Value} {below : List Frame} {meth : Method} {c : Code} {H : Heap} {locs : List Loc} {cells slots : Nat} {Q : State → Prop}
variable {mc ms : Nat} {free : Addr → Prop} {A0 A1 : Nat → Prop} {H0 : Heap} {a : Array Value} {pc : Nat} {ls : Array Slot} {st0 rest : List Value}
theorem vx_callFe {ad : Nat → Nat} {S SX : Type} {post : Option Nat → S → Prop} {px : SX → Prop} {B : S → State → Prop} {BX : String → SX → State → Prop} {AX : Nat → Prop} (hr : vx_Run5 p l e R s m args below meth c H locs cells slots mc ms (F0 m pc ls st0) rest (va_Qe ad post B A1 a) (vx_X px BX AX) free) (hS : va_S A0 H0 H locs) (hA : ∀ q, q < H.size → A1 q → A0 q) (hf : ∀ q, free q → A0 q) (hAX : ∀ q, q < H.size → AX q → A0 q)
    (kx : ∀ (E : String) (ce : Cell) (q9 : Addr) (u : SX) (t : State) (H1 : Heap) (locs1 : List Loc), t.heap = H1 → s.vm.Alike t.vm → px u → BX E u t → H.size ≤ H1.size → (∀ q : Nat, q < H.size → ¬ AX q → H1[q]? = H[q]?) → va_S A0 H0 H1 locs1 → H1[q9]? = some ce → ce.vm = .none → s.vm.findClass E = some ce.cls → vx_W p l e R s m args below meth c H1 locs1 (cells + mc) (slots + ms) Q (F0 m pc ls rest) q9)
    (kk : ∀ (r : Option Nat) (u : S) (t : State) (H1 : Heap) (locs1 : List Loc), t.heap = H1 → s.vm.Alike t.vm → post r u → B u t → H.size ≤ H1.size → (∀ q : Nat, q < H.size → ¬ A1 q → H1[q]? = H[q]?) → va_S A0 H0 H1 locs1 → W p l e R s m args below meth c H1 locs1 (cells + mc) (slots + ms) Q (F0 m (pc + 5) ls (va_re ad r :: rest))) : W p l e R s m args below meth c H locs cells slots Q (F0 m pc ls st0) := by
  intro T hT X
  rcases hr T hT X with ⟨v, st₀, t, T', L, h0, X', hL, e1, e2, ⟨⟨r, u, hv, hp, hb⟩, hF⟩, st⟩ | ⟨q, st₀, t, T', L, E, ce, h0, X', hL, e1, e2, ⟨u, hp, hb, hF⟩, hce, hcv, hcl, st⟩
  · cases hv
    obtain ⟨k1, k2, k3⟩ := vx_keep h0 e1 hS hA hf hL hF
    obtain ⟨t2, a1, b1⟩ := kk r u t T'.heap (locs ++ L) e1.symm (by rw [← e2]; exact X'.warmed.alike) hp hb k1 k2 k3 T' rfl X'
    exact ⟨t2, st t2 a1, b1⟩
  · obtain ⟨k1, k2, k3⟩ := vx_keep h0 e1 hS hAX hf hL hF
    obtain ⟨t2, a1, b1⟩ := kx E ce q u t T'.heap (locs ++ L) e1.symm (by rw [← e2]; exact X'.warmed.alike) hp hb k1 k2 k3 (by rw [e1]; exact hce) hcv hcl T' rfl X'
    exact ⟨t2, st.trans a1, b1⟩
end
/-! ===== END ===== -/
/-! ===== BEGIN what the machine throws by itself: null at a field, at athrow ===== -/
section VXM2
variable {p : Program} {l : Launch} {e : Env} {R : Room} {s : State} {m : MethodId} {args : Array Value} {below : List Frame} {meth : Method} {c : Code} {H : Heap} {locs : List Loc} {cells slots : Nat}
variable {Q : State → Prop} {cc : ByteArray} {pc : Nat} {ls : Array Slot} {rest : List Value}
theorem vx_getfN {D cl tys} {own ref C : String} {T : u_T} {N ci index : Nat} {Ts : List Cond} (hexec : p.tables.exec = Jvm.exec) (hb : c.code = cc) (hts : ∀ w ∈ Ts, w.before args s = true) (hin : ∀ w ∈ u_ws C T N, w ∈ Ts) (hown : s.vm.findClass own = some m.cls) (hK : va_K D cl tys s) (hc : cl[ci]? = some (C, T, N)) (k : Nat) (hk : k < N) (hlink : (Cond.fieldLink own index ref (T k).2.1 (T k).2.2.1).before args s = true) (hsame : ∀ x, s.fieldFound? (T k).1 (T k).2.1 (T k).2.2.1 = some x → s.fieldFound? ref (T k).2.1 (T k).2.2.1 = some x) (hdg : decode cc pc = .ok (.getfield index, 3)) (kk : vx_NoteN p l e R s m args below meth c H locs cells slots Q (F0 m pc ls rest)) : W p l e R s m args below meth c H locs cells slots Q (F0 m pc ls (.null :: rest)) := by
  obtain ⟨hS, hfc, kC, hkC, -⟩ := hK.1 ci _ hc
  obtain ⟨cf, kf, fi, f, hi, -⟩ := hS k hk
  intro U hU X
  obtain ⟨vm', X1, st1⟩ := X.getfieldNull hexec hown hlink (hsame _ hi) (u_facts hfc hkC (u_lays hts hin hk) hi).1 (g := F0 m pc ls (.null :: rest)) rfl (rest := rest) rfl (by rw [hb]; exact hdg)
  obtain ⟨t, st, q⟩ := kk (U.setVm vm') hU X1
  exact ⟨t, st1 t st, q⟩
theorem vx_getfNN {D cl tys} {own ref C host : String} {T : u_T} {N ci index : Nat} {Ts : List Cond} (hexec : p.tables.exec = Jvm.exec) (hb : c.code = cc) (hts : ∀ w ∈ Ts, w.before args s = true) (hin : ∀ w ∈ u_ws C T N, w ∈ Ts) (hown : s.vm.findClass own = some m.cls) (hK : va_K D cl tys s) (hc : cl[ci]? = some (C, T, N)) (k : Nat) (hk : k < N) (hlink : (Cond.fieldLinkNest own index ref (T k).2.1 (T k).2.2.1 host).before args s = true) (hsame : ∀ x, s.fieldFound? (T k).1 (T k).2.1 (T k).2.2.1 = some x → s.fieldFound? ref (T k).2.1 (T k).2.2.1 = some x) (hdg : decode cc pc = .ok (.getfield index, 3)) (kk : vx_NoteN p l e R s m args below meth c H locs cells slots Q (F0 m pc ls rest)) : W p l e R s m args below meth c H locs cells slots Q (F0 m pc ls (.null :: rest)) := by
  obtain ⟨hS, hfc, kC, hkC, -⟩ := hK.1 ci _ hc
  obtain ⟨cf, kf, fi, f, hi, -⟩ := hS k hk
  intro U hU X
  obtain ⟨vm', X1, st1⟩ := X.getfieldNullNest hexec hown hlink (hsame _ hi) (u_facts hfc hkC (u_lays hts hin hk) hi).1 (g := F0 m pc ls (.null :: rest)) rfl (rest := rest) rfl (by rw [hb]; exact hdg)
  obtain ⟨t, st, q⟩ := kk (U.setVm vm') hU X1
  exact ⟨t, st1 t st, q⟩
theorem vx_putfN {D cl tys} {own ref C : String} {T : u_T} {N ci index : Nat} {Ts : List Cond} (hexec : p.tables.exec = Jvm.exec) (hb : c.code = cc) (hts : ∀ w ∈ Ts, w.before args s = true) (hin : ∀ w ∈ u_ws C T N, w ∈ Ts) (hown : s.vm.findClass own = some m.cls) (hK : va_K D cl tys s) (hc : cl[ci]? = some (C, T, N)) (k : Nat) (hk : k < N) (hlink : (Cond.fieldLink own index ref (T k).2.1 (T k).2.2.1).before args s = true) (hsame : ∀ x, s.fieldFound? (T k).1 (T k).2.1 (T k).2.2.1 = some x → s.fieldFound? ref (T k).2.1 (T k).2.2.1 = some x) (hfin : (T k).2.2.2 = false) {v : Value} (hdg : decode cc pc = .ok (.putfield index, 3)) (kk : vx_NoteN p l e R s m args below meth c H locs cells slots Q (F0 m pc ls rest)) : W p l e R s m args below meth c H locs cells slots Q (F0 m pc ls (v :: .null :: rest)) := by
  obtain ⟨hS, hfc, kC, hkC, -⟩ := hK.1 ci _ hc
  obtain ⟨cf, kf, fi, f, hi, -⟩ := hS k hk
  have hlay := hts _ (hin _ (u_in_lay hk))
  unfold u_lay at hlay
  rw [if_neg (by rw [hfin]; decide)] at hlay
  obtain ⟨c9, k9, cf9, kf9, fi9, f9, -, -, hi9, hst9, hnf9, -⟩ := Cond.lays_spec hlay
  cases hi.symm.trans hi9
  intro U hU X
  obtain ⟨vm', X1, st1⟩ := X.putfieldNull hexec hown hlink (hsame _ hi) hst9 hnf9 (g := F0 m pc ls (v :: .null :: rest)) rfl (v := v) (rest := rest) rfl (by rw [hb]; exact hdg)
  obtain ⟨t, st, q⟩ := kk (U.setVm vm') hU X1
  exact ⟨t, st1 t st, q⟩
theorem vx_putfNN {D cl tys} {own ref C host : String} {T : u_T} {N ci index : Nat} {Ts : List Cond} (hexec : p.tables.exec = Jvm.exec) (hb : c.code = cc) (hts : ∀ w ∈ Ts, w.before args s = true) (hin : ∀ w ∈ u_ws C T N, w ∈ Ts) (hown : s.vm.findClass own = some m.cls) (hK : va_K D cl tys s) (hc : cl[ci]? = some (C, T, N)) (k : Nat) (hk : k < N) (hlink : (Cond.fieldLinkNest own index ref (T k).2.1 (T k).2.2.1 host).before args s = true) (hsame : ∀ x, s.fieldFound? (T k).1 (T k).2.1 (T k).2.2.1 = some x → s.fieldFound? ref (T k).2.1 (T k).2.2.1 = some x) (hfin : (T k).2.2.2 = false) {v : Value} (hdg : decode cc pc = .ok (.putfield index, 3)) (kk : vx_NoteN p l e R s m args below meth c H locs cells slots Q (F0 m pc ls rest)) : W p l e R s m args below meth c H locs cells slots Q (F0 m pc ls (v :: .null :: rest)) := by
  obtain ⟨hS, hfc, kC, hkC, -⟩ := hK.1 ci _ hc
  obtain ⟨cf, kf, fi, f, hi, -⟩ := hS k hk
  have hlay := hts _ (hin _ (u_in_lay hk))
  unfold u_lay at hlay
  rw [if_neg (by rw [hfin]; decide)] at hlay
  obtain ⟨c9, k9, cf9, kf9, fi9, f9, -, -, hi9, hst9, hnf9, -⟩ := Cond.lays_spec hlay
  cases hi.symm.trans hi9
  intro U hU X
  obtain ⟨vm', X1, st1⟩ := X.putfieldNullNest hexec hown hlink (hsame _ hi) hst9 hnf9 (g := F0 m pc ls (v :: .null :: rest)) rfl (v := v) (rest := rest) rfl (by rw [hb]; exact hdg)
  obtain ⟨t, st, q⟩ := kk (U.setVm vm') hU X1
  exact ⟨t, st1 t st, q⟩
theorem vx_athrowN (hexec : p.tables.exec = Jvm.exec) (hb : c.code = cc) (hdg : decode cc pc = .ok (.athrow, 1)) (k : vx_NoteN p l e R s m args below meth c H locs cells slots Q (F0 m pc ls rest)) : W p l e R s m args below meth c H locs cells slots Q (F0 m pc ls (.null :: rest)) := by
  intro T hT X
  obtain ⟨t, st, q⟩ := k T hT X
  exact ⟨t, X.athrowNull hexec (g := F0 m pc ls (.null :: rest)) rfl (rest := rest) rfl (by rw [hb]; exact hdg) t st, q⟩
end VXM2
/-! ===== END ===== -/
end
section
-- ===== PART A: goes FIRST, ahead of the names: the tables' words, and 'selects' of the private methods out of them =====
/-- a private method of a class that the tables say can be made, by its rows of tables_1 -/
def lw_okq (q : MethodName × Nat) : Prop := (q.1.cls ≠ "java/lang/invoke/MethodHandle" ∧ q.1.cls ≠ "java/lang/invoke/VarHandle") ∧ Cond.instantiable q.1.cls q.2 ∈ tables_1 ∧ Cond.privateMethod q.1 ∈ tables_1 ∧ Cond.instanceMethod q.1 ∈ tables_1
theorem lw_p0 : lw_okq (⟨"java/util/ArrayList", "add", "(Ljava/lang/Object;[Ljava/lang/Object;I)V"⟩, 3) := ⟨⟨by decide +kernel, by decide +kernel⟩, List.mem_of_getElem? (i := 40) (by decide +kernel), List.mem_of_getElem? (i := 140) (by decide +kernel), List.mem_of_getElem? (i := 141) (by decide +kernel)⟩
theorem lw_p1 : lw_okq (⟨"java/util/ArrayList", "grow", "()[Ljava/lang/Object;"⟩, 3) := ⟨⟨by decide +kernel, by decide +kernel⟩, List.mem_of_getElem? (i := 40) (by decide +kernel), List.mem_of_getElem? (i := 144) (by decide +kernel), List.mem_of_getElem? (i := 145) (by decide +kernel)⟩
theorem lw_p2 : lw_okq (⟨"java/util/ArrayList", "grow", "(I)[Ljava/lang/Object;"⟩, 3) := ⟨⟨by decide +kernel, by decide +kernel⟩, List.mem_of_getElem? (i := 40) (by decide +kernel), List.mem_of_getElem? (i := 148) (by decide +kernel), List.mem_of_getElem? (i := 149) (by decide +kernel)⟩
theorem lw_p3 : lw_okq (⟨"java/lang/Throwable", "fillInStackTrace", "(I)Ljava/lang/Throwable;"⟩, 6) := ⟨⟨by decide +kernel, by decide +kernel⟩, List.mem_of_getElem? (i := 481) (by decide +kernel), List.mem_of_getElem? (i := 479) (by decide +kernel), List.mem_of_getElem? (i := 480) (by decide +kernel)⟩
theorem lw_p4 : lw_okq (⟨"AllotmentLedger", "projectOfPath", "(I)LAllotmentLedger$Project;"⟩, 11) := ⟨⟨by decide +kernel, by decide +kernel⟩, List.mem_of_getElem? (i := 32) (by decide +kernel), List.mem_of_getElem? (i := 593) (by decide +kernel), List.mem_of_getElem? (i := 594) (by decide +kernel)⟩
theorem lw_p5 : lw_okq (⟨"AllotmentLedger", "childOf", "(LAllotmentLedger$Project;C)LAllotmentLedger$Project;"⟩, 11) := ⟨⟨by decide +kernel, by decide +kernel⟩, List.mem_of_getElem? (i := 32) (by decide +kernel), List.mem_of_getElem? (i := 612) (by decide +kernel), List.mem_of_getElem? (i := 613) (by decide +kernel)⟩
theorem lw_p6 : lw_okq (⟨"AllotmentLedger", "projectOfNumber", "(I)LAllotmentLedger$Project;"⟩, 11) := ⟨⟨by decide +kernel, by decide +kernel⟩, List.mem_of_getElem? (i := 32) (by decide +kernel), List.mem_of_getElem? (i := 711) (by decide +kernel), List.mem_of_getElem? (i := 712) (by decide +kernel)⟩
theorem lw_p7 : lw_okq (⟨"AllotmentLedger", "canMove", "(LAllotmentLedger$Project;LAllotmentLedger$Project;)Z"⟩, 11) := ⟨⟨by decide +kernel, by decide +kernel⟩, List.mem_of_getElem? (i := 32) (by decide +kernel), List.mem_of_getElem? (i := 728) (by decide +kernel), List.mem_of_getElem? (i := 729) (by decide +kernel)⟩
theorem lw_p8 : lw_okq (⟨"AllotmentLedger", "deepestWithin", "(LAllotmentLedger$Project;)I"⟩, 11) := ⟨⟨by decide +kernel, by decide +kernel⟩, List.mem_of_getElem? (i := 32) (by decide +kernel), List.mem_of_getElem? (i := 736) (by decide +kernel), List.mem_of_getElem? (i := 737) (by decide +kernel)⟩
theorem lw_p9 : lw_okq (⟨"AllotmentLedger", "chargeFilesWithin", "(LAllotmentLedger$Project;I)V"⟩, 11) := ⟨⟨by decide +kernel, by decide +kernel⟩, List.mem_of_getElem? (i := 32) (by decide +kernel), List.mem_of_getElem? (i := 746) (by decide +kernel), List.mem_of_getElem? (i := 747) (by decide +kernel)⟩
theorem lw_p10 : lw_okq (⟨"AllotmentLedger", "blocksUsedBy", "(LAllotmentLedger$StoredFile;)I"⟩, 11) := ⟨⟨by decide +kernel, by decide +kernel⟩, List.mem_of_getElem? (i := 32) (by decide +kernel), List.mem_of_getElem? (i := 751) (by decide +kernel), List.mem_of_getElem? (i := 752) (by decide +kernel)⟩
theorem lw_p11 : lw_okq (⟨"AllotmentLedger", "charge", "(LAllotmentLedger$StoredFile;II)V"⟩, 11) := ⟨⟨by decide +kernel, by decide +kernel⟩, List.mem_of_getElem? (i := 32) (by decide +kernel), List.mem_of_getElem? (i := 756) (by decide +kernel), List.mem_of_getElem? (i := 757) (by decide +kernel)⟩
theorem lw_p12 : lw_okq (⟨"AllotmentLedger", "accountsOf", "(LAllotmentLedger$StoredFile;)Ljava/util/ArrayList;"⟩, 11) := ⟨⟨by decide +kernel, by decide +kernel⟩, List.mem_of_getElem? (i := 32) (by decide +kernel), List.mem_of_getElem? (i := 760) (by decide +kernel), List.mem_of_getElem? (i := 761) (by decide +kernel)⟩
theorem lw_p13 : lw_okq (⟨"AllotmentLedger", "noteOverAccounts", "()V"⟩, 11) := ⟨⟨by decide +kernel, by decide +kernel⟩, List.mem_of_getElem? (i := 32) (by decide +kernel), List.mem_of_getElem? (i := 772) (by decide +kernel), List.mem_of_getElem? (i := 773) (by decide +kernel)⟩
theorem lw_p14 : lw_okq (⟨"AllotmentLedger", "projectsWithin", "(LAllotmentLedger$Project;)I"⟩, 11) := ⟨⟨by decide +kernel, by decide +kernel⟩, List.mem_of_getElem? (i := 32) (by decide +kernel), List.mem_of_getElem? (i := 780) (by decide +kernel), List.mem_of_getElem? (i := 781) (by decide +kernel)⟩
theorem lw_p15 : lw_okq (⟨"AllotmentLedger", "accountOf", "(II)LAllotmentLedger$Account;"⟩, 11) := ⟨⟨by decide +kernel, by decide +kernel⟩, List.mem_of_getElem? (i := 32) (by decide +kernel), List.mem_of_getElem? (i := 799) (by decide +kernel), List.mem_of_getElem? (i := 800) (by decide +kernel)⟩
def lw_privs_1 : List (MethodName × Nat) := [(⟨"java/util/ArrayList", "add", "(Ljava/lang/Object;[Ljava/lang/Object;I)V"⟩, 3), (⟨"java/util/ArrayList", "grow", "()[Ljava/lang/Object;"⟩, 3), (⟨"java/util/ArrayList", "grow", "(I)[Ljava/lang/Object;"⟩, 3), (⟨"java/lang/Throwable", "fillInStackTrace", "(I)Ljava/lang/Throwable;"⟩, 6), (⟨"AllotmentLedger", "projectOfPath", "(I)LAllotmentLedger$Project;"⟩, 11), (⟨"AllotmentLedger", "childOf", "(LAllotmentLedger$Project;C)LAllotmentLedger$Project;"⟩, 11), (⟨"AllotmentLedger", "projectOfNumber", "(I)LAllotmentLedger$Project;"⟩, 11), (⟨"AllotmentLedger", "canMove", "(LAllotmentLedger$Project;LAllotmentLedger$Project;)Z"⟩, 11), (⟨"AllotmentLedger", "deepestWithin", "(LAllotmentLedger$Project;)I"⟩, 11), (⟨"AllotmentLedger", "chargeFilesWithin", "(LAllotmentLedger$Project;I)V"⟩, 11), (⟨"AllotmentLedger", "blocksUsedBy", "(LAllotmentLedger$StoredFile;)I"⟩, 11), (⟨"AllotmentLedger", "charge", "(LAllotmentLedger$StoredFile;II)V"⟩, 11), (⟨"AllotmentLedger", "accountsOf", "(LAllotmentLedger$StoredFile;)Ljava/util/ArrayList;"⟩, 11), (⟨"AllotmentLedger", "noteOverAccounts", "()V"⟩, 11), (⟨"AllotmentLedger", "projectsWithin", "(LAllotmentLedger$Project;)I"⟩, 11), (⟨"AllotmentLedger", "accountOf", "(II)LAllotmentLedger$Account;"⟩, 11)]
theorem lw_r1 : ∀ q ∈ lw_privs_1, lw_okq q := List.forall_mem_cons.mpr ⟨lw_p0, List.forall_mem_cons.mpr ⟨lw_p1, List.forall_mem_cons.mpr ⟨lw_p2, List.forall_mem_cons.mpr ⟨lw_p3, List.forall_mem_cons.mpr ⟨lw_p4, List.forall_mem_cons.mpr ⟨lw_p5, List.forall_mem_cons.mpr ⟨lw_p6, List.forall_mem_cons.mpr ⟨lw_p7, List.forall_mem_cons.mpr ⟨lw_p8, List.forall_mem_cons.mpr ⟨lw_p9, List.forall_mem_cons.mpr ⟨lw_p10, List.forall_mem_cons.mpr ⟨lw_p11, List.forall_mem_cons.mpr ⟨lw_p12, List.forall_mem_cons.mpr ⟨lw_p13, List.forall_mem_cons.mpr ⟨lw_p14, List.forall_mem_cons.mpr ⟨lw_p15, fun _ h => absurd h List.not_mem_nil⟩⟩⟩⟩⟩⟩⟩⟩⟩⟩⟩⟩⟩⟩⟩⟩
theorem lw_p16 : lw_okq (⟨"AllotmentLedger", "barringPlace", "(LAllotmentLedger$StoredFile;II)I"⟩, 11) := ⟨⟨by decide +kernel, by decide +kernel⟩, List.mem_of_getElem? (i := 32) (by decide +kernel), List.mem_of_getElem? (i := 835) (by decide +kernel), List.mem_of_getElem? (i := 836) (by decide +kernel)⟩
theorem lw_p17 : lw_okq (⟨"AllotmentLedger", "liveFile", "(I)LAllotmentLedger$StoredFile;"⟩, 11) := ⟨⟨by decide +kernel, by decide +kernel⟩, List.mem_of_getElem? (i := 32) (by decide +kernel), List.mem_of_getElem? (i := 862) (by decide +kernel), List.mem_of_getElem? (i := 863) (by decide +kernel)⟩
theorem lw_p18 : lw_okq (⟨"AllotmentLedger", "countsIn", "(LAllotmentLedger$StoredFile;LAllotmentLedger$Account;)Z"⟩, 11) := ⟨⟨by decide +kernel, by decide +kernel⟩, List.mem_of_getElem? (i := 32) (by decide +kernel), List.mem_of_getElem? (i := 958) (by decide +kernel), List.mem_of_getElem? (i := 959) (by decide +kernel)⟩
theorem lw_p19 : lw_okq (⟨"AllotmentLedger", "take", "(LAllotmentLedger$StoredFile;)V"⟩, 11) := ⟨⟨by decide +kernel, by decide +kernel⟩, List.mem_of_getElem? (i := 32) (by decide +kernel), List.mem_of_getElem? (i := 987) (by decide +kernel), List.mem_of_getElem? (i := 988) (by decide +kernel)⟩
theorem lw_p20 : lw_okq (⟨"AllotmentLedgerModel", "refused", "(I)Z"⟩, 23) := ⟨⟨by decide +kernel, by decide +kernel⟩, List.mem_of_getElem? (i := 998) (by decide +kernel), List.mem_of_getElem? (i := 1085) (by decide +kernel), List.mem_of_getElem? (i := 1086) (by decide +kernel)⟩
theorem lw_p21 : lw_okq (⟨"AllotmentLedgerModel", "fine", "(I)I"⟩, 23) := ⟨⟨by decide +kernel, by decide +kernel⟩, List.mem_of_getElem? (i := 998) (by decide +kernel), List.mem_of_getElem? (i := 1097) (by decide +kernel), List.mem_of_getElem? (i := 1098) (by decide +kernel)⟩
theorem lw_p22 : lw_okq (⟨"AllotmentLedgerModel", "find", "(I)I"⟩, 23) := ⟨⟨by decide +kernel, by decide +kernel⟩, List.mem_of_getElem? (i := 998) (by decide +kernel), List.mem_of_getElem? (i := 1105) (by decide +kernel), List.mem_of_getElem? (i := 1106) (by decide +kernel)⟩
theorem lw_p23 : lw_okq (⟨"AllotmentLedgerModel", "isProject", "(I)Z"⟩, 23) := ⟨⟨by decide +kernel, by decide +kernel⟩, List.mem_of_getElem? (i := 998) (by decide +kernel), List.mem_of_getElem? (i := 1117) (by decide +kernel), List.mem_of_getElem? (i := 1118) (by decide +kernel)⟩
theorem lw_p24 : lw_okq (⟨"AllotmentLedgerModel", "canMove", "(I)Z"⟩, 23) := ⟨⟨by decide +kernel, by decide +kernel⟩, List.mem_of_getElem? (i := 998) (by decide +kernel), List.mem_of_getElem? (i := 1124) (by decide +kernel), List.mem_of_getElem? (i := 1125) (by decide +kernel)⟩
theorem lw_p25 : lw_okq (⟨"AllotmentLedgerModel", "isWithin", "(II)Z"⟩, 23) := ⟨⟨by decide +kernel, by decide +kernel⟩, List.mem_of_getElem? (i := 998) (by decide +kernel), List.mem_of_getElem? (i := 1128) (by decide +kernel), List.mem_of_getElem? (i := 1129) (by decide +kernel)⟩
theorem lw_p26 : lw_okq (⟨"AllotmentLedgerModel", "child", "(IC)I"⟩, 23) := ⟨⟨by decide +kernel, by decide +kernel⟩, List.mem_of_getElem? (i := 998) (by decide +kernel), List.mem_of_getElem? (i := 1132) (by decide +kernel), List.mem_of_getElem? (i := 1133) (by decide +kernel)⟩
theorem lw_p27 : lw_okq (⟨"AllotmentLedgerModel", "deepest", "(I)I"⟩, 23) := ⟨⟨by decide +kernel, by decide +kernel⟩, List.mem_of_getElem? (i := 998) (by decide +kernel), List.mem_of_getElem? (i := 1136) (by decide +kernel), List.mem_of_getElem? (i := 1137) (by decide +kernel)⟩
theorem lw_p28 : lw_okq (⟨"AllotmentLedgerModel", "lead", "(II)V"⟩, 23) := ⟨⟨by decide +kernel, by decide +kernel⟩, List.mem_of_getElem? (i := 998) (by decide +kernel), List.mem_of_getElem? (i := 1140) (by decide +kernel), List.mem_of_getElem? (i := 1141) (by decide +kernel)⟩
theorem lw_p29 : lw_okq (⟨"AllotmentLedgerModel", "look", "()V"⟩, 23) := ⟨⟨by decide +kernel, by decide +kernel⟩, List.mem_of_getElem? (i := 998) (by decide +kernel), List.mem_of_getElem? (i := 1144) (by decide +kernel), List.mem_of_getElem? (i := 1145) (by decide +kernel)⟩
theorem lw_p30 : lw_okq (⟨"AllotmentLedgerModel", "sum", "(II)I"⟩, 23) := ⟨⟨by decide +kernel, by decide +kernel⟩, List.mem_of_getElem? (i := 998) (by decide +kernel), List.mem_of_getElem? (i := 1148) (by decide +kernel), List.mem_of_getElem? (i := 1149) (by decide +kernel)⟩
theorem lw_p31 : lw_okq (⟨"AllotmentLedgerModel", "counts", "(II)Z"⟩, 23) := ⟨⟨by decide +kernel, by decide +kernel⟩, List.mem_of_getElem? (i := 998) (by decide +kernel), List.mem_of_getElem? (i := 1152) (by decide +kernel), List.mem_of_getElem? (i := 1153) (by decide +kernel)⟩
def lw_privs_2 : List (MethodName × Nat) := [(⟨"AllotmentLedger", "barringPlace", "(LAllotmentLedger$StoredFile;II)I"⟩, 11), (⟨"AllotmentLedger", "liveFile", "(I)LAllotmentLedger$StoredFile;"⟩, 11), (⟨"AllotmentLedger", "countsIn", "(LAllotmentLedger$StoredFile;LAllotmentLedger$Account;)Z"⟩, 11), (⟨"AllotmentLedger", "take", "(LAllotmentLedger$StoredFile;)V"⟩, 11), (⟨"AllotmentLedgerModel", "refused", "(I)Z"⟩, 23), (⟨"AllotmentLedgerModel", "fine", "(I)I"⟩, 23), (⟨"AllotmentLedgerModel", "find", "(I)I"⟩, 23), (⟨"AllotmentLedgerModel", "isProject", "(I)Z"⟩, 23), (⟨"AllotmentLedgerModel", "canMove", "(I)Z"⟩, 23), (⟨"AllotmentLedgerModel", "isWithin", "(II)Z"⟩, 23), (⟨"AllotmentLedgerModel", "child", "(IC)I"⟩, 23), (⟨"AllotmentLedgerModel", "deepest", "(I)I"⟩, 23), (⟨"AllotmentLedgerModel", "lead", "(II)V"⟩, 23), (⟨"AllotmentLedgerModel", "look", "()V"⟩, 23), (⟨"AllotmentLedgerModel", "sum", "(II)I"⟩, 23), (⟨"AllotmentLedgerModel", "counts", "(II)Z"⟩, 23)]
theorem lw_r2 : ∀ q ∈ lw_privs_2, lw_okq q := List.forall_mem_cons.mpr ⟨lw_p16, List.forall_mem_cons.mpr ⟨lw_p17, List.forall_mem_cons.mpr ⟨lw_p18, List.forall_mem_cons.mpr ⟨lw_p19, List.forall_mem_cons.mpr ⟨lw_p20, List.forall_mem_cons.mpr ⟨lw_p21, List.forall_mem_cons.mpr ⟨lw_p22, List.forall_mem_cons.mpr ⟨lw_p23, List.forall_mem_cons.mpr ⟨lw_p24, List.forall_mem_cons.mpr ⟨lw_p25, List.forall_mem_cons.mpr ⟨lw_p26, List.forall_mem_cons.mpr ⟨lw_p27, List.forall_mem_cons.mpr ⟨lw_p28, List.forall_mem_cons.mpr ⟨lw_p29, List.forall_mem_cons.mpr ⟨lw_p30, List.forall_mem_cons.mpr ⟨lw_p31, fun _ h => absurd h List.not_mem_nil⟩⟩⟩⟩⟩⟩⟩⟩⟩⟩⟩⟩⟩⟩⟩⟩
theorem lw_p32 : lw_okq (⟨"AllotmentLedgerModel", "usage", "(I)I"⟩, 23) := ⟨⟨by decide +kernel, by decide +kernel⟩, List.mem_of_getElem? (i := 998) (by decide +kernel), List.mem_of_getElem? (i := 1156) (by decide +kernel), List.mem_of_getElem? (i := 1157) (by decide +kernel)⟩
theorem lw_p33 : lw_okq (⟨"AllotmentLedgerModel", "barring", "(IIII)I"⟩, 23) := ⟨⟨by decide +kernel, by decide +kernel⟩, List.mem_of_getElem? (i := 998) (by decide +kernel), List.mem_of_getElem? (i := 1172) (by decide +kernel), List.mem_of_getElem? (i := 1173) (by decide +kernel)⟩
theorem lw_p34 : lw_okq (⟨"AllotmentLedgerModel", "asked", "(III)I"⟩, 23) := ⟨⟨by decide +kernel, by decide +kernel⟩, List.mem_of_getElem? (i := 998) (by decide +kernel), List.mem_of_getElem? (i := 1176) (by decide +kernel), List.mem_of_getElem? (i := 1177) (by decide +kernel)⟩
theorem lw_p35 : lw_okq (⟨"AllotmentLedgerModel", "isGraceGone", "(I)Z"⟩, 23) := ⟨⟨by decide +kernel, by decide +kernel⟩, List.mem_of_getElem? (i := 998) (by decide +kernel), List.mem_of_getElem? (i := 1180) (by decide +kernel), List.mem_of_getElem? (i := 1181) (by decide +kernel)⟩
theorem lw_p36 : lw_okq (⟨"AllotmentLedgerModel", "countFiles", "(I)I"⟩, 23) := ⟨⟨by decide +kernel, by decide +kernel⟩, List.mem_of_getElem? (i := 998) (by decide +kernel), List.mem_of_getElem? (i := 1184) (by decide +kernel), List.mem_of_getElem? (i := 1185) (by decide +kernel)⟩
theorem lw_p37 : lw_okq (⟨"AllotmentLedgerModel", "isFile", "(I)Z"⟩, 23) := ⟨⟨by decide +kernel, by decide +kernel⟩, List.mem_of_getElem? (i := 998) (by decide +kernel), List.mem_of_getElem? (i := 1192) (by decide +kernel), List.mem_of_getElem? (i := 1193) (by decide +kernel)⟩
theorem lw_p38 : lw_okq (⟨"AllotmentLedgerModel", "accountOf", "(II)I"⟩, 23) := ⟨⟨by decide +kernel, by decide +kernel⟩, List.mem_of_getElem? (i := 998) (by decide +kernel), List.mem_of_getElem? (i := 1216) (by decide +kernel), List.mem_of_getElem? (i := 1217) (by decide +kernel)⟩
theorem lw_p39 : lw_okq (⟨"AllotmentLedgerModel", "noAccount", "(I)Z"⟩, 23) := ⟨⟨by decide +kernel, by decide +kernel⟩, List.mem_of_getElem? (i := 998) (by decide +kernel), List.mem_of_getElem? (i := 1229) (by decide +kernel), List.mem_of_getElem? (i := 1230) (by decide +kernel)⟩
def lw_privs_3 : List (MethodName × Nat) := [(⟨"AllotmentLedgerModel", "usage", "(I)I"⟩, 23), (⟨"AllotmentLedgerModel", "barring", "(IIII)I"⟩, 23), (⟨"AllotmentLedgerModel", "asked", "(III)I"⟩, 23), (⟨"AllotmentLedgerModel", "isGraceGone", "(I)Z"⟩, 23), (⟨"AllotmentLedgerModel", "countFiles", "(I)I"⟩, 23), (⟨"AllotmentLedgerModel", "isFile", "(I)Z"⟩, 23), (⟨"AllotmentLedgerModel", "accountOf", "(II)I"⟩, 23), (⟨"AllotmentLedgerModel", "noAccount", "(I)Z"⟩, 23)]
theorem lw_r3 : ∀ q ∈ lw_privs_3, lw_okq q := List.forall_mem_cons.mpr ⟨lw_p32, List.forall_mem_cons.mpr ⟨lw_p33, List.forall_mem_cons.mpr ⟨lw_p34, List.forall_mem_cons.mpr ⟨lw_p35, List.forall_mem_cons.mpr ⟨lw_p36, List.forall_mem_cons.mpr ⟨lw_p37, List.forall_mem_cons.mpr ⟨lw_p38, List.forall_mem_cons.mpr ⟨lw_p39, fun _ h => absurd h List.not_mem_nil⟩⟩⟩⟩⟩⟩⟩⟩
def lw_privs : List (MethodName × Nat) := lw_privs_1 ++ (lw_privs_2 ++ (lw_privs_3))
def lw_tbl : List Cond := k2_sels lw_privs ++ tables_1
theorem lw_privs_ok : ∀ q ∈ lw_privs, lw_okq q := by
  show ∀ q ∈ lw_privs_1 ++ (lw_privs_2 ++ (lw_privs_3)), lw_okq q
  exact List.forall_mem_append.mpr ⟨lw_r1, List.forall_mem_append.mpr ⟨lw_r2, lw_r3⟩⟩
-- ===== end of PART A; then your names; then what follows =====
def RX0 : String := "AllotmentLedger$Account"
def TX0 : u_T := fun k => match k with
  | 0 => ("AllotmentLedger$Account", "softLimit", "I", false)
  | 1 => ("AllotmentLedger$Account", "hardLimit", "I", false)
  | 2 => ("AllotmentLedger$Account", "fileLimit", "I", false)
  | 3 => ("AllotmentLedger$Account", "usedBlocks", "I", false)
  | 4 => ("AllotmentLedger$Account", "files", "I", false)
  | 5 => ("AllotmentLedger$Account", "countedBlocks", "I", false)
  | 6 => ("AllotmentLedger$Account", "over", "Z", false)
  | _ => ("AllotmentLedger$Account", "overSince", "I", false)
def tyX0 : Nat → FieldType := fun k => match k with
  | 0 => .int
  | 1 => .int
  | 2 => .int
  | 3 => .int
  | 4 => .int
  | 5 => .int
  | 6 => .boolean
  | _ => .int
abbrev wsX00 : List Cond := u_ws RX0 TX0 8
theorem nmX0 : ∀ a, a < 8 → ∀ b, b < 8 → a ≠ b → (TX0 a).2.1 ≠ (TX0 b).2.1 := by decide +kernel
theorem tyX0_ok : ∀ k, k < 8 → parseFieldDescriptor (TX0 k).2.2.1 = some (tyX0 k) := by decide +kernel
abbrev cX0_init : ByteArray := prog_2_method_1_code
def yX0_init : MethodName := ⟨RX0, "<init>", "()V"⟩
abbrev cX0_add : ByteArray := prog_2_method_2_code
def yX0_add : MethodName := ⟨RX0, "add", "(II)V"⟩
abbrev cX0_noteOver : ByteArray := prog_2_method_3_code
def yX0_noteOver : MethodName := ⟨RX0, "noteOver", "(I)V"⟩
abbrev cX0_graceLeft : ByteArray := prog_2_method_4_code
def yX0_graceLeft : MethodName := ⟨RX0, "graceLeft", "(I)I"⟩
abbrev cX0_blocksLeft : ByteArray := prog_2_method_5_code
def yX0_blocksLeft : MethodName := ⟨RX0, "blocksLeft", "(I)I"⟩
abbrev cX0_bars : ByteArray := prog_2_method_6_code
def yX0_bars : MethodName := ⟨RX0, "bars", "(III)Z"⟩
def RX1 : String := "AllotmentLedger$Project"
def TX1 : u_T := fun k => match k with
  | 0 => ("AllotmentLedger$Project", "number", "I", true)
  | 1 => ("AllotmentLedger$Project", "letter", "C", true)
  | 2 => ("AllotmentLedger$Project", "account", "LAllotmentLedger$Account;", true)
  | _ => ("AllotmentLedger$Project", "parent", "LAllotmentLedger$Project;", false)
def tyX1 : Nat → FieldType := fun k => match k with
  | 0 => .int
  | 1 => .char
  | 2 => .object "AllotmentLedger$Account"
  | _ => .object "AllotmentLedger$Project"
abbrev wsX10 : List Cond := u_ws RX1 TX1 4
theorem nmX1 : ∀ a, a < 4 → ∀ b, b < 4 → a ≠ b → (TX1 a).2.1 ≠ (TX1 b).2.1 := by decide +kernel
theorem tyX1_ok : ∀ k, k < 4 → parseFieldDescriptor (TX1 k).2.2.1 = some (tyX1 k) := by decide +kernel
abbrev cX1_init : ByteArray := prog_3_method_1_code
def yX1_init : MethodName := ⟨RX1, "<init>", "(ILAllotmentLedger$Project;C)V"⟩
abbrev cX1_letters : ByteArray := prog_3_method_2_code
def yX1_letters : MethodName := ⟨RX1, "letters", "()I"⟩
abbrev cX1_isWithin : ByteArray := prog_3_method_3_code
def yX1_isWithin : MethodName := ⟨RX1, "isWithin", "(LAllotmentLedger$Project;)Z"⟩
def RX2 : String := "AllotmentLedger$Reservation"
def TX2 : u_T := fun k => match k with
  | 0 => ("AllotmentLedger$Reservation", "file", "LAllotmentLedger$StoredFile;", true)
  | 1 => ("AllotmentLedger$Reservation", "blocks", "I", true)
  | _ => ("AllotmentLedger$Reservation", "open", "Z", false)
def tyX2 : Nat → FieldType := fun k => match k with
  | 0 => .object "AllotmentLedger$StoredFile"
  | 1 => .int
  | _ => .boolean
abbrev wsX20 : List Cond := u_ws RX2 TX2 3
theorem nmX2 : ∀ a, a < 3 → ∀ b, b < 3 → a ≠ b → (TX2 a).2.1 ≠ (TX2 b).2.1 := by decide +kernel
theorem tyX2_ok : ∀ k, k < 3 → parseFieldDescriptor (TX2 k).2.2.1 = some (tyX2 k) := by decide +kernel
abbrev cX2_init : ByteArray := prog_4_method_1_code
def yX2_init : MethodName := ⟨RX2, "<init>", "(LAllotmentLedger$StoredFile;I)V"⟩
def RX3 : String := "AllotmentLedger$StoredFile"
def TX3 : u_T := fun k => match k with
  | 0 => ("AllotmentLedger$StoredFile", "number", "I", true)
  | 1 => ("AllotmentLedger$StoredFile", "owner", "LAllotmentLedger$Account;", true)
  | 2 => ("AllotmentLedger$StoredFile", "group", "LAllotmentLedger$Account;", true)
  | 3 => ("AllotmentLedger$StoredFile", "project", "LAllotmentLedger$Project;", false)
  | 4 => ("AllotmentLedger$StoredFile", "blocks", "I", false)
  | _ => ("AllotmentLedger$StoredFile", "deleted", "Z", false)
def tyX3 : Nat → FieldType := fun k => match k with
  | 0 => .int
  | 1 => .object "AllotmentLedger$Account"
  | 2 => .object "AllotmentLedger$Account"
  | 3 => .object "AllotmentLedger$Project"
  | 4 => .int
  | _ => .boolean
abbrev wsX30 : List Cond := u_ws RX3 TX3 6
theorem nmX3 : ∀ a, a < 6 → ∀ b, b < 6 → a ≠ b → (TX3 a).2.1 ≠ (TX3 b).2.1 := by decide +kernel
theorem tyX3_ok : ∀ k, k < 6 → parseFieldDescriptor (TX3 k).2.2.1 = some (tyX3 k) := by decide +kernel
abbrev cX3_init : ByteArray := prog_5_method_1_code
def yX3_init : MethodName := ⟨RX3, "<init>", "(ILAllotmentLedger$Account;LAllotmentLedger$Account;LAllotmentLedger$Project;)V"⟩
def RX4 : String := "AllotmentLedger"
def TX4 : u_T := fun k => match k with
  | 0 => ("AllotmentLedger", "users", "Ljava/util/ArrayList;", true)
  | 1 => ("AllotmentLedger", "groups", "Ljava/util/ArrayList;", true)
  | 2 => ("AllotmentLedger", "tree", "Ljava/util/ArrayList;", true)
  | 3 => ("AllotmentLedger", "store", "Ljava/util/ArrayList;", true)
  | 4 => ("AllotmentLedger", "reservations", "Ljava/util/ArrayList;", true)
  | 5 => ("AllotmentLedger", "root", "LAllotmentLedger$Project;", true)
  | 6 => ("AllotmentLedger", "path", "Ljava/lang/StringBuilder;", true)
  | 7 => ("AllotmentLedger", "accountRow", "Ljava/util/ArrayList;", true)
  | 8 => ("AllotmentLedger", "clock", "I", false)
  | 9 => ("AllotmentLedger", "recountBegun", "Z", false)
  | _ => ("AllotmentLedger", "takenFiles", "I", false)
def tyX4 : Nat → FieldType := fun k => match k with
  | 0 => .object "java/util/ArrayList"
  | 1 => .object "java/util/ArrayList"
  | 2 => .object "java/util/ArrayList"
  | 3 => .object "java/util/ArrayList"
  | 4 => .object "java/util/ArrayList"
  | 5 => .object "AllotmentLedger$Project"
  | 6 => .object "java/lang/StringBuilder"
  | 7 => .object "java/util/ArrayList"
  | 8 => .int
  | 9 => .boolean
  | _ => .int
abbrev wsX40 : List Cond := u_ws RX4 TX4 11
theorem nmX4 : ∀ a, a < 11 → ∀ b, b < 11 → a ≠ b → (TX4 a).2.1 ≠ (TX4 b).2.1 := by decide +kernel
theorem tyX4_ok : ∀ k, k < 11 → parseFieldDescriptor (TX4 k).2.2.1 = some (tyX4 k) := by decide +kernel
abbrev cX4_init : ByteArray := prog_1_method_1_code
def yX4_init : MethodName := ⟨RX4, "<init>", "()V"⟩
abbrev cX4_type : ByteArray := prog_1_method_2_code
def yX4_type : MethodName := ⟨RX4, "type", "(C)I"⟩
abbrev cX4_back : ByteArray := prog_1_method_3_code
def yX4_back : MethodName := ⟨RX4, "back", "()I"⟩
abbrev cX4_clearPath : ByteArray := prog_1_method_4_code
def yX4_clearPath : MethodName := ⟨RX4, "clearPath", "()I"⟩
abbrev cX4_makeProject : ByteArray := prog_1_method_5_code
def yX4_makeProject : MethodName := ⟨RX4, "makeProject", "()I"⟩
abbrev cX4_findProject : ByteArray := prog_1_method_6_code
def yX4_findProject : MethodName := ⟨RX4, "findProject", "()I"⟩
abbrev cX4_moveProject : ByteArray := prog_1_method_7_code
def yX4_moveProject : MethodName := ⟨RX4, "moveProject", "(I)I"⟩
abbrev cX4_letterAt : ByteArray := prog_1_method_8_code
def yX4_letterAt : MethodName := ⟨RX4, "letterAt", "(II)C"⟩
abbrev cX4_projects : ByteArray := prog_1_method_9_code
def yX4_projects : MethodName := ⟨RX4, "projects", "()I"⟩
abbrev cX4_makeFile : ByteArray := prog_1_method_10_code
def yX4_makeFile : MethodName := ⟨RX4, "makeFile", "(II)I"⟩
abbrev cX4_write : ByteArray := prog_1_method_11_code
def yX4_write : MethodName := ⟨RX4, "write", "(II)I"⟩
abbrev cX4_delete : ByteArray := prog_1_method_12_code
def yX4_delete : MethodName := ⟨RX4, "delete", "(I)I"⟩
abbrev cX4_moveFile : ByteArray := prog_1_method_13_code
def yX4_moveFile : MethodName := ⟨RX4, "moveFile", "(II)I"⟩
abbrev cX4_reserve : ByteArray := prog_1_method_14_code
def yX4_reserve : MethodName := ⟨RX4, "reserve", "(II)I"⟩
abbrev cX4_settle : ByteArray := prog_1_method_15_code
def yX4_settle : MethodName := ⟨RX4, "settle", "(II)I"⟩
abbrev cX4_setLimits : ByteArray := prog_1_method_16_code
def yX4_setLimits : MethodName := ⟨RX4, "setLimits", "(IIIII)V"⟩
abbrev cX4_pass : ByteArray := prog_1_method_17_code
def yX4_pass : MethodName := ⟨RX4, "pass", "(I)I"⟩
abbrev cX4_used : ByteArray := prog_1_method_18_code
def yX4_used : MethodName := ⟨RX4, "used", "(II)I"⟩
abbrev cX4_filesOf : ByteArray := prog_1_method_19_code
def yX4_filesOf : MethodName := ⟨RX4, "filesOf", "(II)I"⟩
abbrev cX4_usedByFiles : ByteArray := prog_1_method_20_code
def yX4_usedByFiles : MethodName := ⟨RX4, "usedByFiles", "(II)I"⟩
abbrev cX4_grace : ByteArray := prog_1_method_21_code
def yX4_grace : MethodName := ⟨RX4, "grace", "(II)I"⟩
abbrev cX4_room : ByteArray := prog_1_method_22_code
def yX4_room : MethodName := ⟨RX4, "room", "(I)I"⟩
abbrev cX4_beginRecount : ByteArray := prog_1_method_23_code
def yX4_beginRecount : MethodName := ⟨RX4, "beginRecount", "()I"⟩
abbrev cX4_recount : ByteArray := prog_1_method_24_code
def yX4_recount : MethodName := ⟨RX4, "recount", "(I)I"⟩
abbrev cX4_counted : ByteArray := prog_1_method_25_code
def yX4_counted : MethodName := ⟨RX4, "counted", "(II)I"⟩
abbrev cX4_projectOfNumber : ByteArray := prog_1_method_26_code
def yX4_projectOfNumber : MethodName := ⟨RX4, "projectOfNumber", "(I)LAllotmentLedger$Project;"⟩
abbrev cX4_projectOfPath : ByteArray := prog_1_method_27_code
def yX4_projectOfPath : MethodName := ⟨RX4, "projectOfPath", "(I)LAllotmentLedger$Project;"⟩
abbrev cX4_childOf : ByteArray := prog_1_method_28_code
def yX4_childOf : MethodName := ⟨RX4, "childOf", "(LAllotmentLedger$Project;C)LAllotmentLedger$Project;"⟩
abbrev cX4_liveFile : ByteArray := prog_1_method_29_code
def yX4_liveFile : MethodName := ⟨RX4, "liveFile", "(I)LAllotmentLedger$StoredFile;"⟩
abbrev cX4_accountOf : ByteArray := prog_1_method_30_code
def yX4_accountOf : MethodName := ⟨RX4, "accountOf", "(II)LAllotmentLedger$Account;"⟩
abbrev cX4_accountsOf : ByteArray := prog_1_method_31_code
def yX4_accountsOf : MethodName := ⟨RX4, "accountsOf", "(LAllotmentLedger$StoredFile;)Ljava/util/ArrayList;"⟩
abbrev cX4_countsIn : ByteArray := prog_1_method_32_code
def yX4_countsIn : MethodName := ⟨RX4, "countsIn", "(LAllotmentLedger$StoredFile;LAllotmentLedger$Account;)Z"⟩
abbrev cX4_blocksUsedBy : ByteArray := prog_1_method_33_code
def yX4_blocksUsedBy : MethodName := ⟨RX4, "blocksUsedBy", "(LAllotmentLedger$StoredFile;)I"⟩
abbrev cX4_canMove : ByteArray := prog_1_method_34_code
def yX4_canMove : MethodName := ⟨RX4, "canMove", "(LAllotmentLedger$Project;LAllotmentLedger$Project;)Z"⟩
abbrev cX4_deepestWithin : ByteArray := prog_1_method_35_code
def yX4_deepestWithin : MethodName := ⟨RX4, "deepestWithin", "(LAllotmentLedger$Project;)I"⟩
abbrev cX4_projectsWithin : ByteArray := prog_1_method_36_code
def yX4_projectsWithin : MethodName := ⟨RX4, "projectsWithin", "(LAllotmentLedger$Project;)I"⟩
abbrev cX4_chargeFilesWithin : ByteArray := prog_1_method_37_code
def yX4_chargeFilesWithin : MethodName := ⟨RX4, "chargeFilesWithin", "(LAllotmentLedger$Project;I)V"⟩
abbrev cX4_charge : ByteArray := prog_1_method_38_code
def yX4_charge : MethodName := ⟨RX4, "charge", "(LAllotmentLedger$StoredFile;II)V"⟩
abbrev cX4_take : ByteArray := prog_1_method_39_code
def yX4_take : MethodName := ⟨RX4, "take", "(LAllotmentLedger$StoredFile;)V"⟩
abbrev cX4_noteOverAccounts : ByteArray := prog_1_method_40_code
def yX4_noteOverAccounts : MethodName := ⟨RX4, "noteOverAccounts", "()V"⟩
abbrev cX4_barringPlace : ByteArray := prog_1_method_41_code
def yX4_barringPlace : MethodName := ⟨RX4, "barringPlace", "(LAllotmentLedger$StoredFile;II)I"⟩
abbrev cX4_barredAnswer : ByteArray := prog_1_method_42_code
def yX4_barredAnswer : MethodName := ⟨RX4, "barredAnswer", "(I)I"⟩
abbrev cX4_isLimit : ByteArray := prog_1_method_43_code
def yX4_isLimit : MethodName := ⟨RX4, "isLimit", "(II)Z"⟩
def RX5 : String := "AllotmentLedgerModel"
def TX5 : u_T := fun k => match k with
  | 0 => ("AllotmentLedgerModel", "refusal", "I", false)
  | 1 => ("AllotmentLedgerModel", "clock", "I", false)
  | 2 => ("AllotmentLedgerModel", "buffer", "[C", true)
  | 3 => ("AllotmentLedgerModel", "typed", "I", false)
  | 4 => ("AllotmentLedgerModel", "old", "[C", true)
  | 5 => ("AllotmentLedgerModel", "projects", "I", false)
  | 6 => ("AllotmentLedgerModel", "letters", "[C", true)
  | 7 => ("AllotmentLedgerModel", "lengths", "[I", true)
  | 8 => ("AllotmentLedgerModel", "files", "I", false)
  | 9 => ("AllotmentLedgerModel", "owners", "[I", true)
  | 10 => ("AllotmentLedgerModel", "places", "[I", true)
  | 11 => ("AllotmentLedgerModel", "blocksOf", "[I", true)
  | 12 => ("AllotmentLedgerModel", "isGone", "[Z", true)
  | 13 => ("AllotmentLedgerModel", "reservations", "I", false)
  | 14 => ("AllotmentLedgerModel", "fileOf", "[I", true)
  | 15 => ("AllotmentLedgerModel", "held", "[I", true)
  | 16 => ("AllotmentLedgerModel", "isOpen", "[Z", true)
  | 17 => ("AllotmentLedgerModel", "softs", "[I", true)
  | 18 => ("AllotmentLedgerModel", "hards", "[I", true)
  | 19 => ("AllotmentLedgerModel", "fileLimits", "[I", true)
  | 20 => ("AllotmentLedgerModel", "since", "[I", true)
  | 21 => ("AllotmentLedgerModel", "isCounting", "Z", false)
  | _ => ("AllotmentLedgerModel", "taken", "I", false)
def tyX5 : Nat → FieldType := fun k => match k with
  | 0 => .int
  | 1 => .int
  | 2 => .array .char
  | 3 => .int
  | 4 => .array .char
  | 5 => .int
  | 6 => .array .char
  | 7 => .array .int
  | 8 => .int
  | 9 => .array .int
  | 10 => .array .int
  | 11 => .array .int
  | 12 => .array .boolean
  | 13 => .int
  | 14 => .array .int
  | 15 => .array .int
  | 16 => .array .boolean
  | 17 => .array .int
  | 18 => .array .int
  | 19 => .array .int
  | 20 => .array .int
  | 21 => .boolean
  | _ => .int
abbrev wsX50 : List Cond := u_ws RX5 TX5 23
theorem nmX5 : ∀ a, a < 23 → ∀ b, b < 23 → a ≠ b → (TX5 a).2.1 ≠ (TX5 b).2.1 := by decide +kernel
theorem tyX5_ok : ∀ k, k < 23 → parseFieldDescriptor (TX5 k).2.2.1 = some (tyX5 k) := by decide +kernel
abbrev cX5_init : ByteArray := prog_7_method_1_code
def yX5_init : MethodName := ⟨RX5, "<init>", "()V"⟩
abbrev cX5_thrown : ByteArray := prog_7_method_2_code
def yX5_thrown : MethodName := ⟨RX5, "thrown", "()I"⟩
abbrev cX5_refused : ByteArray := prog_7_method_3_code
def yX5_refused : MethodName := ⟨RX5, "refused", "(I)Z"⟩
abbrev cX5_fine : ByteArray := prog_7_method_4_code
def yX5_fine : MethodName := ⟨RX5, "fine", "(I)I"⟩
abbrev cX5_in : ByteArray := prog_7_method_5_code
def yX5_in : MethodName := ⟨RX5, "in", "(III)Z"⟩
abbrev cX5_type : ByteArray := prog_7_method_6_code
def yX5_type : MethodName := ⟨RX5, "type", "(C)I"⟩
abbrev cX5_back : ByteArray := prog_7_method_7_code
def yX5_back : MethodName := ⟨RX5, "back", "()I"⟩
abbrev cX5_clearPath : ByteArray := prog_7_method_8_code
def yX5_clearPath : MethodName := ⟨RX5, "clearPath", "()I"⟩
abbrev cX5_find : ByteArray := prog_7_method_9_code
def yX5_find : MethodName := ⟨RX5, "find", "(I)I"⟩
abbrev cX5_makeProject : ByteArray := prog_7_method_10_code
def yX5_makeProject : MethodName := ⟨RX5, "makeProject", "()I"⟩
abbrev cX5_findProject : ByteArray := prog_7_method_11_code
def yX5_findProject : MethodName := ⟨RX5, "findProject", "()I"⟩
abbrev cX5_isProject : ByteArray := prog_7_method_12_code
def yX5_isProject : MethodName := ⟨RX5, "isProject", "(I)Z"⟩
abbrev cX5_isWithin : ByteArray := prog_7_method_13_code
def yX5_isWithin : MethodName := ⟨RX5, "isWithin", "(II)Z"⟩
abbrev cX5_deepest : ByteArray := prog_7_method_14_code
def yX5_deepest : MethodName := ⟨RX5, "deepest", "(I)I"⟩
abbrev cX5_child : ByteArray := prog_7_method_15_code
def yX5_child : MethodName := ⟨RX5, "child", "(IC)I"⟩
abbrev cX5_canMove : ByteArray := prog_7_method_16_code
def yX5_canMove : MethodName := ⟨RX5, "canMove", "(I)Z"⟩
abbrev cX5_moveProject : ByteArray := prog_7_method_17_code
def yX5_moveProject : MethodName := ⟨RX5, "moveProject", "(I)I"⟩
abbrev cX5_lead : ByteArray := prog_7_method_18_code
def yX5_lead : MethodName := ⟨RX5, "lead", "(II)V"⟩
abbrev cX5_letterAt : ByteArray := prog_7_method_19_code
def yX5_letterAt : MethodName := ⟨RX5, "letterAt", "(II)C"⟩
abbrev cX5_projects : ByteArray := prog_7_method_20_code
def yX5_projects : MethodName := ⟨RX5, "projects", "()I"⟩
abbrev cX5_accountOf : ByteArray := prog_7_method_21_code
def yX5_accountOf : MethodName := ⟨RX5, "accountOf", "(II)I"⟩
abbrev cX5_counts : ByteArray := prog_7_method_22_code
def yX5_counts : MethodName := ⟨RX5, "counts", "(II)Z"⟩
abbrev cX5_usage : ByteArray := prog_7_method_23_code
def yX5_usage : MethodName := ⟨RX5, "usage", "(I)I"⟩
abbrev cX5_sum : ByteArray := prog_7_method_24_code
def yX5_sum : MethodName := ⟨RX5, "sum", "(II)I"⟩
abbrev cX5_countFiles : ByteArray := prog_7_method_25_code
def yX5_countFiles : MethodName := ⟨RX5, "countFiles", "(I)I"⟩
abbrev cX5_look : ByteArray := prog_7_method_26_code
def yX5_look : MethodName := ⟨RX5, "look", "()V"⟩
abbrev cX5_isGraceGone : ByteArray := prog_7_method_27_code
def yX5_isGraceGone : MethodName := ⟨RX5, "isGraceGone", "(I)Z"⟩
abbrev cX5_asked : ByteArray := prog_7_method_28_code
def yX5_asked : MethodName := ⟨RX5, "asked", "(III)I"⟩
abbrev cX5_barring : ByteArray := prog_7_method_29_code
def yX5_barring : MethodName := ⟨RX5, "barring", "(IIII)I"⟩
abbrev cX5_isFile : ByteArray := prog_7_method_30_code
def yX5_isFile : MethodName := ⟨RX5, "isFile", "(I)Z"⟩
abbrev cX5_makeFile : ByteArray := prog_7_method_31_code
def yX5_makeFile : MethodName := ⟨RX5, "makeFile", "(II)I"⟩
abbrev cX5_write : ByteArray := prog_7_method_32_code
def yX5_write : MethodName := ⟨RX5, "write", "(II)I"⟩
abbrev cX5_delete : ByteArray := prog_7_method_33_code
def yX5_delete : MethodName := ⟨RX5, "delete", "(I)I"⟩
abbrev cX5_moveFile : ByteArray := prog_7_method_34_code
def yX5_moveFile : MethodName := ⟨RX5, "moveFile", "(II)I"⟩
abbrev cX5_reserve : ByteArray := prog_7_method_35_code
def yX5_reserve : MethodName := ⟨RX5, "reserve", "(II)I"⟩
abbrev cX5_settle : ByteArray := prog_7_method_36_code
def yX5_settle : MethodName := ⟨RX5, "settle", "(II)I"⟩
abbrev cX5_setLimits : ByteArray := prog_7_method_37_code
def yX5_setLimits : MethodName := ⟨RX5, "setLimits", "(IIIII)V"⟩
abbrev cX5_pass : ByteArray := prog_7_method_38_code
def yX5_pass : MethodName := ⟨RX5, "pass", "(I)I"⟩
abbrev cX5_noAccount : ByteArray := prog_7_method_39_code
def yX5_noAccount : MethodName := ⟨RX5, "noAccount", "(I)Z"⟩
abbrev cX5_used : ByteArray := prog_7_method_40_code
def yX5_used : MethodName := ⟨RX5, "used", "(II)I"⟩
abbrev cX5_filesOf : ByteArray := prog_7_method_41_code
def yX5_filesOf : MethodName := ⟨RX5, "filesOf", "(II)I"⟩
abbrev cX5_usedByFiles : ByteArray := prog_7_method_42_code
def yX5_usedByFiles : MethodName := ⟨RX5, "usedByFiles", "(II)I"⟩
abbrev cX5_grace : ByteArray := prog_7_method_43_code
def yX5_grace : MethodName := ⟨RX5, "grace", "(II)I"⟩
abbrev cX5_room : ByteArray := prog_7_method_44_code
def yX5_room : MethodName := ⟨RX5, "room", "(I)I"⟩
abbrev cX5_beginRecount : ByteArray := prog_7_method_45_code
def yX5_beginRecount : MethodName := ⟨RX5, "beginRecount", "()I"⟩
abbrev cX5_recount : ByteArray := prog_7_method_46_code
def yX5_recount : MethodName := ⟨RX5, "recount", "(I)I"⟩
abbrev cX5_counted : ByteArray := prog_7_method_47_code
def yX5_counted : MethodName := ⟨RX5, "counted", "(II)I"⟩
def RJ5 : String := "java/lang/AbstractStringBuilder"
abbrev cJ5_init_d00df : ByteArray := prog_9_method_2_code
def yJ5_init_d00df : MethodName := ⟨RJ5, "<init>", "(I)V"⟩
abbrev cJ5_length_8abf5 : ByteArray := prog_9_method_6_code
def yJ5_length_8abf5 : MethodName := ⟨RJ5, "length", "()I"⟩
abbrev cJ5_ensureCapacityInternal_d00df : ByteArray := prog_9_method_9_code
def yJ5_ensureCapacityInternal_d00df : MethodName := ⟨RJ5, "ensureCapacityInternal", "(I)V"⟩
abbrev cJ5_setLength_d00df : ByteArray := prog_9_method_13_code
def yJ5_setLength_d00df : MethodName := ⟨RJ5, "setLength", "(I)V"⟩
abbrev cJ5_charAt_5068e : ByteArray := prog_9_method_14_code
def yJ5_charAt_5068e : MethodName := ⟨RJ5, "charAt", "(I)C"⟩
abbrev cJ5_append_3fe6f : ByteArray := prog_9_method_31_code
def yJ5_append_3fe6f : MethodName := ⟨RJ5, "append", "(C)Ljava/lang/AbstractStringBuilder;"⟩
abbrev cJ5_isLatin1_aae02 : ByteArray := prog_9_method_68_code
def yJ5_isLatin1_aae02 : MethodName := ⟨RJ5, "isLatin1", "()Z"⟩
def RJ9 : String := "java/lang/Math"
abbrev cJ9_max_7cf53 : ByteArray := prog_21_method_65_code
def yJ9_max_7cf53 : MethodName := ⟨RJ9, "max", "(II)I"⟩
abbrev cJ9_min_7cf53 : ByteArray := prog_21_method_69_code
def yJ9_min_7cf53 : MethodName := ⟨RJ9, "min", "(II)I"⟩
def RJ0 : String := "java/lang/String"
abbrev cJ0_checkIndex_df160 : ByteArray := prog_24_method_155_code
def yJ0_checkIndex_df160 : MethodName := ⟨RJ0, "checkIndex", "(II)V"⟩
def RJ4 : String := "java/lang/StringBuilder"
def TJ4 : u_T := fun k => match k with
  | 0 => ("java/lang/AbstractStringBuilder", "value", "[B", false)
  | 1 => ("java/lang/AbstractStringBuilder", "coder", "B", false)
  | 2 => ("java/lang/AbstractStringBuilder", "maybeLatin1", "Z", false)
  | _ => ("java/lang/AbstractStringBuilder", "count", "I", false)
def tyJ4 : Nat → FieldType := fun k => match k with
  | 0 => .array .byte
  | 1 => .byte
  | 2 => .boolean
  | _ => .int
abbrev wsJ40 : List Cond := u_ws RJ4 TJ4 4
theorem nmJ4 : ∀ a, a < 4 → ∀ b, b < 4 → a ≠ b → (TJ4 a).2.1 ≠ (TJ4 b).2.1 := by decide +kernel
theorem tyJ4_ok : ∀ k, k < 4 → parseFieldDescriptor (TJ4 k).2.2.1 = some (tyJ4 k) := by decide +kernel
abbrev cJ4_init_da8c8 : ByteArray := prog_25_method_1_code
def yJ4_init_da8c8 : MethodName := ⟨RJ4, "<init>", "()V"⟩
abbrev cJ4_append_cf468 : ByteArray := prog_25_method_14_code
def yJ4_append_cf468 : MethodName := ⟨RJ4, "append", "(C)Ljava/lang/StringBuilder;"⟩
abbrev cJ4_charAt_5068e : ByteArray := prog_25_method_88_code
def yJ4_charAt_5068e : MethodName := ⟨RJ4, "charAt", "(I)C"⟩
abbrev cJ4_setLength_d00df : ByteArray := prog_25_method_89_code
def yJ4_setLength_d00df : MethodName := ⟨RJ4, "setLength", "(I)V"⟩
abbrev cJ4_length_8abf5 : ByteArray := prog_25_method_93_code
def yJ4_length_8abf5 : MethodName := ⟨RJ4, "length", "()I"⟩
def RJ1 : String := "java/lang/StringLatin1"
abbrev cJ1_canEncode_fc78d : ByteArray := prog_27_method_3_code
def yJ1_canEncode_fc78d : MethodName := ⟨RJ1, "canEncode", "(C)Z"⟩
def RJxa1e45 : String := "java/util/AbstractCollection"
abbrev cJxa1e45_init_da8c8 : ByteArray := prog_33_method_1_code
def yJxa1e45_init_da8c8 : MethodName := ⟨RJxa1e45, "<init>", "()V"⟩
def RJxc12de : String := "java/util/AbstractList"
abbrev cJxc12de_init_da8c8 : ByteArray := prog_34_method_1_code
def yJxc12de_init_da8c8 : MethodName := ⟨RJxc12de, "<init>", "()V"⟩
def RJx4a65c : String := "java/util/ArrayList"
def TJx4a65c : u_T := fun k => match k with
  | 0 => ("java/util/AbstractList", "modCount", "I", false)
  | 1 => ("java/util/ArrayList", "elementData", "[Ljava/lang/Object;", false)
  | _ => ("java/util/ArrayList", "size", "I", false)
def tyJx4a65c : Nat → FieldType := fun k => match k with
  | 0 => .int
  | 1 => .array (.object "java/lang/Object")
  | _ => .int
abbrev wsJx4a65c0 : List Cond := u_ws RJx4a65c TJx4a65c 3
theorem nmJx4a65c : ∀ a, a < 3 → ∀ b, b < 3 → a ≠ b → (TJx4a65c a).2.1 ≠ (TJx4a65c b).2.1 := by decide +kernel
theorem tyJx4a65c_ok : ∀ k, k < 3 → parseFieldDescriptor (TJx4a65c k).2.2.1 = some (tyJx4a65c k) := by decide +kernel
abbrev cJx4a65c_init_da8c8 : ByteArray := prog_35_method_2_code
def yJx4a65c_init_da8c8 : MethodName := ⟨RJx4a65c, "<init>", "()V"⟩
abbrev cJx4a65c_grow_92f84 : ByteArray := prog_35_method_6_code
def yJx4a65c_grow_92f84 : MethodName := ⟨RJx4a65c, "grow", "(I)[Ljava/lang/Object;"⟩
abbrev cJx4a65c_grow_d5877 : ByteArray := prog_35_method_7_code
def yJx4a65c_grow_d5877 : MethodName := ⟨RJx4a65c, "grow", "()[Ljava/lang/Object;"⟩
abbrev cJx4a65c_size_8abf5 : ByteArray := prog_35_method_8_code
def yJx4a65c_size_8abf5 : MethodName := ⟨RJx4a65c, "size", "()I"⟩
abbrev cJx4a65c_elementData_915e3 : ByteArray := prog_35_method_18_code
def yJx4a65c_elementData_915e3 : MethodName := ⟨RJx4a65c, "elementData", "(I)Ljava/lang/Object;"⟩
abbrev cJx4a65c_get_915e3 : ByteArray := prog_35_method_20_code
def yJx4a65c_get_915e3 : MethodName := ⟨RJx4a65c, "get", "(I)Ljava/lang/Object;"⟩
abbrev cJx4a65c_add_72be8 : ByteArray := prog_35_method_24_code
def yJx4a65c_add_72be8 : MethodName := ⟨RJx4a65c, "add", "(Ljava/lang/Object;[Ljava/lang/Object;I)V"⟩
abbrev cJx4a65c_add_9ea2d : ByteArray := prog_35_method_25_code
def yJx4a65c_add_9ea2d : MethodName := ⟨RJx4a65c, "add", "(Ljava/lang/Object;)Z"⟩
abbrev cJx4a65c_clear_da8c8 : ByteArray := prog_35_method_40_code
def yJx4a65c_clear_da8c8 : MethodName := ⟨RJx4a65c, "clear", "()V"⟩
def RJ7 : String := "java/util/Arrays"
abbrev cJ7_copyOf_1904c : ByteArray := prog_36_method_119_code
def yJ7_copyOf_1904c : MethodName := ⟨RJ7, "copyOf", "([Ljava/lang/Object;I)[Ljava/lang/Object;"⟩
abbrev cJ7_copyOf_6403c : ByteArray := prog_36_method_120_code
def yJ7_copyOf_6403c : MethodName := ⟨RJ7, "copyOf", "([Ljava/lang/Object;ILjava/lang/Class;)[Ljava/lang/Object;"⟩
def RJ15 : String := "java/util/Objects"
abbrev cJ15_checkIndex_7cf53 : ByteArray := prog_39_method_17_code
def yJ15_checkIndex_7cf53 : MethodName := ⟨RJ15, "checkIndex", "(II)I"⟩
def RJ8 : String := "jdk/internal/util/ArraysSupport"
abbrev cJ8_newLength_cabcc : ByteArray := prog_42_method_27_code
def yJ8_newLength_cabcc : MethodName := ⟨RJ8, "newLength", "(III)I"⟩
def RJ3 : String := "jdk/internal/util/Preconditions"
abbrev cJ3_checkIndex_8e157 : ByteArray := prog_43_method_11_code
def yJ3_checkIndex_8e157 : MethodName := ⟨RJ3, "checkIndex", "(IILjava/util/function/BiFunction;)I"⟩
def RL : String := "AllotmentLedgerLaw"
abbrev cL_type : ByteArray := method_3_code
def yL_type : MethodName := ⟨RL, "type", "(LAllotmentLedger;C[J)I"⟩
abbrev cL_back : ByteArray := method_4_code
def yL_back : MethodName := ⟨RL, "back", "(LAllotmentLedger;[J)I"⟩
abbrev cL_makeProject : ByteArray := method_5_code
def yL_makeProject : MethodName := ⟨RL, "makeProject", "(LAllotmentLedger;[J)I"⟩
abbrev cL_moveProject : ByteArray := method_6_code
def yL_moveProject : MethodName := ⟨RL, "moveProject", "(LAllotmentLedger;I[J)I"⟩
abbrev cL_letterAt : ByteArray := method_7_code
def yL_letterAt : MethodName := ⟨RL, "letterAt", "(LAllotmentLedger;II[J)I"⟩
abbrev cL_makeFile : ByteArray := method_8_code
def yL_makeFile : MethodName := ⟨RL, "makeFile", "(LAllotmentLedger;II[J)I"⟩
abbrev cL_write : ByteArray := method_9_code
def yL_write : MethodName := ⟨RL, "write", "(LAllotmentLedger;II[J)I"⟩
abbrev cL_delete : ByteArray := method_10_code
def yL_delete : MethodName := ⟨RL, "delete", "(LAllotmentLedger;I[J)I"⟩
abbrev cL_moveFile : ByteArray := method_11_code
def yL_moveFile : MethodName := ⟨RL, "moveFile", "(LAllotmentLedger;II[J)I"⟩
abbrev cL_reserve : ByteArray := method_12_code
def yL_reserve : MethodName := ⟨RL, "reserve", "(LAllotmentLedger;II[J)I"⟩
abbrev cL_settle : ByteArray := method_13_code
def yL_settle : MethodName := ⟨RL, "settle", "(LAllotmentLedger;II[J)I"⟩
abbrev cL_setLimits : ByteArray := method_14_code
def yL_setLimits : MethodName := ⟨RL, "setLimits", "(LAllotmentLedger;IIIII)I"⟩
abbrev cL_pass : ByteArray := method_15_code
def yL_pass : MethodName := ⟨RL, "pass", "(LAllotmentLedger;I[J)I"⟩
abbrev cL_used : ByteArray := method_16_code
def yL_used : MethodName := ⟨RL, "used", "(LAllotmentLedger;II[J)I"⟩
abbrev cL_filesOf : ByteArray := method_17_code
def yL_filesOf : MethodName := ⟨RL, "filesOf", "(LAllotmentLedger;II[J)I"⟩
abbrev cL_usedByFiles : ByteArray := method_18_code
def yL_usedByFiles : MethodName := ⟨RL, "usedByFiles", "(LAllotmentLedger;II[J)I"⟩
abbrev cL_grace : ByteArray := method_19_code
def yL_grace : MethodName := ⟨RL, "grace", "(LAllotmentLedger;II[J)I"⟩
abbrev cL_room : ByteArray := method_20_code
def yL_room : MethodName := ⟨RL, "room", "(LAllotmentLedger;I[J)I"⟩
abbrev cL_recount : ByteArray := method_21_code
def yL_recount : MethodName := ⟨RL, "recount", "(LAllotmentLedger;I[J)I"⟩
abbrev cL_counted : ByteArray := method_22_code
def yL_counted : MethodName := ⟨RL, "counted", "(LAllotmentLedger;II[J)I"⟩
abbrev cL_law : ByteArray := code
def yL_law : MethodName := ⟨RL, "law", "([I)Z"⟩
theorem dX0_init_0 : decode cX0_init 0 = .ok (.aload_n 0, 1) := by decide +kernel
theorem dX0_init_1 : decode cX0_init 1 = .ok (.invokespecial 3, 3) := by decide +kernel
theorem dX0_init_4 : decode cX0_init 4 = .ok (.aload_n 0, 1) := by decide +kernel
theorem dX0_init_5 : decode cX0_init 5 = .ok (.iconst (-1), 1) := by decide +kernel
theorem dX0_init_6 : decode cX0_init 6 = .ok (.putfield 9, 3) := by decide +kernel
theorem dX0_init_9 : decode cX0_init 9 = .ok (.aload_n 0, 1) := by decide +kernel
theorem dX0_init_10 : decode cX0_init 10 = .ok (.iconst (-1), 1) := by decide +kernel
theorem dX0_init_11 : decode cX0_init 11 = .ok (.putfield 15, 3) := by decide +kernel
theorem dX0_init_14 : decode cX0_init 14 = .ok (.aload_n 0, 1) := by decide +kernel
theorem dX0_init_15 : decode cX0_init 15 = .ok (.iconst (-1), 1) := by decide +kernel
theorem dX0_init_16 : decode cX0_init 16 = .ok (.putfield 18, 3) := by decide +kernel
theorem dX0_init_19 : decode cX0_init 19 = .ok (.aload_n 0, 1) := by decide +kernel
theorem dX0_init_20 : decode cX0_init 20 = .ok (.iconst 0, 1) := by decide +kernel
theorem dX0_init_21 : decode cX0_init 21 = .ok (.putfield 21, 3) := by decide +kernel
theorem dX0_init_24 : decode cX0_init 24 = .ok (.aload_n 0, 1) := by decide +kernel
theorem dX0_init_25 : decode cX0_init 25 = .ok (.iconst 0, 1) := by decide +kernel
theorem dX0_init_26 : decode cX0_init 26 = .ok (.putfield 24, 3) := by decide +kernel
theorem dX0_init_29 : decode cX0_init 29 = .ok (.aload_n 0, 1) := by decide +kernel
theorem dX0_init_30 : decode cX0_init 30 = .ok (.iconst 0, 1) := by decide +kernel
theorem dX0_init_31 : decode cX0_init 31 = .ok (.putfield 27, 3) := by decide +kernel
theorem dX0_init_34 : decode cX0_init 34 = .ok (.aload_n 0, 1) := by decide +kernel
theorem dX0_init_35 : decode cX0_init 35 = .ok (.iconst 0, 1) := by decide +kernel
theorem dX0_init_36 : decode cX0_init 36 = .ok (.putfield 30, 3) := by decide +kernel
theorem dX0_init_39 : decode cX0_init 39 = .ok (.aload_n 0, 1) := by decide +kernel
theorem dX0_init_40 : decode cX0_init 40 = .ok (.iconst 0, 1) := by decide +kernel
theorem dX0_init_41 : decode cX0_init 41 = .ok (.putfield 34, 3) := by decide +kernel
theorem dX0_init_44 : decode cX0_init 44 = .ok (.return_, 1) := by decide +kernel
theorem dX0_add_0 : decode cX0_add 0 = .ok (.aload_n 0, 1) := by decide +kernel
theorem dX0_add_1 : decode cX0_add 1 = .ok (.dup, 1) := by decide +kernel
theorem dX0_add_2 : decode cX0_add 2 = .ok (.getfield 21, 3) := by decide +kernel
theorem dX0_add_5 : decode cX0_add 5 = .ok (.iload_n 1, 1) := by decide +kernel
theorem dX0_add_6 : decode cX0_add 6 = .ok (.iadd, 1) := by decide +kernel
theorem dX0_add_7 : decode cX0_add 7 = .ok (.putfield 21, 3) := by decide +kernel
theorem dX0_add_10 : decode cX0_add 10 = .ok (.aload_n 0, 1) := by decide +kernel
theorem dX0_add_11 : decode cX0_add 11 = .ok (.dup, 1) := by decide +kernel
theorem dX0_add_12 : decode cX0_add 12 = .ok (.getfield 24, 3) := by decide +kernel
theorem dX0_add_15 : decode cX0_add 15 = .ok (.iload_n 2, 1) := by decide +kernel
theorem dX0_add_16 : decode cX0_add 16 = .ok (.iadd, 1) := by decide +kernel
theorem dX0_add_17 : decode cX0_add 17 = .ok (.putfield 24, 3) := by decide +kernel
theorem dX0_add_20 : decode cX0_add 20 = .ok (.return_, 1) := by decide +kernel
theorem dX0_noteOver_0 : decode cX0_noteOver 0 = .ok (.aload_n 0, 1) := by decide +kernel
theorem dX0_noteOver_1 : decode cX0_noteOver 1 = .ok (.getfield 9, 3) := by decide +kernel
theorem dX0_noteOver_4 : decode cX0_noteOver 4 = .ok (.iconst (-1), 1) := by decide +kernel
theorem dX0_noteOver_5 : decode cX0_noteOver 5 = .ok (.if_icmp .eq 18, 3) := by decide +kernel
theorem dX0_noteOver_8 : decode cX0_noteOver 8 = .ok (.aload_n 0, 1) := by decide +kernel
theorem dX0_noteOver_9 : decode cX0_noteOver 9 = .ok (.getfield 21, 3) := by decide +kernel
theorem dX0_noteOver_12 : decode cX0_noteOver 12 = .ok (.aload_n 0, 1) := by decide +kernel
theorem dX0_noteOver_13 : decode cX0_noteOver 13 = .ok (.getfield 9, 3) := by decide +kernel
theorem dX0_noteOver_16 : decode cX0_noteOver 16 = .ok (.if_icmp .le 7, 3) := by decide +kernel
theorem dX0_noteOver_19 : decode cX0_noteOver 19 = .ok (.iconst 1, 1) := by decide +kernel
theorem dX0_noteOver_20 : decode cX0_noteOver 20 = .ok (.goto 4, 3) := by decide +kernel
theorem dX0_noteOver_23 : decode cX0_noteOver 23 = .ok (.iconst 0, 1) := by decide +kernel
theorem dX0_noteOver_24 : decode cX0_noteOver 24 = .ok (.istore_n 2, 1) := by decide +kernel
theorem dX0_noteOver_25 : decode cX0_noteOver 25 = .ok (.iload_n 2, 1) := by decide +kernel
theorem dX0_noteOver_26 : decode cX0_noteOver 26 = .ok (.ifCond .eq 15, 3) := by decide +kernel
theorem dX0_noteOver_29 : decode cX0_noteOver 29 = .ok (.aload_n 0, 1) := by decide +kernel
theorem dX0_noteOver_30 : decode cX0_noteOver 30 = .ok (.getfield 30, 3) := by decide +kernel
theorem dX0_noteOver_33 : decode cX0_noteOver 33 = .ok (.ifCond .ne 8, 3) := by decide +kernel
theorem dX0_noteOver_36 : decode cX0_noteOver 36 = .ok (.aload_n 0, 1) := by decide +kernel
theorem dX0_noteOver_37 : decode cX0_noteOver 37 = .ok (.iload_n 1, 1) := by decide +kernel
theorem dX0_noteOver_38 : decode cX0_noteOver 38 = .ok (.putfield 34, 3) := by decide +kernel
theorem dX0_noteOver_41 : decode cX0_noteOver 41 = .ok (.aload_n 0, 1) := by decide +kernel
theorem dX0_noteOver_42 : decode cX0_noteOver 42 = .ok (.iload_n 2, 1) := by decide +kernel
theorem dX0_noteOver_43 : decode cX0_noteOver 43 = .ok (.putfield 30, 3) := by decide +kernel
theorem dX0_noteOver_46 : decode cX0_noteOver 46 = .ok (.return_, 1) := by decide +kernel
theorem dX0_graceLeft_0 : decode cX0_graceLeft 0 = .ok (.aload_n 0, 1) := by decide +kernel
theorem dX0_graceLeft_1 : decode cX0_graceLeft 1 = .ok (.getfield 30, 3) := by decide +kernel
theorem dX0_graceLeft_4 : decode cX0_graceLeft 4 = .ok (.ifCond .ne 5, 3) := by decide +kernel
theorem dX0_graceLeft_7 : decode cX0_graceLeft 7 = .ok (.iconst (-1), 1) := by decide +kernel
theorem dX0_graceLeft_8 : decode cX0_graceLeft 8 = .ok (.ireturn, 1) := by decide +kernel
theorem dX0_graceLeft_9 : decode cX0_graceLeft 9 = .ok (.iconst 0, 1) := by decide +kernel
theorem dX0_graceLeft_10 : decode cX0_graceLeft 10 = .ok (.bipush 48, 2) := by decide +kernel
theorem dX0_graceLeft_12 : decode cX0_graceLeft 12 = .ok (.iload_n 1, 1) := by decide +kernel
theorem dX0_graceLeft_13 : decode cX0_graceLeft 13 = .ok (.aload_n 0, 1) := by decide +kernel
theorem dX0_graceLeft_14 : decode cX0_graceLeft 14 = .ok (.getfield 34, 3) := by decide +kernel
theorem dX0_graceLeft_17 : decode cX0_graceLeft 17 = .ok (.isub, 1) := by decide +kernel
theorem dX0_graceLeft_18 : decode cX0_graceLeft 18 = .ok (.isub, 1) := by decide +kernel
theorem dX0_graceLeft_19 : decode cX0_graceLeft 19 = .ok (.invokestatic 37, 3) := by decide +kernel
theorem dX0_graceLeft_22 : decode cX0_graceLeft 22 = .ok (.ireturn, 1) := by decide +kernel
theorem dX0_blocksLeft_0 : decode cX0_blocksLeft 0 = .ok (.aload_n 0, 1) := by decide +kernel
theorem dX0_blocksLeft_1 : decode cX0_blocksLeft 1 = .ok (.iload_n 1, 1) := by decide +kernel
theorem dX0_blocksLeft_2 : decode cX0_blocksLeft 2 = .ok (.invokevirtual 43, 3) := by decide +kernel
theorem dX0_blocksLeft_5 : decode cX0_blocksLeft 5 = .ok (.ifCond .ne 5, 3) := by decide +kernel
theorem dX0_blocksLeft_8 : decode cX0_blocksLeft 8 = .ok (.iconst 0, 1) := by decide +kernel
theorem dX0_blocksLeft_9 : decode cX0_blocksLeft 9 = .ok (.ireturn, 1) := by decide +kernel
theorem dX0_blocksLeft_10 : decode cX0_blocksLeft 10 = .ok (.aload_n 0, 1) := by decide +kernel
theorem dX0_blocksLeft_11 : decode cX0_blocksLeft 11 = .ok (.getfield 15, 3) := by decide +kernel
theorem dX0_blocksLeft_14 : decode cX0_blocksLeft 14 = .ok (.iconst (-1), 1) := by decide +kernel
theorem dX0_blocksLeft_15 : decode cX0_blocksLeft 15 = .ok (.if_icmp .ne 7, 3) := by decide +kernel
theorem dX0_blocksLeft_18 : decode cX0_blocksLeft 18 = .ok (.iconst (-1), 1) := by decide +kernel
theorem dX0_blocksLeft_19 : decode cX0_blocksLeft 19 = .ok (.goto 16, 3) := by decide +kernel
theorem dX0_blocksLeft_22 : decode cX0_blocksLeft 22 = .ok (.iconst 0, 1) := by decide +kernel
theorem dX0_blocksLeft_23 : decode cX0_blocksLeft 23 = .ok (.aload_n 0, 1) := by decide +kernel
theorem dX0_blocksLeft_24 : decode cX0_blocksLeft 24 = .ok (.getfield 15, 3) := by decide +kernel
theorem dX0_blocksLeft_27 : decode cX0_blocksLeft 27 = .ok (.aload_n 0, 1) := by decide +kernel
theorem dX0_blocksLeft_28 : decode cX0_blocksLeft 28 = .ok (.getfield 21, 3) := by decide +kernel
theorem dX0_blocksLeft_31 : decode cX0_blocksLeft 31 = .ok (.isub, 1) := by decide +kernel
theorem dX0_blocksLeft_32 : decode cX0_blocksLeft 32 = .ok (.invokestatic 37, 3) := by decide +kernel
theorem dX0_blocksLeft_35 : decode cX0_blocksLeft 35 = .ok (.ireturn, 1) := by decide +kernel
theorem dX0_bars_0 : decode cX0_bars 0 = .ok (.aload_n 0, 1) := by decide +kernel
theorem dX0_bars_1 : decode cX0_bars 1 = .ok (.iload_n 3, 1) := by decide +kernel
theorem dX0_bars_2 : decode cX0_bars 2 = .ok (.invokevirtual 47, 3) := by decide +kernel
theorem dX0_bars_5 : decode cX0_bars 5 = .ok (.istore 4, 2) := by decide +kernel
theorem dX0_bars_7 : decode cX0_bars 7 = .ok (.iload_n 1, 1) := by decide +kernel
theorem dX0_bars_8 : decode cX0_bars 8 = .ok (.ifCond .le 19, 3) := by decide +kernel
theorem dX0_bars_11 : decode cX0_bars 11 = .ok (.iload 4, 2) := by decide +kernel
theorem dX0_bars_13 : decode cX0_bars 13 = .ok (.iconst (-1), 1) := by decide +kernel
theorem dX0_bars_14 : decode cX0_bars 14 = .ok (.if_icmp .eq 13, 3) := by decide +kernel
theorem dX0_bars_17 : decode cX0_bars 17 = .ok (.iload_n 1, 1) := by decide +kernel
theorem dX0_bars_18 : decode cX0_bars 18 = .ok (.iload 4, 2) := by decide +kernel
theorem dX0_bars_20 : decode cX0_bars 20 = .ok (.if_icmp .le 7, 3) := by decide +kernel
theorem dX0_bars_23 : decode cX0_bars 23 = .ok (.iconst 1, 1) := by decide +kernel
theorem dX0_bars_24 : decode cX0_bars 24 = .ok (.goto 4, 3) := by decide +kernel
theorem dX0_bars_27 : decode cX0_bars 27 = .ok (.iconst 0, 1) := by decide +kernel
theorem dX0_bars_28 : decode cX0_bars 28 = .ok (.istore 5, 2) := by decide +kernel
theorem dX0_bars_30 : decode cX0_bars 30 = .ok (.iload_n 2, 1) := by decide +kernel
theorem dX0_bars_31 : decode cX0_bars 31 = .ok (.ifCond .le 28, 3) := by decide +kernel
theorem dX0_bars_34 : decode cX0_bars 34 = .ok (.aload_n 0, 1) := by decide +kernel
theorem dX0_bars_35 : decode cX0_bars 35 = .ok (.getfield 18, 3) := by decide +kernel
theorem dX0_bars_38 : decode cX0_bars 38 = .ok (.iconst (-1), 1) := by decide +kernel
theorem dX0_bars_39 : decode cX0_bars 39 = .ok (.if_icmp .eq 20, 3) := by decide +kernel
theorem dX0_bars_42 : decode cX0_bars 42 = .ok (.aload_n 0, 1) := by decide +kernel
theorem dX0_bars_43 : decode cX0_bars 43 = .ok (.getfield 24, 3) := by decide +kernel
theorem dX0_bars_46 : decode cX0_bars 46 = .ok (.iload_n 2, 1) := by decide +kernel
theorem dX0_bars_47 : decode cX0_bars 47 = .ok (.iadd, 1) := by decide +kernel
theorem dX0_bars_48 : decode cX0_bars 48 = .ok (.aload_n 0, 1) := by decide +kernel
theorem dX0_bars_49 : decode cX0_bars 49 = .ok (.getfield 18, 3) := by decide +kernel
theorem dX0_bars_52 : decode cX0_bars 52 = .ok (.if_icmp .le 7, 3) := by decide +kernel
theorem dX0_bars_55 : decode cX0_bars 55 = .ok (.iconst 1, 1) := by decide +kernel
theorem dX0_bars_56 : decode cX0_bars 56 = .ok (.goto 4, 3) := by decide +kernel
theorem dX0_bars_59 : decode cX0_bars 59 = .ok (.iconst 0, 1) := by decide +kernel
theorem dX0_bars_60 : decode cX0_bars 60 = .ok (.istore 6, 2) := by decide +kernel
theorem dX0_bars_62 : decode cX0_bars 62 = .ok (.iload 5, 2) := by decide +kernel
theorem dX0_bars_64 : decode cX0_bars 64 = .ok (.ifCond .ne 8, 3) := by decide +kernel
theorem dX0_bars_67 : decode cX0_bars 67 = .ok (.iload 6, 2) := by decide +kernel
theorem dX0_bars_69 : decode cX0_bars 69 = .ok (.ifCond .eq 7, 3) := by decide +kernel
theorem dX0_bars_72 : decode cX0_bars 72 = .ok (.iconst 1, 1) := by decide +kernel
theorem dX0_bars_73 : decode cX0_bars 73 = .ok (.goto 4, 3) := by decide +kernel
theorem dX0_bars_76 : decode cX0_bars 76 = .ok (.iconst 0, 1) := by decide +kernel
theorem dX0_bars_77 : decode cX0_bars 77 = .ok (.ireturn, 1) := by decide +kernel
theorem dX1_init_0 : decode cX1_init 0 = .ok (.aload_n 0, 1) := by decide +kernel
theorem dX1_init_1 : decode cX1_init 1 = .ok (.invokespecial 1, 3) := by decide +kernel
theorem dX1_init_4 : decode cX1_init 4 = .ok (.aload_n 0, 1) := by decide +kernel
theorem dX1_init_5 : decode cX1_init 5 = .ok (.new 7, 3) := by decide +kernel
theorem dX1_init_8 : decode cX1_init 8 = .ok (.dup, 1) := by decide +kernel
theorem dX1_init_9 : decode cX1_init 9 = .ok (.invokespecial 9, 3) := by decide +kernel
theorem dX1_init_12 : decode cX1_init 12 = .ok (.putfield 10, 3) := by decide +kernel
theorem dX1_init_15 : decode cX1_init 15 = .ok (.aload_n 0, 1) := by decide +kernel
theorem dX1_init_16 : decode cX1_init 16 = .ok (.iload_n 1, 1) := by decide +kernel
theorem dX1_init_17 : decode cX1_init 17 = .ok (.putfield 16, 3) := by decide +kernel
theorem dX1_init_20 : decode cX1_init 20 = .ok (.aload_n 0, 1) := by decide +kernel
theorem dX1_init_21 : decode cX1_init 21 = .ok (.aload_n 2, 1) := by decide +kernel
theorem dX1_init_22 : decode cX1_init 22 = .ok (.putfield 20, 3) := by decide +kernel
theorem dX1_init_25 : decode cX1_init 25 = .ok (.aload_n 0, 1) := by decide +kernel
theorem dX1_init_26 : decode cX1_init 26 = .ok (.iload_n 3, 1) := by decide +kernel
theorem dX1_init_27 : decode cX1_init 27 = .ok (.putfield 24, 3) := by decide +kernel
theorem dX1_init_30 : decode cX1_init 30 = .ok (.return_, 1) := by decide +kernel
theorem dX1_letters_0 : decode cX1_letters 0 = .ok (.iconst 0, 1) := by decide +kernel
theorem dX1_letters_1 : decode cX1_letters 1 = .ok (.istore_n 1, 1) := by decide +kernel
theorem dX1_letters_2 : decode cX1_letters 2 = .ok (.aload_n 0, 1) := by decide +kernel
theorem dX1_letters_3 : decode cX1_letters 3 = .ok (.getfield 20, 3) := by decide +kernel
theorem dX1_letters_6 : decode cX1_letters 6 = .ok (.astore_n 2, 1) := by decide +kernel
theorem dX1_letters_7 : decode cX1_letters 7 = .ok (.aload_n 2, 1) := by decide +kernel
theorem dX1_letters_8 : decode cX1_letters 8 = .ok (.ifnull 14, 3) := by decide +kernel
theorem dX1_letters_11 : decode cX1_letters 11 = .ok (.iinc 1 1, 3) := by decide +kernel
theorem dX1_letters_14 : decode cX1_letters 14 = .ok (.aload_n 2, 1) := by decide +kernel
theorem dX1_letters_15 : decode cX1_letters 15 = .ok (.getfield 20, 3) := by decide +kernel
theorem dX1_letters_18 : decode cX1_letters 18 = .ok (.astore_n 2, 1) := by decide +kernel
theorem dX1_letters_19 : decode cX1_letters 19 = .ok (.goto (-12), 3) := by decide +kernel
theorem dX1_letters_22 : decode cX1_letters 22 = .ok (.iload_n 1, 1) := by decide +kernel
theorem dX1_letters_23 : decode cX1_letters 23 = .ok (.ireturn, 1) := by decide +kernel
theorem dX1_isWithin_0 : decode cX1_isWithin 0 = .ok (.aload_n 0, 1) := by decide +kernel
theorem dX1_isWithin_1 : decode cX1_isWithin 1 = .ok (.astore_n 2, 1) := by decide +kernel
theorem dX1_isWithin_2 : decode cX1_isWithin 2 = .ok (.aload_n 2, 1) := by decide +kernel
theorem dX1_isWithin_3 : decode cX1_isWithin 3 = .ok (.ifnull 18, 3) := by decide +kernel
theorem dX1_isWithin_6 : decode cX1_isWithin 6 = .ok (.aload_n 2, 1) := by decide +kernel
theorem dX1_isWithin_7 : decode cX1_isWithin 7 = .ok (.aload_n 1, 1) := by decide +kernel
theorem dX1_isWithin_8 : decode cX1_isWithin 8 = .ok (.if_acmp .ne 5, 3) := by decide +kernel
theorem dX1_isWithin_11 : decode cX1_isWithin 11 = .ok (.iconst 1, 1) := by decide +kernel
theorem dX1_isWithin_12 : decode cX1_isWithin 12 = .ok (.ireturn, 1) := by decide +kernel
theorem dX1_isWithin_13 : decode cX1_isWithin 13 = .ok (.aload_n 2, 1) := by decide +kernel
theorem dX1_isWithin_14 : decode cX1_isWithin 14 = .ok (.getfield 20, 3) := by decide +kernel
theorem dX1_isWithin_17 : decode cX1_isWithin 17 = .ok (.astore_n 2, 1) := by decide +kernel
theorem dX1_isWithin_18 : decode cX1_isWithin 18 = .ok (.goto (-16), 3) := by decide +kernel
theorem dX1_isWithin_21 : decode cX1_isWithin 21 = .ok (.iconst 0, 1) := by decide +kernel
theorem dX1_isWithin_22 : decode cX1_isWithin 22 = .ok (.ireturn, 1) := by decide +kernel
theorem dX2_init_0 : decode cX2_init 0 = .ok (.aload_n 0, 1) := by decide +kernel
theorem dX2_init_1 : decode cX2_init 1 = .ok (.invokespecial 1, 3) := by decide +kernel
theorem dX2_init_4 : decode cX2_init 4 = .ok (.aload_n 0, 1) := by decide +kernel
theorem dX2_init_5 : decode cX2_init 5 = .ok (.iconst 1, 1) := by decide +kernel
theorem dX2_init_6 : decode cX2_init 6 = .ok (.putfield 7, 3) := by decide +kernel
theorem dX2_init_9 : decode cX2_init 9 = .ok (.aload_n 0, 1) := by decide +kernel
theorem dX2_init_10 : decode cX2_init 10 = .ok (.aload_n 1, 1) := by decide +kernel
theorem dX2_init_11 : decode cX2_init 11 = .ok (.putfield 13, 3) := by decide +kernel
theorem dX2_init_14 : decode cX2_init 14 = .ok (.aload_n 0, 1) := by decide +kernel
theorem dX2_init_15 : decode cX2_init 15 = .ok (.iload_n 2, 1) := by decide +kernel
theorem dX2_init_16 : decode cX2_init 16 = .ok (.putfield 17, 3) := by decide +kernel
theorem dX2_init_19 : decode cX2_init 19 = .ok (.return_, 1) := by decide +kernel
theorem dX3_init_0 : decode cX3_init 0 = .ok (.aload_n 0, 1) := by decide +kernel
theorem dX3_init_1 : decode cX3_init 1 = .ok (.invokespecial 1, 3) := by decide +kernel
theorem dX3_init_4 : decode cX3_init 4 = .ok (.aload_n 0, 1) := by decide +kernel
theorem dX3_init_5 : decode cX3_init 5 = .ok (.iconst 0, 1) := by decide +kernel
theorem dX3_init_6 : decode cX3_init 6 = .ok (.putfield 7, 3) := by decide +kernel
theorem dX3_init_9 : decode cX3_init 9 = .ok (.aload_n 0, 1) := by decide +kernel
theorem dX3_init_10 : decode cX3_init 10 = .ok (.iconst 0, 1) := by decide +kernel
theorem dX3_init_11 : decode cX3_init 11 = .ok (.putfield 13, 3) := by decide +kernel
theorem dX3_init_14 : decode cX3_init 14 = .ok (.aload_n 0, 1) := by decide +kernel
theorem dX3_init_15 : decode cX3_init 15 = .ok (.iload_n 1, 1) := by decide +kernel
theorem dX3_init_16 : decode cX3_init 16 = .ok (.putfield 17, 3) := by decide +kernel
theorem dX3_init_19 : decode cX3_init 19 = .ok (.aload_n 0, 1) := by decide +kernel
theorem dX3_init_20 : decode cX3_init 20 = .ok (.aload_n 2, 1) := by decide +kernel
theorem dX3_init_21 : decode cX3_init 21 = .ok (.putfield 20, 3) := by decide +kernel
theorem dX3_init_24 : decode cX3_init 24 = .ok (.aload_n 0, 1) := by decide +kernel
theorem dX3_init_25 : decode cX3_init 25 = .ok (.aload_n 3, 1) := by decide +kernel
theorem dX3_init_26 : decode cX3_init 26 = .ok (.putfield 24, 3) := by decide +kernel
theorem dX3_init_29 : decode cX3_init 29 = .ok (.aload_n 0, 1) := by decide +kernel
theorem dX3_init_30 : decode cX3_init 30 = .ok (.aload 4, 2) := by decide +kernel
theorem dX3_init_32 : decode cX3_init 32 = .ok (.putfield 27, 3) := by decide +kernel
theorem dX3_init_35 : decode cX3_init 35 = .ok (.return_, 1) := by decide +kernel
theorem dX4_init_0 : decode cX4_init 0 = .ok (.aload_n 0, 1) := by decide +kernel
theorem dX4_init_1 : decode cX4_init 1 = .ok (.invokespecial 1, 3) := by decide +kernel
theorem dX4_init_4 : decode cX4_init 4 = .ok (.aload_n 0, 1) := by decide +kernel
theorem dX4_init_5 : decode cX4_init 5 = .ok (.new 7, 3) := by decide +kernel
theorem dX4_init_8 : decode cX4_init 8 = .ok (.dup, 1) := by decide +kernel
theorem dX4_init_9 : decode cX4_init 9 = .ok (.invokespecial 9, 3) := by decide +kernel
theorem dX4_init_12 : decode cX4_init 12 = .ok (.putfield 10, 3) := by decide +kernel
theorem dX4_init_15 : decode cX4_init 15 = .ok (.aload_n 0, 1) := by decide +kernel
theorem dX4_init_16 : decode cX4_init 16 = .ok (.new 7, 3) := by decide +kernel
theorem dX4_init_19 : decode cX4_init 19 = .ok (.dup, 1) := by decide +kernel
theorem dX4_init_20 : decode cX4_init 20 = .ok (.invokespecial 9, 3) := by decide +kernel
theorem dX4_init_23 : decode cX4_init 23 = .ok (.putfield 16, 3) := by decide +kernel
theorem dX4_init_26 : decode cX4_init 26 = .ok (.aload_n 0, 1) := by decide +kernel
theorem dX4_init_27 : decode cX4_init 27 = .ok (.new 7, 3) := by decide +kernel
theorem dX4_init_30 : decode cX4_init 30 = .ok (.dup, 1) := by decide +kernel
theorem dX4_init_31 : decode cX4_init 31 = .ok (.invokespecial 9, 3) := by decide +kernel
theorem dX4_init_34 : decode cX4_init 34 = .ok (.putfield 19, 3) := by decide +kernel
theorem dX4_init_37 : decode cX4_init 37 = .ok (.aload_n 0, 1) := by decide +kernel
theorem dX4_init_38 : decode cX4_init 38 = .ok (.new 7, 3) := by decide +kernel
theorem dX4_init_41 : decode cX4_init 41 = .ok (.dup, 1) := by decide +kernel
theorem dX4_init_42 : decode cX4_init 42 = .ok (.invokespecial 9, 3) := by decide +kernel
theorem dX4_init_45 : decode cX4_init 45 = .ok (.putfield 22, 3) := by decide +kernel
theorem dX4_init_48 : decode cX4_init 48 = .ok (.aload_n 0, 1) := by decide +kernel
theorem dX4_init_49 : decode cX4_init 49 = .ok (.new 7, 3) := by decide +kernel
theorem dX4_init_52 : decode cX4_init 52 = .ok (.dup, 1) := by decide +kernel
theorem dX4_init_53 : decode cX4_init 53 = .ok (.invokespecial 9, 3) := by decide +kernel
theorem dX4_init_56 : decode cX4_init 56 = .ok (.putfield 25, 3) := by decide +kernel
theorem dX4_init_59 : decode cX4_init 59 = .ok (.aload_n 0, 1) := by decide +kernel
theorem dX4_init_60 : decode cX4_init 60 = .ok (.new 28, 3) := by decide +kernel
theorem dX4_init_63 : decode cX4_init 63 = .ok (.dup, 1) := by decide +kernel
theorem dX4_init_64 : decode cX4_init 64 = .ok (.invokespecial 30, 3) := by decide +kernel
theorem dX4_init_67 : decode cX4_init 67 = .ok (.putfield 31, 3) := by decide +kernel
theorem dX4_init_70 : decode cX4_init 70 = .ok (.aload_n 0, 1) := by decide +kernel
theorem dX4_init_71 : decode cX4_init 71 = .ok (.new 7, 3) := by decide +kernel
theorem dX4_init_74 : decode cX4_init 74 = .ok (.dup, 1) := by decide +kernel
theorem dX4_init_75 : decode cX4_init 75 = .ok (.invokespecial 9, 3) := by decide +kernel
theorem dX4_init_78 : decode cX4_init 78 = .ok (.putfield 35, 3) := by decide +kernel
theorem dX4_init_81 : decode cX4_init 81 = .ok (.aload_n 0, 1) := by decide +kernel
theorem dX4_init_82 : decode cX4_init 82 = .ok (.iconst 0, 1) := by decide +kernel
theorem dX4_init_83 : decode cX4_init 83 = .ok (.putfield 38, 3) := by decide +kernel
theorem dX4_init_86 : decode cX4_init 86 = .ok (.aload_n 0, 1) := by decide +kernel
theorem dX4_init_87 : decode cX4_init 87 = .ok (.iconst 0, 1) := by decide +kernel
theorem dX4_init_88 : decode cX4_init 88 = .ok (.putfield 42, 3) := by decide +kernel
theorem dX4_init_91 : decode cX4_init 91 = .ok (.aload_n 0, 1) := by decide +kernel
theorem dX4_init_92 : decode cX4_init 92 = .ok (.iconst 0, 1) := by decide +kernel
theorem dX4_init_93 : decode cX4_init 93 = .ok (.putfield 46, 3) := by decide +kernel
theorem dX4_init_96 : decode cX4_init 96 = .ok (.iconst 0, 1) := by decide +kernel
theorem dX4_init_97 : decode cX4_init 97 = .ok (.istore_n 1, 1) := by decide +kernel
theorem dX4_init_98 : decode cX4_init 98 = .ok (.iload_n 1, 1) := by decide +kernel
theorem dX4_init_99 : decode cX4_init 99 = .ok (.bipush 6, 2) := by decide +kernel
theorem dX4_init_101 : decode cX4_init 101 = .ok (.if_icmp .ge 24, 3) := by decide +kernel
theorem dX4_init_104 : decode cX4_init 104 = .ok (.aload_n 0, 1) := by decide +kernel
theorem dX4_init_105 : decode cX4_init 105 = .ok (.getfield 10, 3) := by decide +kernel
theorem dX4_init_108 : decode cX4_init 108 = .ok (.new 49, 3) := by decide +kernel
theorem dX4_init_111 : decode cX4_init 111 = .ok (.dup, 1) := by decide +kernel
theorem dX4_init_112 : decode cX4_init 112 = .ok (.invokespecial 51, 3) := by decide +kernel
theorem dX4_init_115 : decode cX4_init 115 = .ok (.invokevirtual 52, 3) := by decide +kernel
theorem dX4_init_118 : decode cX4_init 118 = .ok (.pop, 1) := by decide +kernel
theorem dX4_init_119 : decode cX4_init 119 = .ok (.iinc 1 1, 3) := by decide +kernel
theorem dX4_init_122 : decode cX4_init 122 = .ok (.goto (-24), 3) := by decide +kernel
theorem dX4_init_125 : decode cX4_init 125 = .ok (.iconst 0, 1) := by decide +kernel
theorem dX4_init_126 : decode cX4_init 126 = .ok (.istore_n 1, 1) := by decide +kernel
theorem dX4_init_127 : decode cX4_init 127 = .ok (.iload_n 1, 1) := by decide +kernel
theorem dX4_init_128 : decode cX4_init 128 = .ok (.iconst 3, 1) := by decide +kernel
theorem dX4_init_129 : decode cX4_init 129 = .ok (.if_icmp .ge 24, 3) := by decide +kernel
theorem dX4_init_132 : decode cX4_init 132 = .ok (.aload_n 0, 1) := by decide +kernel
theorem dX4_init_133 : decode cX4_init 133 = .ok (.getfield 16, 3) := by decide +kernel
theorem dX4_init_136 : decode cX4_init 136 = .ok (.new 49, 3) := by decide +kernel
theorem dX4_init_139 : decode cX4_init 139 = .ok (.dup, 1) := by decide +kernel
theorem dX4_init_140 : decode cX4_init 140 = .ok (.invokespecial 51, 3) := by decide +kernel
theorem dX4_init_143 : decode cX4_init 143 = .ok (.invokevirtual 52, 3) := by decide +kernel
theorem dX4_init_146 : decode cX4_init 146 = .ok (.pop, 1) := by decide +kernel
theorem dX4_init_147 : decode cX4_init 147 = .ok (.iinc 1 1, 3) := by decide +kernel
theorem dX4_init_150 : decode cX4_init 150 = .ok (.goto (-23), 3) := by decide +kernel
theorem dX4_init_153 : decode cX4_init 153 = .ok (.aload_n 0, 1) := by decide +kernel
theorem dX4_init_154 : decode cX4_init 154 = .ok (.new 56, 3) := by decide +kernel
theorem dX4_init_157 : decode cX4_init 157 = .ok (.dup, 1) := by decide +kernel
theorem dX4_init_158 : decode cX4_init 158 = .ok (.iconst 0, 1) := by decide +kernel
theorem dX4_init_159 : decode cX4_init 159 = .ok (.aconst_null, 1) := by decide +kernel
theorem dX4_init_160 : decode cX4_init 160 = .ok (.bipush 32, 2) := by decide +kernel
theorem dX4_init_162 : decode cX4_init 162 = .ok (.invokespecial 58, 3) := by decide +kernel
theorem dX4_init_165 : decode cX4_init 165 = .ok (.putfield 61, 3) := by decide +kernel
theorem dX4_init_168 : decode cX4_init 168 = .ok (.aload_n 0, 1) := by decide +kernel
theorem dX4_init_169 : decode cX4_init 169 = .ok (.getfield 19, 3) := by decide +kernel
theorem dX4_init_172 : decode cX4_init 172 = .ok (.aload_n 0, 1) := by decide +kernel
theorem dX4_init_173 : decode cX4_init 173 = .ok (.getfield 61, 3) := by decide +kernel
theorem dX4_init_176 : decode cX4_init 176 = .ok (.invokevirtual 52, 3) := by decide +kernel
theorem dX4_init_179 : decode cX4_init 179 = .ok (.pop, 1) := by decide +kernel
theorem dX4_init_180 : decode cX4_init 180 = .ok (.return_, 1) := by decide +kernel
theorem dX4_type_0 : decode cX4_type 0 = .ok (.iload_n 1, 1) := by decide +kernel
theorem dX4_type_1 : decode cX4_type 1 = .ok (.bipush 97, 2) := by decide +kernel
theorem dX4_type_3 : decode cX4_type 3 = .ok (.if_icmp .lt 9, 3) := by decide +kernel
theorem dX4_type_6 : decode cX4_type 6 = .ok (.iload_n 1, 1) := by decide +kernel
theorem dX4_type_7 : decode cX4_type 7 = .ok (.bipush 122, 2) := by decide +kernel
theorem dX4_type_9 : decode cX4_type 9 = .ok (.if_icmp .le 13, 3) := by decide +kernel
theorem dX4_type_12 : decode cX4_type 12 = .ok (.new 65, 3) := by decide +kernel
theorem dX4_type_15 : decode cX4_type 15 = .ok (.dup, 1) := by decide +kernel
theorem dX4_type_16 : decode cX4_type 16 = .ok (.ldc 67, 2) := by decide +kernel
theorem dX4_type_18 : decode cX4_type 18 = .ok (.invokespecial 69, 3) := by decide +kernel
theorem dX4_type_21 : decode cX4_type 21 = .ok (.athrow, 1) := by decide +kernel
theorem dX4_type_22 : decode cX4_type 22 = .ok (.aload_n 0, 1) := by decide +kernel
theorem dX4_type_23 : decode cX4_type 23 = .ok (.getfield 31, 3) := by decide +kernel
theorem dX4_type_26 : decode cX4_type 26 = .ok (.invokevirtual 72, 3) := by decide +kernel
theorem dX4_type_29 : decode cX4_type 29 = .ok (.bipush 8, 2) := by decide +kernel
theorem dX4_type_31 : decode cX4_type 31 = .ok (.if_icmp .lt 13, 3) := by decide +kernel
theorem dX4_type_34 : decode cX4_type 34 = .ok (.new 76, 3) := by decide +kernel
theorem dX4_type_37 : decode cX4_type 37 = .ok (.dup, 1) := by decide +kernel
theorem dX4_type_38 : decode cX4_type 38 = .ok (.ldc 78, 2) := by decide +kernel
theorem dX4_type_40 : decode cX4_type 40 = .ok (.invokespecial 80, 3) := by decide +kernel
theorem dX4_type_43 : decode cX4_type 43 = .ok (.athrow, 1) := by decide +kernel
theorem dX4_type_44 : decode cX4_type 44 = .ok (.aload_n 0, 1) := by decide +kernel
theorem dX4_type_45 : decode cX4_type 45 = .ok (.getfield 31, 3) := by decide +kernel
theorem dX4_type_48 : decode cX4_type 48 = .ok (.iload_n 1, 1) := by decide +kernel
theorem dX4_type_49 : decode cX4_type 49 = .ok (.invokevirtual 81, 3) := by decide +kernel
theorem dX4_type_52 : decode cX4_type 52 = .ok (.pop, 1) := by decide +kernel
theorem dX4_type_53 : decode cX4_type 53 = .ok (.aload_n 0, 1) := by decide +kernel
theorem dX4_type_54 : decode cX4_type 54 = .ok (.getfield 31, 3) := by decide +kernel
theorem dX4_type_57 : decode cX4_type 57 = .ok (.invokevirtual 72, 3) := by decide +kernel
theorem dX4_type_60 : decode cX4_type 60 = .ok (.ireturn, 1) := by decide +kernel
theorem dX4_back_0 : decode cX4_back 0 = .ok (.aload_n 0, 1) := by decide +kernel
theorem dX4_back_1 : decode cX4_back 1 = .ok (.getfield 31, 3) := by decide +kernel
theorem dX4_back_4 : decode cX4_back 4 = .ok (.invokevirtual 72, 3) := by decide +kernel
theorem dX4_back_7 : decode cX4_back 7 = .ok (.ifCond .ne 13, 3) := by decide +kernel
theorem dX4_back_10 : decode cX4_back 10 = .ok (.new 76, 3) := by decide +kernel
theorem dX4_back_13 : decode cX4_back 13 = .ok (.dup, 1) := by decide +kernel
theorem dX4_back_14 : decode cX4_back 14 = .ok (.ldc 85, 2) := by decide +kernel
theorem dX4_back_16 : decode cX4_back 16 = .ok (.invokespecial 80, 3) := by decide +kernel
theorem dX4_back_19 : decode cX4_back 19 = .ok (.athrow, 1) := by decide +kernel
theorem dX4_back_20 : decode cX4_back 20 = .ok (.aload_n 0, 1) := by decide +kernel
theorem dX4_back_21 : decode cX4_back 21 = .ok (.getfield 31, 3) := by decide +kernel
theorem dX4_back_24 : decode cX4_back 24 = .ok (.aload_n 0, 1) := by decide +kernel
theorem dX4_back_25 : decode cX4_back 25 = .ok (.getfield 31, 3) := by decide +kernel
theorem dX4_back_28 : decode cX4_back 28 = .ok (.invokevirtual 72, 3) := by decide +kernel
theorem dX4_back_31 : decode cX4_back 31 = .ok (.iconst 1, 1) := by decide +kernel
theorem dX4_back_32 : decode cX4_back 32 = .ok (.isub, 1) := by decide +kernel
theorem dX4_back_33 : decode cX4_back 33 = .ok (.invokevirtual 87, 3) := by decide +kernel
theorem dX4_back_36 : decode cX4_back 36 = .ok (.aload_n 0, 1) := by decide +kernel
theorem dX4_back_37 : decode cX4_back 37 = .ok (.getfield 31, 3) := by decide +kernel
theorem dX4_back_40 : decode cX4_back 40 = .ok (.invokevirtual 72, 3) := by decide +kernel
theorem dX4_back_43 : decode cX4_back 43 = .ok (.ireturn, 1) := by decide +kernel
theorem dX4_clearPath_0 : decode cX4_clearPath 0 = .ok (.aload_n 0, 1) := by decide +kernel
theorem dX4_clearPath_1 : decode cX4_clearPath 1 = .ok (.getfield 31, 3) := by decide +kernel
theorem dX4_clearPath_4 : decode cX4_clearPath 4 = .ok (.invokevirtual 72, 3) := by decide +kernel
theorem dX4_clearPath_7 : decode cX4_clearPath 7 = .ok (.istore_n 1, 1) := by decide +kernel
theorem dX4_clearPath_8 : decode cX4_clearPath 8 = .ok (.aload_n 0, 1) := by decide +kernel
theorem dX4_clearPath_9 : decode cX4_clearPath 9 = .ok (.getfield 31, 3) := by decide +kernel
theorem dX4_clearPath_12 : decode cX4_clearPath 12 = .ok (.iconst 0, 1) := by decide +kernel
theorem dX4_clearPath_13 : decode cX4_clearPath 13 = .ok (.invokevirtual 87, 3) := by decide +kernel
theorem dX4_clearPath_16 : decode cX4_clearPath 16 = .ok (.iload_n 1, 1) := by decide +kernel
theorem dX4_clearPath_17 : decode cX4_clearPath 17 = .ok (.ireturn, 1) := by decide +kernel
theorem dX4_makeProject_0 : decode cX4_makeProject 0 = .ok (.aload_n 0, 1) := by decide +kernel
theorem dX4_makeProject_1 : decode cX4_makeProject 1 = .ok (.getfield 31, 3) := by decide +kernel
theorem dX4_makeProject_4 : decode cX4_makeProject 4 = .ok (.invokevirtual 72, 3) := by decide +kernel
theorem dX4_makeProject_7 : decode cX4_makeProject 7 = .ok (.istore_n 1, 1) := by decide +kernel
theorem dX4_makeProject_8 : decode cX4_makeProject 8 = .ok (.iload_n 1, 1) := by decide +kernel
theorem dX4_makeProject_9 : decode cX4_makeProject 9 = .ok (.ifCond .eq 11, 3) := by decide +kernel
theorem dX4_makeProject_12 : decode cX4_makeProject 12 = .ok (.aload_n 0, 1) := by decide +kernel
theorem dX4_makeProject_13 : decode cX4_makeProject 13 = .ok (.iload_n 1, 1) := by decide +kernel
theorem dX4_makeProject_14 : decode cX4_makeProject 14 = .ok (.invokevirtual 91, 3) := by decide +kernel
theorem dX4_makeProject_17 : decode cX4_makeProject 17 = .ok (.ifnull 13, 3) := by decide +kernel
theorem dX4_makeProject_20 : decode cX4_makeProject 20 = .ok (.new 76, 3) := by decide +kernel
theorem dX4_makeProject_23 : decode cX4_makeProject 23 = .ok (.dup, 1) := by decide +kernel
theorem dX4_makeProject_24 : decode cX4_makeProject 24 = .ok (.ldc 95, 2) := by decide +kernel
theorem dX4_makeProject_26 : decode cX4_makeProject 26 = .ok (.invokespecial 80, 3) := by decide +kernel
theorem dX4_makeProject_29 : decode cX4_makeProject 29 = .ok (.athrow, 1) := by decide +kernel
theorem dX4_makeProject_30 : decode cX4_makeProject 30 = .ok (.aload_n 0, 1) := by decide +kernel
theorem dX4_makeProject_31 : decode cX4_makeProject 31 = .ok (.iload_n 1, 1) := by decide +kernel
theorem dX4_makeProject_32 : decode cX4_makeProject 32 = .ok (.iconst 1, 1) := by decide +kernel
theorem dX4_makeProject_33 : decode cX4_makeProject 33 = .ok (.isub, 1) := by decide +kernel
theorem dX4_makeProject_34 : decode cX4_makeProject 34 = .ok (.invokevirtual 91, 3) := by decide +kernel
theorem dX4_makeProject_37 : decode cX4_makeProject 37 = .ok (.astore_n 2, 1) := by decide +kernel
theorem dX4_makeProject_38 : decode cX4_makeProject 38 = .ok (.aload_n 2, 1) := by decide +kernel
theorem dX4_makeProject_39 : decode cX4_makeProject 39 = .ok (.ifnonnull 13, 3) := by decide +kernel
theorem dX4_makeProject_42 : decode cX4_makeProject 42 = .ok (.new 76, 3) := by decide +kernel
theorem dX4_makeProject_45 : decode cX4_makeProject 45 = .ok (.dup, 1) := by decide +kernel
theorem dX4_makeProject_46 : decode cX4_makeProject 46 = .ok (.ldc 97, 2) := by decide +kernel
theorem dX4_makeProject_48 : decode cX4_makeProject 48 = .ok (.invokespecial 80, 3) := by decide +kernel
theorem dX4_makeProject_51 : decode cX4_makeProject 51 = .ok (.athrow, 1) := by decide +kernel
theorem dX4_makeProject_52 : decode cX4_makeProject 52 = .ok (.aload_n 0, 1) := by decide +kernel
theorem dX4_makeProject_53 : decode cX4_makeProject 53 = .ok (.getfield 19, 3) := by decide +kernel
theorem dX4_makeProject_56 : decode cX4_makeProject 56 = .ok (.invokevirtual 99, 3) := by decide +kernel
theorem dX4_makeProject_59 : decode cX4_makeProject 59 = .ok (.bipush 21, 2) := by decide +kernel
theorem dX4_makeProject_61 : decode cX4_makeProject 61 = .ok (.if_icmp .lt 13, 3) := by decide +kernel
theorem dX4_makeProject_64 : decode cX4_makeProject 64 = .ok (.new 76, 3) := by decide +kernel
theorem dX4_makeProject_67 : decode cX4_makeProject 67 = .ok (.dup, 1) := by decide +kernel
theorem dX4_makeProject_68 : decode cX4_makeProject 68 = .ok (.ldc 102, 2) := by decide +kernel
theorem dX4_makeProject_70 : decode cX4_makeProject 70 = .ok (.invokespecial 80, 3) := by decide +kernel
theorem dX4_makeProject_73 : decode cX4_makeProject 73 = .ok (.athrow, 1) := by decide +kernel
theorem dX4_makeProject_74 : decode cX4_makeProject 74 = .ok (.new 56, 3) := by decide +kernel
theorem dX4_makeProject_77 : decode cX4_makeProject 77 = .ok (.dup, 1) := by decide +kernel
theorem dX4_makeProject_78 : decode cX4_makeProject 78 = .ok (.aload_n 0, 1) := by decide +kernel
theorem dX4_makeProject_79 : decode cX4_makeProject 79 = .ok (.getfield 19, 3) := by decide +kernel
theorem dX4_makeProject_82 : decode cX4_makeProject 82 = .ok (.invokevirtual 99, 3) := by decide +kernel
theorem dX4_makeProject_85 : decode cX4_makeProject 85 = .ok (.aload_n 2, 1) := by decide +kernel
theorem dX4_makeProject_86 : decode cX4_makeProject 86 = .ok (.aload_n 0, 1) := by decide +kernel
theorem dX4_makeProject_87 : decode cX4_makeProject 87 = .ok (.getfield 31, 3) := by decide +kernel
theorem dX4_makeProject_90 : decode cX4_makeProject 90 = .ok (.iload_n 1, 1) := by decide +kernel
theorem dX4_makeProject_91 : decode cX4_makeProject 91 = .ok (.iconst 1, 1) := by decide +kernel
theorem dX4_makeProject_92 : decode cX4_makeProject 92 = .ok (.isub, 1) := by decide +kernel
theorem dX4_makeProject_93 : decode cX4_makeProject 93 = .ok (.invokevirtual 104, 3) := by decide +kernel
theorem dX4_makeProject_96 : decode cX4_makeProject 96 = .ok (.invokespecial 58, 3) := by decide +kernel
theorem dX4_makeProject_99 : decode cX4_makeProject 99 = .ok (.astore_n 3, 1) := by decide +kernel
theorem dX4_makeProject_100 : decode cX4_makeProject 100 = .ok (.aload_n 0, 1) := by decide +kernel
theorem dX4_makeProject_101 : decode cX4_makeProject 101 = .ok (.getfield 19, 3) := by decide +kernel
theorem dX4_makeProject_104 : decode cX4_makeProject 104 = .ok (.aload_n 3, 1) := by decide +kernel
theorem dX4_makeProject_105 : decode cX4_makeProject 105 = .ok (.invokevirtual 52, 3) := by decide +kernel
theorem dX4_makeProject_108 : decode cX4_makeProject 108 = .ok (.pop, 1) := by decide +kernel
theorem dX4_makeProject_109 : decode cX4_makeProject 109 = .ok (.aload_n 3, 1) := by decide +kernel
theorem dX4_makeProject_110 : decode cX4_makeProject 110 = .ok (.getfield 108, 3) := by decide +kernel
theorem dX4_makeProject_113 : decode cX4_makeProject 113 = .ok (.ireturn, 1) := by decide +kernel
theorem dX4_findProject_0 : decode cX4_findProject 0 = .ok (.aload_n 0, 1) := by decide +kernel
theorem dX4_findProject_1 : decode cX4_findProject 1 = .ok (.aload_n 0, 1) := by decide +kernel
theorem dX4_findProject_2 : decode cX4_findProject 2 = .ok (.getfield 31, 3) := by decide +kernel
theorem dX4_findProject_5 : decode cX4_findProject 5 = .ok (.invokevirtual 72, 3) := by decide +kernel
theorem dX4_findProject_8 : decode cX4_findProject 8 = .ok (.invokevirtual 91, 3) := by decide +kernel
theorem dX4_findProject_11 : decode cX4_findProject 11 = .ok (.astore_n 1, 1) := by decide +kernel
theorem dX4_findProject_12 : decode cX4_findProject 12 = .ok (.aload_n 1, 1) := by decide +kernel
theorem dX4_findProject_13 : decode cX4_findProject 13 = .ok (.ifnonnull 7, 3) := by decide +kernel
theorem dX4_findProject_16 : decode cX4_findProject 16 = .ok (.iconst (-1), 1) := by decide +kernel
theorem dX4_findProject_17 : decode cX4_findProject 17 = .ok (.goto 7, 3) := by decide +kernel
theorem dX4_findProject_20 : decode cX4_findProject 20 = .ok (.aload_n 1, 1) := by decide +kernel
theorem dX4_findProject_21 : decode cX4_findProject 21 = .ok (.getfield 108, 3) := by decide +kernel
theorem dX4_findProject_24 : decode cX4_findProject 24 = .ok (.ireturn, 1) := by decide +kernel
theorem dX4_moveProject_0 : decode cX4_moveProject 0 = .ok (.aload_n 0, 1) := by decide +kernel
theorem dX4_moveProject_1 : decode cX4_moveProject 1 = .ok (.iload_n 1, 1) := by decide +kernel
theorem dX4_moveProject_2 : decode cX4_moveProject 2 = .ok (.invokevirtual 111, 3) := by decide +kernel
theorem dX4_moveProject_5 : decode cX4_moveProject 5 = .ok (.astore_n 2, 1) := by decide +kernel
theorem dX4_moveProject_6 : decode cX4_moveProject 6 = .ok (.aload_n 0, 1) := by decide +kernel
theorem dX4_moveProject_7 : decode cX4_moveProject 7 = .ok (.aload_n 0, 1) := by decide +kernel
theorem dX4_moveProject_8 : decode cX4_moveProject 8 = .ok (.getfield 31, 3) := by decide +kernel
theorem dX4_moveProject_11 : decode cX4_moveProject 11 = .ok (.invokevirtual 72, 3) := by decide +kernel
theorem dX4_moveProject_14 : decode cX4_moveProject 14 = .ok (.invokevirtual 91, 3) := by decide +kernel
theorem dX4_moveProject_17 : decode cX4_moveProject 17 = .ok (.astore_n 3, 1) := by decide +kernel
theorem dX4_moveProject_18 : decode cX4_moveProject 18 = .ok (.aload_n 3, 1) := by decide +kernel
theorem dX4_moveProject_19 : decode cX4_moveProject 19 = .ok (.ifnull 12, 3) := by decide +kernel
theorem dX4_moveProject_22 : decode cX4_moveProject 22 = .ok (.aload_n 0, 1) := by decide +kernel
theorem dX4_moveProject_23 : decode cX4_moveProject 23 = .ok (.aload_n 2, 1) := by decide +kernel
theorem dX4_moveProject_24 : decode cX4_moveProject 24 = .ok (.aload_n 3, 1) := by decide +kernel
theorem dX4_moveProject_25 : decode cX4_moveProject 25 = .ok (.invokevirtual 114, 3) := by decide +kernel
theorem dX4_moveProject_28 : decode cX4_moveProject 28 = .ok (.ifCond .ne 13, 3) := by decide +kernel
theorem dX4_moveProject_31 : decode cX4_moveProject 31 = .ok (.new 76, 3) := by decide +kernel
theorem dX4_moveProject_34 : decode cX4_moveProject 34 = .ok (.dup, 1) := by decide +kernel
theorem dX4_moveProject_35 : decode cX4_moveProject 35 = .ok (.ldc 118, 2) := by decide +kernel
theorem dX4_moveProject_37 : decode cX4_moveProject 37 = .ok (.invokespecial 80, 3) := by decide +kernel
theorem dX4_moveProject_40 : decode cX4_moveProject 40 = .ok (.athrow, 1) := by decide +kernel
theorem dX4_moveProject_41 : decode cX4_moveProject 41 = .ok (.aload_n 2, 1) := by decide +kernel
theorem dX4_moveProject_42 : decode cX4_moveProject 42 = .ok (.getfield 120, 3) := by decide +kernel
theorem dX4_moveProject_45 : decode cX4_moveProject 45 = .ok (.aload_n 3, 1) := by decide +kernel
theorem dX4_moveProject_46 : decode cX4_moveProject 46 = .ok (.if_acmp .ne 5, 3) := by decide +kernel
theorem dX4_moveProject_49 : decode cX4_moveProject 49 = .ok (.iconst 0, 1) := by decide +kernel
theorem dX4_moveProject_50 : decode cX4_moveProject 50 = .ok (.ireturn, 1) := by decide +kernel
theorem dX4_moveProject_51 : decode cX4_moveProject 51 = .ok (.aload_n 0, 1) := by decide +kernel
theorem dX4_moveProject_52 : decode cX4_moveProject 52 = .ok (.aload_n 2, 1) := by decide +kernel
theorem dX4_moveProject_53 : decode cX4_moveProject 53 = .ok (.iconst (-1), 1) := by decide +kernel
theorem dX4_moveProject_54 : decode cX4_moveProject 54 = .ok (.invokevirtual 123, 3) := by decide +kernel
theorem dX4_moveProject_57 : decode cX4_moveProject 57 = .ok (.aload_n 2, 1) := by decide +kernel
theorem dX4_moveProject_58 : decode cX4_moveProject 58 = .ok (.aload_n 3, 1) := by decide +kernel
theorem dX4_moveProject_59 : decode cX4_moveProject 59 = .ok (.putfield 120, 3) := by decide +kernel
theorem dX4_moveProject_62 : decode cX4_moveProject 62 = .ok (.aload_n 0, 1) := by decide +kernel
theorem dX4_moveProject_63 : decode cX4_moveProject 63 = .ok (.aload_n 2, 1) := by decide +kernel
theorem dX4_moveProject_64 : decode cX4_moveProject 64 = .ok (.iconst 1, 1) := by decide +kernel
theorem dX4_moveProject_65 : decode cX4_moveProject 65 = .ok (.invokevirtual 123, 3) := by decide +kernel
theorem dX4_moveProject_68 : decode cX4_moveProject 68 = .ok (.aload_n 0, 1) := by decide +kernel
theorem dX4_moveProject_69 : decode cX4_moveProject 69 = .ok (.invokevirtual 127, 3) := by decide +kernel
theorem dX4_moveProject_72 : decode cX4_moveProject 72 = .ok (.aload_n 0, 1) := by decide +kernel
theorem dX4_moveProject_73 : decode cX4_moveProject 73 = .ok (.aload_n 2, 1) := by decide +kernel
theorem dX4_moveProject_74 : decode cX4_moveProject 74 = .ok (.invokevirtual 130, 3) := by decide +kernel
theorem dX4_moveProject_77 : decode cX4_moveProject 77 = .ok (.ireturn, 1) := by decide +kernel
theorem dX4_letterAt_0 : decode cX4_letterAt 0 = .ok (.aload_n 0, 1) := by decide +kernel
theorem dX4_letterAt_1 : decode cX4_letterAt 1 = .ok (.iload_n 1, 1) := by decide +kernel
theorem dX4_letterAt_2 : decode cX4_letterAt 2 = .ok (.invokevirtual 111, 3) := by decide +kernel
theorem dX4_letterAt_5 : decode cX4_letterAt 5 = .ok (.astore_n 3, 1) := by decide +kernel
theorem dX4_letterAt_6 : decode cX4_letterAt 6 = .ok (.iload_n 2, 1) := by decide +kernel
theorem dX4_letterAt_7 : decode cX4_letterAt 7 = .ok (.ifCond .ge 13, 3) := by decide +kernel
theorem dX4_letterAt_10 : decode cX4_letterAt 10 = .ok (.new 134, 3) := by decide +kernel
theorem dX4_letterAt_13 : decode cX4_letterAt 13 = .ok (.dup, 1) := by decide +kernel
theorem dX4_letterAt_14 : decode cX4_letterAt 14 = .ok (.ldc 136, 2) := by decide +kernel
theorem dX4_letterAt_16 : decode cX4_letterAt 16 = .ok (.invokespecial 138, 3) := by decide +kernel
theorem dX4_letterAt_19 : decode cX4_letterAt 19 = .ok (.athrow, 1) := by decide +kernel
theorem dX4_letterAt_20 : decode cX4_letterAt 20 = .ok (.aload_n 3, 1) := by decide +kernel
theorem dX4_letterAt_21 : decode cX4_letterAt 21 = .ok (.invokevirtual 139, 3) := by decide +kernel
theorem dX4_letterAt_24 : decode cX4_letterAt 24 = .ok (.iconst 1, 1) := by decide +kernel
theorem dX4_letterAt_25 : decode cX4_letterAt 25 = .ok (.isub, 1) := by decide +kernel
theorem dX4_letterAt_26 : decode cX4_letterAt 26 = .ok (.istore 4, 2) := by decide +kernel
theorem dX4_letterAt_28 : decode cX4_letterAt 28 = .ok (.iload_n 2, 1) := by decide +kernel
theorem dX4_letterAt_29 : decode cX4_letterAt 29 = .ok (.iload 4, 2) := by decide +kernel
theorem dX4_letterAt_31 : decode cX4_letterAt 31 = .ok (.if_icmp .le 6, 3) := by decide +kernel
theorem dX4_letterAt_34 : decode cX4_letterAt 34 = .ok (.bipush 32, 2) := by decide +kernel
theorem dX4_letterAt_36 : decode cX4_letterAt 36 = .ok (.ireturn, 1) := by decide +kernel
theorem dX4_letterAt_37 : decode cX4_letterAt 37 = .ok (.iload 4, 2) := by decide +kernel
theorem dX4_letterAt_39 : decode cX4_letterAt 39 = .ok (.istore 5, 2) := by decide +kernel
theorem dX4_letterAt_41 : decode cX4_letterAt 41 = .ok (.iload 5, 2) := by decide +kernel
theorem dX4_letterAt_43 : decode cX4_letterAt 43 = .ok (.iload_n 2, 1) := by decide +kernel
theorem dX4_letterAt_44 : decode cX4_letterAt 44 = .ok (.if_icmp .le 21, 3) := by decide +kernel
theorem dX4_letterAt_47 : decode cX4_letterAt 47 = .ok (.aload_n 3, 1) := by decide +kernel
theorem dX4_letterAt_48 : decode cX4_letterAt 48 = .ok (.getfield 120, 3) := by decide +kernel
theorem dX4_letterAt_51 : decode cX4_letterAt 51 = .ok (.ifnull 14, 3) := by decide +kernel
theorem dX4_letterAt_54 : decode cX4_letterAt 54 = .ok (.aload_n 3, 1) := by decide +kernel
theorem dX4_letterAt_55 : decode cX4_letterAt 55 = .ok (.getfield 120, 3) := by decide +kernel
theorem dX4_letterAt_58 : decode cX4_letterAt 58 = .ok (.astore_n 3, 1) := by decide +kernel
theorem dX4_letterAt_59 : decode cX4_letterAt 59 = .ok (.iinc 5 (-1), 3) := by decide +kernel
theorem dX4_letterAt_62 : decode cX4_letterAt 62 = .ok (.goto (-21), 3) := by decide +kernel
theorem dX4_letterAt_65 : decode cX4_letterAt 65 = .ok (.aload_n 3, 1) := by decide +kernel
theorem dX4_letterAt_66 : decode cX4_letterAt 66 = .ok (.getfield 142, 3) := by decide +kernel
theorem dX4_letterAt_69 : decode cX4_letterAt 69 = .ok (.ireturn, 1) := by decide +kernel
theorem dX4_projects_0 : decode cX4_projects 0 = .ok (.aload_n 0, 1) := by decide +kernel
theorem dX4_projects_1 : decode cX4_projects 1 = .ok (.getfield 19, 3) := by decide +kernel
theorem dX4_projects_4 : decode cX4_projects 4 = .ok (.invokevirtual 99, 3) := by decide +kernel
theorem dX4_projects_7 : decode cX4_projects 7 = .ok (.ireturn, 1) := by decide +kernel
theorem dX4_makeFile_0 : decode cX4_makeFile 0 = .ok (.aload_n 0, 1) := by decide +kernel
theorem dX4_makeFile_1 : decode cX4_makeFile 1 = .ok (.iconst 0, 1) := by decide +kernel
theorem dX4_makeFile_2 : decode cX4_makeFile 2 = .ok (.iload_n 1, 1) := by decide +kernel
theorem dX4_makeFile_3 : decode cX4_makeFile 3 = .ok (.invokevirtual 146, 3) := by decide +kernel
theorem dX4_makeFile_6 : decode cX4_makeFile 6 = .ok (.astore_n 3, 1) := by decide +kernel
theorem dX4_makeFile_7 : decode cX4_makeFile 7 = .ok (.aload_n 0, 1) := by decide +kernel
theorem dX4_makeFile_8 : decode cX4_makeFile 8 = .ok (.iconst 1, 1) := by decide +kernel
theorem dX4_makeFile_9 : decode cX4_makeFile 9 = .ok (.iload_n 1, 1) := by decide +kernel
theorem dX4_makeFile_10 : decode cX4_makeFile 10 = .ok (.iconst 3, 1) := by decide +kernel
theorem dX4_makeFile_11 : decode cX4_makeFile 11 = .ok (.irem, 1) := by decide +kernel
theorem dX4_makeFile_12 : decode cX4_makeFile 12 = .ok (.invokevirtual 146, 3) := by decide +kernel
theorem dX4_makeFile_15 : decode cX4_makeFile 15 = .ok (.astore 4, 2) := by decide +kernel
theorem dX4_makeFile_17 : decode cX4_makeFile 17 = .ok (.aload_n 0, 1) := by decide +kernel
theorem dX4_makeFile_18 : decode cX4_makeFile 18 = .ok (.iload_n 2, 1) := by decide +kernel
theorem dX4_makeFile_19 : decode cX4_makeFile 19 = .ok (.invokevirtual 111, 3) := by decide +kernel
theorem dX4_makeFile_22 : decode cX4_makeFile 22 = .ok (.astore 5, 2) := by decide +kernel
theorem dX4_makeFile_24 : decode cX4_makeFile 24 = .ok (.aload_n 0, 1) := by decide +kernel
theorem dX4_makeFile_25 : decode cX4_makeFile 25 = .ok (.getfield 22, 3) := by decide +kernel
theorem dX4_makeFile_28 : decode cX4_makeFile 28 = .ok (.invokevirtual 99, 3) := by decide +kernel
theorem dX4_makeFile_31 : decode cX4_makeFile 31 = .ok (.bipush 40, 2) := by decide +kernel
theorem dX4_makeFile_33 : decode cX4_makeFile 33 = .ok (.if_icmp .lt 13, 3) := by decide +kernel
theorem dX4_makeFile_36 : decode cX4_makeFile 36 = .ok (.new 76, 3) := by decide +kernel
theorem dX4_makeFile_39 : decode cX4_makeFile 39 = .ok (.dup, 1) := by decide +kernel
theorem dX4_makeFile_40 : decode cX4_makeFile 40 = .ok (.ldc 150, 2) := by decide +kernel
theorem dX4_makeFile_42 : decode cX4_makeFile 42 = .ok (.invokespecial 80, 3) := by decide +kernel
theorem dX4_makeFile_45 : decode cX4_makeFile 45 = .ok (.athrow, 1) := by decide +kernel
theorem dX4_makeFile_46 : decode cX4_makeFile 46 = .ok (.new 152, 3) := by decide +kernel
theorem dX4_makeFile_49 : decode cX4_makeFile 49 = .ok (.dup, 1) := by decide +kernel
theorem dX4_makeFile_50 : decode cX4_makeFile 50 = .ok (.aload_n 0, 1) := by decide +kernel
theorem dX4_makeFile_51 : decode cX4_makeFile 51 = .ok (.getfield 22, 3) := by decide +kernel
theorem dX4_makeFile_54 : decode cX4_makeFile 54 = .ok (.invokevirtual 99, 3) := by decide +kernel
theorem dX4_makeFile_57 : decode cX4_makeFile 57 = .ok (.aload_n 3, 1) := by decide +kernel
theorem dX4_makeFile_58 : decode cX4_makeFile 58 = .ok (.aload 4, 2) := by decide +kernel
theorem dX4_makeFile_60 : decode cX4_makeFile 60 = .ok (.aload 5, 2) := by decide +kernel
theorem dX4_makeFile_62 : decode cX4_makeFile 62 = .ok (.invokespecial 154, 3) := by decide +kernel
theorem dX4_makeFile_65 : decode cX4_makeFile 65 = .ok (.astore 6, 2) := by decide +kernel
theorem dX4_makeFile_67 : decode cX4_makeFile 67 = .ok (.aload_n 0, 1) := by decide +kernel
theorem dX4_makeFile_68 : decode cX4_makeFile 68 = .ok (.aload 6, 2) := by decide +kernel
theorem dX4_makeFile_70 : decode cX4_makeFile 70 = .ok (.iconst 0, 1) := by decide +kernel
theorem dX4_makeFile_71 : decode cX4_makeFile 71 = .ok (.iconst 1, 1) := by decide +kernel
theorem dX4_makeFile_72 : decode cX4_makeFile 72 = .ok (.invokevirtual 157, 3) := by decide +kernel
theorem dX4_makeFile_75 : decode cX4_makeFile 75 = .ok (.istore 7, 2) := by decide +kernel
theorem dX4_makeFile_77 : decode cX4_makeFile 77 = .ok (.iload 7, 2) := by decide +kernel
theorem dX4_makeFile_79 : decode cX4_makeFile 79 = .ok (.iconst (-1), 1) := by decide +kernel
theorem dX4_makeFile_80 : decode cX4_makeFile 80 = .ok (.if_icmp .eq 9, 3) := by decide +kernel
theorem dX4_makeFile_83 : decode cX4_makeFile 83 = .ok (.iload 7, 2) := by decide +kernel
theorem dX4_makeFile_85 : decode cX4_makeFile 85 = .ok (.invokestatic 161, 3) := by decide +kernel
theorem dX4_makeFile_88 : decode cX4_makeFile 88 = .ok (.ireturn, 1) := by decide +kernel
theorem dX4_makeFile_89 : decode cX4_makeFile 89 = .ok (.aload_n 0, 1) := by decide +kernel
theorem dX4_makeFile_90 : decode cX4_makeFile 90 = .ok (.getfield 22, 3) := by decide +kernel
theorem dX4_makeFile_93 : decode cX4_makeFile 93 = .ok (.aload 6, 2) := by decide +kernel
theorem dX4_makeFile_95 : decode cX4_makeFile 95 = .ok (.invokevirtual 52, 3) := by decide +kernel
theorem dX4_makeFile_98 : decode cX4_makeFile 98 = .ok (.pop, 1) := by decide +kernel
theorem dX4_makeFile_99 : decode cX4_makeFile 99 = .ok (.aload_n 0, 1) := by decide +kernel
theorem dX4_makeFile_100 : decode cX4_makeFile 100 = .ok (.aload 6, 2) := by decide +kernel
theorem dX4_makeFile_102 : decode cX4_makeFile 102 = .ok (.iconst 0, 1) := by decide +kernel
theorem dX4_makeFile_103 : decode cX4_makeFile 103 = .ok (.iconst 1, 1) := by decide +kernel
theorem dX4_makeFile_104 : decode cX4_makeFile 104 = .ok (.invokevirtual 165, 3) := by decide +kernel
theorem dX4_makeFile_107 : decode cX4_makeFile 107 = .ok (.aload 6, 2) := by decide +kernel
theorem dX4_makeFile_109 : decode cX4_makeFile 109 = .ok (.getfield 169, 3) := by decide +kernel
theorem dX4_makeFile_112 : decode cX4_makeFile 112 = .ok (.ireturn, 1) := by decide +kernel
theorem dX4_write_0 : decode cX4_write 0 = .ok (.aload_n 0, 1) := by decide +kernel
theorem dX4_write_1 : decode cX4_write 1 = .ok (.iload_n 1, 1) := by decide +kernel
theorem dX4_write_2 : decode cX4_write 2 = .ok (.invokevirtual 170, 3) := by decide +kernel
theorem dX4_write_5 : decode cX4_write 5 = .ok (.astore_n 3, 1) := by decide +kernel
theorem dX4_write_6 : decode cX4_write 6 = .ok (.iload_n 2, 1) := by decide +kernel
theorem dX4_write_7 : decode cX4_write 7 = .ok (.sipush (-1000), 3) := by decide +kernel
theorem dX4_write_10 : decode cX4_write 10 = .ok (.if_icmp .lt 19, 3) := by decide +kernel
theorem dX4_write_13 : decode cX4_write 13 = .ok (.iload_n 2, 1) := by decide +kernel
theorem dX4_write_14 : decode cX4_write 14 = .ok (.sipush 1000, 3) := by decide +kernel
theorem dX4_write_17 : decode cX4_write 17 = .ok (.if_icmp .gt 12, 3) := by decide +kernel
theorem dX4_write_20 : decode cX4_write 20 = .ok (.aload_n 3, 1) := by decide +kernel
theorem dX4_write_21 : decode cX4_write 21 = .ok (.getfield 174, 3) := by decide +kernel
theorem dX4_write_24 : decode cX4_write 24 = .ok (.iload_n 2, 1) := by decide +kernel
theorem dX4_write_25 : decode cX4_write 25 = .ok (.iadd, 1) := by decide +kernel
theorem dX4_write_26 : decode cX4_write 26 = .ok (.ifCond .ge 13, 3) := by decide +kernel
theorem dX4_write_29 : decode cX4_write 29 = .ok (.new 65, 3) := by decide +kernel
theorem dX4_write_32 : decode cX4_write 32 = .ok (.dup, 1) := by decide +kernel
theorem dX4_write_33 : decode cX4_write 33 = .ok (.ldc 177, 2) := by decide +kernel
theorem dX4_write_35 : decode cX4_write 35 = .ok (.invokespecial 69, 3) := by decide +kernel
theorem dX4_write_38 : decode cX4_write 38 = .ok (.athrow, 1) := by decide +kernel
theorem dX4_write_39 : decode cX4_write 39 = .ok (.aload_n 0, 1) := by decide +kernel
theorem dX4_write_40 : decode cX4_write 40 = .ok (.aload_n 3, 1) := by decide +kernel
theorem dX4_write_41 : decode cX4_write 41 = .ok (.iload_n 2, 1) := by decide +kernel
theorem dX4_write_42 : decode cX4_write 42 = .ok (.iconst 0, 1) := by decide +kernel
theorem dX4_write_43 : decode cX4_write 43 = .ok (.invokevirtual 157, 3) := by decide +kernel
theorem dX4_write_46 : decode cX4_write 46 = .ok (.istore 4, 2) := by decide +kernel
theorem dX4_write_48 : decode cX4_write 48 = .ok (.iload 4, 2) := by decide +kernel
theorem dX4_write_50 : decode cX4_write 50 = .ok (.iconst (-1), 1) := by decide +kernel
theorem dX4_write_51 : decode cX4_write 51 = .ok (.if_icmp .eq 9, 3) := by decide +kernel
theorem dX4_write_54 : decode cX4_write 54 = .ok (.iload 4, 2) := by decide +kernel
theorem dX4_write_56 : decode cX4_write 56 = .ok (.invokestatic 161, 3) := by decide +kernel
theorem dX4_write_59 : decode cX4_write 59 = .ok (.ireturn, 1) := by decide +kernel
theorem dX4_write_60 : decode cX4_write 60 = .ok (.aload_n 3, 1) := by decide +kernel
theorem dX4_write_61 : decode cX4_write 61 = .ok (.dup, 1) := by decide +kernel
theorem dX4_write_62 : decode cX4_write 62 = .ok (.getfield 174, 3) := by decide +kernel
theorem dX4_write_65 : decode cX4_write 65 = .ok (.iload_n 2, 1) := by decide +kernel
theorem dX4_write_66 : decode cX4_write 66 = .ok (.iadd, 1) := by decide +kernel
theorem dX4_write_67 : decode cX4_write 67 = .ok (.putfield 174, 3) := by decide +kernel
theorem dX4_write_70 : decode cX4_write 70 = .ok (.aload_n 0, 1) := by decide +kernel
theorem dX4_write_71 : decode cX4_write 71 = .ok (.aload_n 3, 1) := by decide +kernel
theorem dX4_write_72 : decode cX4_write 72 = .ok (.iload_n 2, 1) := by decide +kernel
theorem dX4_write_73 : decode cX4_write 73 = .ok (.iconst 0, 1) := by decide +kernel
theorem dX4_write_74 : decode cX4_write 74 = .ok (.invokevirtual 165, 3) := by decide +kernel
theorem dX4_write_77 : decode cX4_write 77 = .ok (.aload_n 0, 1) := by decide +kernel
theorem dX4_write_78 : decode cX4_write 78 = .ok (.invokevirtual 127, 3) := by decide +kernel
theorem dX4_write_81 : decode cX4_write 81 = .ok (.aload_n 3, 1) := by decide +kernel
theorem dX4_write_82 : decode cX4_write 82 = .ok (.getfield 174, 3) := by decide +kernel
theorem dX4_write_85 : decode cX4_write 85 = .ok (.ireturn, 1) := by decide +kernel
theorem dX4_delete_0 : decode cX4_delete 0 = .ok (.aload_n 0, 1) := by decide +kernel
theorem dX4_delete_1 : decode cX4_delete 1 = .ok (.iload_n 1, 1) := by decide +kernel
theorem dX4_delete_2 : decode cX4_delete 2 = .ok (.invokevirtual 170, 3) := by decide +kernel
theorem dX4_delete_5 : decode cX4_delete 5 = .ok (.astore_n 2, 1) := by decide +kernel
theorem dX4_delete_6 : decode cX4_delete 6 = .ok (.aload_n 0, 1) := by decide +kernel
theorem dX4_delete_7 : decode cX4_delete 7 = .ok (.aload_n 2, 1) := by decide +kernel
theorem dX4_delete_8 : decode cX4_delete 8 = .ok (.invokevirtual 179, 3) := by decide +kernel
theorem dX4_delete_11 : decode cX4_delete 11 = .ok (.istore_n 3, 1) := by decide +kernel
theorem dX4_delete_12 : decode cX4_delete 12 = .ok (.aload_n 0, 1) := by decide +kernel
theorem dX4_delete_13 : decode cX4_delete 13 = .ok (.aload_n 2, 1) := by decide +kernel
theorem dX4_delete_14 : decode cX4_delete 14 = .ok (.iload_n 3, 1) := by decide +kernel
theorem dX4_delete_15 : decode cX4_delete 15 = .ok (.ineg, 1) := by decide +kernel
theorem dX4_delete_16 : decode cX4_delete 16 = .ok (.iconst (-1), 1) := by decide +kernel
theorem dX4_delete_17 : decode cX4_delete 17 = .ok (.invokevirtual 165, 3) := by decide +kernel
theorem dX4_delete_20 : decode cX4_delete 20 = .ok (.aload_n 2, 1) := by decide +kernel
theorem dX4_delete_21 : decode cX4_delete 21 = .ok (.iconst 1, 1) := by decide +kernel
theorem dX4_delete_22 : decode cX4_delete 22 = .ok (.putfield 183, 3) := by decide +kernel
theorem dX4_delete_25 : decode cX4_delete 25 = .ok (.iconst 0, 1) := by decide +kernel
theorem dX4_delete_26 : decode cX4_delete 26 = .ok (.istore 4, 2) := by decide +kernel
theorem dX4_delete_28 : decode cX4_delete 28 = .ok (.iload 4, 2) := by decide +kernel
theorem dX4_delete_30 : decode cX4_delete 30 = .ok (.aload_n 0, 1) := by decide +kernel
theorem dX4_delete_31 : decode cX4_delete 31 = .ok (.getfield 25, 3) := by decide +kernel
theorem dX4_delete_34 : decode cX4_delete 34 = .ok (.invokevirtual 99, 3) := by decide +kernel
theorem dX4_delete_37 : decode cX4_delete 37 = .ok (.if_icmp .ge 38, 3) := by decide +kernel
theorem dX4_delete_40 : decode cX4_delete 40 = .ok (.aload_n 0, 1) := by decide +kernel
theorem dX4_delete_41 : decode cX4_delete 41 = .ok (.getfield 25, 3) := by decide +kernel
theorem dX4_delete_44 : decode cX4_delete 44 = .ok (.iload 4, 2) := by decide +kernel
theorem dX4_delete_46 : decode cX4_delete 46 = .ok (.invokevirtual 186, 3) := by decide +kernel
theorem dX4_delete_49 : decode cX4_delete 49 = .ok (.checkcast 190, 3) := by decide +kernel
theorem dX4_delete_52 : decode cX4_delete 52 = .ok (.astore 5, 2) := by decide +kernel
theorem dX4_delete_54 : decode cX4_delete 54 = .ok (.aload 5, 2) := by decide +kernel
theorem dX4_delete_56 : decode cX4_delete 56 = .ok (.getfield 192, 3) := by decide +kernel
theorem dX4_delete_59 : decode cX4_delete 59 = .ok (.aload_n 2, 1) := by decide +kernel
theorem dX4_delete_60 : decode cX4_delete 60 = .ok (.if_acmp .ne 9, 3) := by decide +kernel
theorem dX4_delete_63 : decode cX4_delete 63 = .ok (.aload 5, 2) := by decide +kernel
theorem dX4_delete_65 : decode cX4_delete 65 = .ok (.iconst 0, 1) := by decide +kernel
theorem dX4_delete_66 : decode cX4_delete 66 = .ok (.putfield 196, 3) := by decide +kernel
theorem dX4_delete_69 : decode cX4_delete 69 = .ok (.iinc 4 1, 3) := by decide +kernel
theorem dX4_delete_72 : decode cX4_delete 72 = .ok (.goto (-44), 3) := by decide +kernel
theorem dX4_delete_75 : decode cX4_delete 75 = .ok (.aload_n 0, 1) := by decide +kernel
theorem dX4_delete_76 : decode cX4_delete 76 = .ok (.invokevirtual 127, 3) := by decide +kernel
theorem dX4_delete_79 : decode cX4_delete 79 = .ok (.iload_n 3, 1) := by decide +kernel
theorem dX4_delete_80 : decode cX4_delete 80 = .ok (.ireturn, 1) := by decide +kernel
theorem dX4_moveFile_0 : decode cX4_moveFile 0 = .ok (.aload_n 0, 1) := by decide +kernel
theorem dX4_moveFile_1 : decode cX4_moveFile 1 = .ok (.iload_n 1, 1) := by decide +kernel
theorem dX4_moveFile_2 : decode cX4_moveFile 2 = .ok (.invokevirtual 170, 3) := by decide +kernel
theorem dX4_moveFile_5 : decode cX4_moveFile 5 = .ok (.astore_n 3, 1) := by decide +kernel
theorem dX4_moveFile_6 : decode cX4_moveFile 6 = .ok (.aload_n 0, 1) := by decide +kernel
theorem dX4_moveFile_7 : decode cX4_moveFile 7 = .ok (.iload_n 2, 1) := by decide +kernel
theorem dX4_moveFile_8 : decode cX4_moveFile 8 = .ok (.invokevirtual 111, 3) := by decide +kernel
theorem dX4_moveFile_11 : decode cX4_moveFile 11 = .ok (.astore 4, 2) := by decide +kernel
theorem dX4_moveFile_13 : decode cX4_moveFile 13 = .ok (.aload_n 3, 1) := by decide +kernel
theorem dX4_moveFile_14 : decode cX4_moveFile 14 = .ok (.getfield 199, 3) := by decide +kernel
theorem dX4_moveFile_17 : decode cX4_moveFile 17 = .ok (.astore 5, 2) := by decide +kernel
theorem dX4_moveFile_19 : decode cX4_moveFile 19 = .ok (.aload_n 0, 1) := by decide +kernel
theorem dX4_moveFile_20 : decode cX4_moveFile 20 = .ok (.aload_n 3, 1) := by decide +kernel
theorem dX4_moveFile_21 : decode cX4_moveFile 21 = .ok (.invokevirtual 179, 3) := by decide +kernel
theorem dX4_moveFile_24 : decode cX4_moveFile 24 = .ok (.istore 6, 2) := by decide +kernel
theorem dX4_moveFile_26 : decode cX4_moveFile 26 = .ok (.aload_n 0, 1) := by decide +kernel
theorem dX4_moveFile_27 : decode cX4_moveFile 27 = .ok (.aload_n 3, 1) := by decide +kernel
theorem dX4_moveFile_28 : decode cX4_moveFile 28 = .ok (.iload 6, 2) := by decide +kernel
theorem dX4_moveFile_30 : decode cX4_moveFile 30 = .ok (.ineg, 1) := by decide +kernel
theorem dX4_moveFile_31 : decode cX4_moveFile 31 = .ok (.iconst (-1), 1) := by decide +kernel
theorem dX4_moveFile_32 : decode cX4_moveFile 32 = .ok (.invokevirtual 165, 3) := by decide +kernel
theorem dX4_moveFile_35 : decode cX4_moveFile 35 = .ok (.aload_n 3, 1) := by decide +kernel
theorem dX4_moveFile_36 : decode cX4_moveFile 36 = .ok (.aload 4, 2) := by decide +kernel
theorem dX4_moveFile_38 : decode cX4_moveFile 38 = .ok (.putfield 199, 3) := by decide +kernel
theorem dX4_moveFile_41 : decode cX4_moveFile 41 = .ok (.aload_n 0, 1) := by decide +kernel
theorem dX4_moveFile_42 : decode cX4_moveFile 42 = .ok (.aload_n 3, 1) := by decide +kernel
theorem dX4_moveFile_43 : decode cX4_moveFile 43 = .ok (.iload 6, 2) := by decide +kernel
theorem dX4_moveFile_45 : decode cX4_moveFile 45 = .ok (.iconst 1, 1) := by decide +kernel
theorem dX4_moveFile_46 : decode cX4_moveFile 46 = .ok (.invokevirtual 165, 3) := by decide +kernel
theorem dX4_moveFile_49 : decode cX4_moveFile 49 = .ok (.aload_n 0, 1) := by decide +kernel
theorem dX4_moveFile_50 : decode cX4_moveFile 50 = .ok (.invokevirtual 127, 3) := by decide +kernel
theorem dX4_moveFile_53 : decode cX4_moveFile 53 = .ok (.aload 5, 2) := by decide +kernel
theorem dX4_moveFile_55 : decode cX4_moveFile 55 = .ok (.getfield 108, 3) := by decide +kernel
theorem dX4_moveFile_58 : decode cX4_moveFile 58 = .ok (.ireturn, 1) := by decide +kernel
theorem dX4_reserve_0 : decode cX4_reserve 0 = .ok (.aload_n 0, 1) := by decide +kernel
theorem dX4_reserve_1 : decode cX4_reserve 1 = .ok (.iload_n 1, 1) := by decide +kernel
theorem dX4_reserve_2 : decode cX4_reserve 2 = .ok (.invokevirtual 170, 3) := by decide +kernel
theorem dX4_reserve_5 : decode cX4_reserve 5 = .ok (.astore_n 3, 1) := by decide +kernel
theorem dX4_reserve_6 : decode cX4_reserve 6 = .ok (.iload_n 2, 1) := by decide +kernel
theorem dX4_reserve_7 : decode cX4_reserve 7 = .ok (.iconst 1, 1) := by decide +kernel
theorem dX4_reserve_8 : decode cX4_reserve 8 = .ok (.if_icmp .lt 10, 3) := by decide +kernel
theorem dX4_reserve_11 : decode cX4_reserve 11 = .ok (.iload_n 2, 1) := by decide +kernel
theorem dX4_reserve_12 : decode cX4_reserve 12 = .ok (.sipush 1000, 3) := by decide +kernel
theorem dX4_reserve_15 : decode cX4_reserve 15 = .ok (.if_icmp .le 13, 3) := by decide +kernel
theorem dX4_reserve_18 : decode cX4_reserve 18 = .ok (.new 65, 3) := by decide +kernel
theorem dX4_reserve_21 : decode cX4_reserve 21 = .ok (.dup, 1) := by decide +kernel
theorem dX4_reserve_22 : decode cX4_reserve 22 = .ok (.ldc 177, 2) := by decide +kernel
theorem dX4_reserve_24 : decode cX4_reserve 24 = .ok (.invokespecial 69, 3) := by decide +kernel
theorem dX4_reserve_27 : decode cX4_reserve 27 = .ok (.athrow, 1) := by decide +kernel
theorem dX4_reserve_28 : decode cX4_reserve 28 = .ok (.aload_n 0, 1) := by decide +kernel
theorem dX4_reserve_29 : decode cX4_reserve 29 = .ok (.getfield 25, 3) := by decide +kernel
theorem dX4_reserve_32 : decode cX4_reserve 32 = .ok (.invokevirtual 99, 3) := by decide +kernel
theorem dX4_reserve_35 : decode cX4_reserve 35 = .ok (.bipush 30, 2) := by decide +kernel
theorem dX4_reserve_37 : decode cX4_reserve 37 = .ok (.if_icmp .lt 13, 3) := by decide +kernel
theorem dX4_reserve_40 : decode cX4_reserve 40 = .ok (.new 76, 3) := by decide +kernel
theorem dX4_reserve_43 : decode cX4_reserve 43 = .ok (.dup, 1) := by decide +kernel
theorem dX4_reserve_44 : decode cX4_reserve 44 = .ok (.ldc 202, 2) := by decide +kernel
theorem dX4_reserve_46 : decode cX4_reserve 46 = .ok (.invokespecial 80, 3) := by decide +kernel
theorem dX4_reserve_49 : decode cX4_reserve 49 = .ok (.athrow, 1) := by decide +kernel
theorem dX4_reserve_50 : decode cX4_reserve 50 = .ok (.aload_n 0, 1) := by decide +kernel
theorem dX4_reserve_51 : decode cX4_reserve 51 = .ok (.aload_n 3, 1) := by decide +kernel
theorem dX4_reserve_52 : decode cX4_reserve 52 = .ok (.iload_n 2, 1) := by decide +kernel
theorem dX4_reserve_53 : decode cX4_reserve 53 = .ok (.iconst 0, 1) := by decide +kernel
theorem dX4_reserve_54 : decode cX4_reserve 54 = .ok (.invokevirtual 157, 3) := by decide +kernel
theorem dX4_reserve_57 : decode cX4_reserve 57 = .ok (.istore 4, 2) := by decide +kernel
theorem dX4_reserve_59 : decode cX4_reserve 59 = .ok (.iload 4, 2) := by decide +kernel
theorem dX4_reserve_61 : decode cX4_reserve 61 = .ok (.iconst (-1), 1) := by decide +kernel
theorem dX4_reserve_62 : decode cX4_reserve 62 = .ok (.if_icmp .eq 9, 3) := by decide +kernel
theorem dX4_reserve_65 : decode cX4_reserve 65 = .ok (.iload 4, 2) := by decide +kernel
theorem dX4_reserve_67 : decode cX4_reserve 67 = .ok (.invokestatic 161, 3) := by decide +kernel
theorem dX4_reserve_70 : decode cX4_reserve 70 = .ok (.ireturn, 1) := by decide +kernel
theorem dX4_reserve_71 : decode cX4_reserve 71 = .ok (.aload_n 0, 1) := by decide +kernel
theorem dX4_reserve_72 : decode cX4_reserve 72 = .ok (.getfield 25, 3) := by decide +kernel
theorem dX4_reserve_75 : decode cX4_reserve 75 = .ok (.new 190, 3) := by decide +kernel
theorem dX4_reserve_78 : decode cX4_reserve 78 = .ok (.dup, 1) := by decide +kernel
theorem dX4_reserve_79 : decode cX4_reserve 79 = .ok (.aload_n 3, 1) := by decide +kernel
theorem dX4_reserve_80 : decode cX4_reserve 80 = .ok (.iload_n 2, 1) := by decide +kernel
theorem dX4_reserve_81 : decode cX4_reserve 81 = .ok (.invokespecial 204, 3) := by decide +kernel
theorem dX4_reserve_84 : decode cX4_reserve 84 = .ok (.invokevirtual 52, 3) := by decide +kernel
theorem dX4_reserve_87 : decode cX4_reserve 87 = .ok (.pop, 1) := by decide +kernel
theorem dX4_reserve_88 : decode cX4_reserve 88 = .ok (.aload_n 0, 1) := by decide +kernel
theorem dX4_reserve_89 : decode cX4_reserve 89 = .ok (.aload_n 3, 1) := by decide +kernel
theorem dX4_reserve_90 : decode cX4_reserve 90 = .ok (.iload_n 2, 1) := by decide +kernel
theorem dX4_reserve_91 : decode cX4_reserve 91 = .ok (.iconst 0, 1) := by decide +kernel
theorem dX4_reserve_92 : decode cX4_reserve 92 = .ok (.invokevirtual 165, 3) := by decide +kernel
theorem dX4_reserve_95 : decode cX4_reserve 95 = .ok (.aload_n 0, 1) := by decide +kernel
theorem dX4_reserve_96 : decode cX4_reserve 96 = .ok (.invokevirtual 127, 3) := by decide +kernel
theorem dX4_reserve_99 : decode cX4_reserve 99 = .ok (.aload_n 0, 1) := by decide +kernel
theorem dX4_reserve_100 : decode cX4_reserve 100 = .ok (.getfield 25, 3) := by decide +kernel
theorem dX4_reserve_103 : decode cX4_reserve 103 = .ok (.invokevirtual 99, 3) := by decide +kernel
theorem dX4_reserve_106 : decode cX4_reserve 106 = .ok (.iconst 1, 1) := by decide +kernel
theorem dX4_reserve_107 : decode cX4_reserve 107 = .ok (.isub, 1) := by decide +kernel
theorem dX4_reserve_108 : decode cX4_reserve 108 = .ok (.ireturn, 1) := by decide +kernel
theorem dX4_settle_0 : decode cX4_settle 0 = .ok (.iload_n 1, 1) := by decide +kernel
theorem dX4_settle_1 : decode cX4_settle 1 = .ok (.ifCond .lt 31, 3) := by decide +kernel
theorem dX4_settle_4 : decode cX4_settle 4 = .ok (.iload_n 1, 1) := by decide +kernel
theorem dX4_settle_5 : decode cX4_settle 5 = .ok (.aload_n 0, 1) := by decide +kernel
theorem dX4_settle_6 : decode cX4_settle 6 = .ok (.getfield 25, 3) := by decide +kernel
theorem dX4_settle_9 : decode cX4_settle 9 = .ok (.invokevirtual 99, 3) := by decide +kernel
theorem dX4_settle_12 : decode cX4_settle 12 = .ok (.if_icmp .ge 20, 3) := by decide +kernel
theorem dX4_settle_15 : decode cX4_settle 15 = .ok (.aload_n 0, 1) := by decide +kernel
theorem dX4_settle_16 : decode cX4_settle 16 = .ok (.getfield 25, 3) := by decide +kernel
theorem dX4_settle_19 : decode cX4_settle 19 = .ok (.iload_n 1, 1) := by decide +kernel
theorem dX4_settle_20 : decode cX4_settle 20 = .ok (.invokevirtual 186, 3) := by decide +kernel
theorem dX4_settle_23 : decode cX4_settle 23 = .ok (.checkcast 190, 3) := by decide +kernel
theorem dX4_settle_26 : decode cX4_settle 26 = .ok (.getfield 196, 3) := by decide +kernel
theorem dX4_settle_29 : decode cX4_settle 29 = .ok (.ifCond .ne 13, 3) := by decide +kernel
theorem dX4_settle_32 : decode cX4_settle 32 = .ok (.new 134, 3) := by decide +kernel
theorem dX4_settle_35 : decode cX4_settle 35 = .ok (.dup, 1) := by decide +kernel
theorem dX4_settle_36 : decode cX4_settle 36 = .ok (.ldc 207, 2) := by decide +kernel
theorem dX4_settle_38 : decode cX4_settle 38 = .ok (.invokespecial 138, 3) := by decide +kernel
theorem dX4_settle_41 : decode cX4_settle 41 = .ok (.athrow, 1) := by decide +kernel
theorem dX4_settle_42 : decode cX4_settle 42 = .ok (.aload_n 0, 1) := by decide +kernel
theorem dX4_settle_43 : decode cX4_settle 43 = .ok (.getfield 25, 3) := by decide +kernel
theorem dX4_settle_46 : decode cX4_settle 46 = .ok (.iload_n 1, 1) := by decide +kernel
theorem dX4_settle_47 : decode cX4_settle 47 = .ok (.invokevirtual 186, 3) := by decide +kernel
theorem dX4_settle_50 : decode cX4_settle 50 = .ok (.checkcast 190, 3) := by decide +kernel
theorem dX4_settle_53 : decode cX4_settle 53 = .ok (.astore_n 3, 1) := by decide +kernel
theorem dX4_settle_54 : decode cX4_settle 54 = .ok (.iload_n 2, 1) := by decide +kernel
theorem dX4_settle_55 : decode cX4_settle 55 = .ok (.ifCond .lt 11, 3) := by decide +kernel
theorem dX4_settle_58 : decode cX4_settle 58 = .ok (.iload_n 2, 1) := by decide +kernel
theorem dX4_settle_59 : decode cX4_settle 59 = .ok (.aload_n 3, 1) := by decide +kernel
theorem dX4_settle_60 : decode cX4_settle 60 = .ok (.getfield 209, 3) := by decide +kernel
theorem dX4_settle_63 : decode cX4_settle 63 = .ok (.if_icmp .le 13, 3) := by decide +kernel
theorem dX4_settle_66 : decode cX4_settle 66 = .ok (.new 65, 3) := by decide +kernel
theorem dX4_settle_69 : decode cX4_settle 69 = .ok (.dup, 1) := by decide +kernel
theorem dX4_settle_70 : decode cX4_settle 70 = .ok (.ldc 177, 2) := by decide +kernel
theorem dX4_settle_72 : decode cX4_settle 72 = .ok (.invokespecial 69, 3) := by decide +kernel
theorem dX4_settle_75 : decode cX4_settle 75 = .ok (.athrow, 1) := by decide +kernel
theorem dX4_settle_76 : decode cX4_settle 76 = .ok (.aload_n 3, 1) := by decide +kernel
theorem dX4_settle_77 : decode cX4_settle 77 = .ok (.iconst 0, 1) := by decide +kernel
theorem dX4_settle_78 : decode cX4_settle 78 = .ok (.putfield 196, 3) := by decide +kernel
theorem dX4_settle_81 : decode cX4_settle 81 = .ok (.aload_n 3, 1) := by decide +kernel
theorem dX4_settle_82 : decode cX4_settle 82 = .ok (.getfield 192, 3) := by decide +kernel
theorem dX4_settle_85 : decode cX4_settle 85 = .ok (.dup, 1) := by decide +kernel
theorem dX4_settle_86 : decode cX4_settle 86 = .ok (.getfield 174, 3) := by decide +kernel
theorem dX4_settle_89 : decode cX4_settle 89 = .ok (.iload_n 2, 1) := by decide +kernel
theorem dX4_settle_90 : decode cX4_settle 90 = .ok (.iadd, 1) := by decide +kernel
theorem dX4_settle_91 : decode cX4_settle 91 = .ok (.putfield 174, 3) := by decide +kernel
theorem dX4_settle_94 : decode cX4_settle 94 = .ok (.aload_n 0, 1) := by decide +kernel
theorem dX4_settle_95 : decode cX4_settle 95 = .ok (.aload_n 3, 1) := by decide +kernel
theorem dX4_settle_96 : decode cX4_settle 96 = .ok (.getfield 192, 3) := by decide +kernel
theorem dX4_settle_99 : decode cX4_settle 99 = .ok (.iload_n 2, 1) := by decide +kernel
theorem dX4_settle_100 : decode cX4_settle 100 = .ok (.aload_n 3, 1) := by decide +kernel
theorem dX4_settle_101 : decode cX4_settle 101 = .ok (.getfield 209, 3) := by decide +kernel
theorem dX4_settle_104 : decode cX4_settle 104 = .ok (.isub, 1) := by decide +kernel
theorem dX4_settle_105 : decode cX4_settle 105 = .ok (.iconst 0, 1) := by decide +kernel
theorem dX4_settle_106 : decode cX4_settle 106 = .ok (.invokevirtual 165, 3) := by decide +kernel
theorem dX4_settle_109 : decode cX4_settle 109 = .ok (.aload_n 0, 1) := by decide +kernel
theorem dX4_settle_110 : decode cX4_settle 110 = .ok (.invokevirtual 127, 3) := by decide +kernel
theorem dX4_settle_113 : decode cX4_settle 113 = .ok (.aload_n 3, 1) := by decide +kernel
theorem dX4_settle_114 : decode cX4_settle 114 = .ok (.getfield 192, 3) := by decide +kernel
theorem dX4_settle_117 : decode cX4_settle 117 = .ok (.getfield 174, 3) := by decide +kernel
theorem dX4_settle_120 : decode cX4_settle 120 = .ok (.ireturn, 1) := by decide +kernel
theorem dX4_setLimits_0 : decode cX4_setLimits 0 = .ok (.aload_n 0, 1) := by decide +kernel
theorem dX4_setLimits_1 : decode cX4_setLimits 1 = .ok (.iload_n 1, 1) := by decide +kernel
theorem dX4_setLimits_2 : decode cX4_setLimits 2 = .ok (.iload_n 2, 1) := by decide +kernel
theorem dX4_setLimits_3 : decode cX4_setLimits 3 = .ok (.invokevirtual 146, 3) := by decide +kernel
theorem dX4_setLimits_6 : decode cX4_setLimits 6 = .ok (.astore 6, 2) := by decide +kernel
theorem dX4_setLimits_8 : decode cX4_setLimits 8 = .ok (.iload_n 3, 1) := by decide +kernel
theorem dX4_setLimits_9 : decode cX4_setLimits 9 = .ok (.ldc 210, 2) := by decide +kernel
theorem dX4_setLimits_11 : decode cX4_setLimits 11 = .ok (.invokestatic 211, 3) := by decide +kernel
theorem dX4_setLimits_14 : decode cX4_setLimits 14 = .ok (.ifCond .eq 23, 3) := by decide +kernel
theorem dX4_setLimits_17 : decode cX4_setLimits 17 = .ok (.iload 4, 2) := by decide +kernel
theorem dX4_setLimits_19 : decode cX4_setLimits 19 = .ok (.ldc 210, 2) := by decide +kernel
theorem dX4_setLimits_21 : decode cX4_setLimits 21 = .ok (.invokestatic 211, 3) := by decide +kernel
theorem dX4_setLimits_24 : decode cX4_setLimits 24 = .ok (.ifCond .eq 13, 3) := by decide +kernel
theorem dX4_setLimits_27 : decode cX4_setLimits 27 = .ok (.iload 5, 2) := by decide +kernel
theorem dX4_setLimits_29 : decode cX4_setLimits 29 = .ok (.bipush 100, 2) := by decide +kernel
theorem dX4_setLimits_31 : decode cX4_setLimits 31 = .ok (.invokestatic 211, 3) := by decide +kernel
theorem dX4_setLimits_34 : decode cX4_setLimits 34 = .ok (.ifCond .ne 13, 3) := by decide +kernel
theorem dX4_setLimits_37 : decode cX4_setLimits 37 = .ok (.new 65, 3) := by decide +kernel
theorem dX4_setLimits_40 : decode cX4_setLimits 40 = .ok (.dup, 1) := by decide +kernel
theorem dX4_setLimits_41 : decode cX4_setLimits 41 = .ok (.ldc 215, 2) := by decide +kernel
theorem dX4_setLimits_43 : decode cX4_setLimits 43 = .ok (.invokespecial 69, 3) := by decide +kernel
theorem dX4_setLimits_46 : decode cX4_setLimits 46 = .ok (.athrow, 1) := by decide +kernel
theorem dX4_setLimits_47 : decode cX4_setLimits 47 = .ok (.aload 6, 2) := by decide +kernel
theorem dX4_setLimits_49 : decode cX4_setLimits 49 = .ok (.iload_n 3, 1) := by decide +kernel
theorem dX4_setLimits_50 : decode cX4_setLimits 50 = .ok (.putfield 217, 3) := by decide +kernel
theorem dX4_setLimits_53 : decode cX4_setLimits 53 = .ok (.aload 6, 2) := by decide +kernel
theorem dX4_setLimits_55 : decode cX4_setLimits 55 = .ok (.iload 4, 2) := by decide +kernel
theorem dX4_setLimits_57 : decode cX4_setLimits 57 = .ok (.putfield 220, 3) := by decide +kernel
theorem dX4_setLimits_60 : decode cX4_setLimits 60 = .ok (.aload 6, 2) := by decide +kernel
theorem dX4_setLimits_62 : decode cX4_setLimits 62 = .ok (.iload 5, 2) := by decide +kernel
theorem dX4_setLimits_64 : decode cX4_setLimits 64 = .ok (.putfield 223, 3) := by decide +kernel
theorem dX4_setLimits_67 : decode cX4_setLimits 67 = .ok (.aload 6, 2) := by decide +kernel
theorem dX4_setLimits_69 : decode cX4_setLimits 69 = .ok (.aload_n 0, 1) := by decide +kernel
theorem dX4_setLimits_70 : decode cX4_setLimits 70 = .ok (.getfield 38, 3) := by decide +kernel
theorem dX4_setLimits_73 : decode cX4_setLimits 73 = .ok (.invokevirtual 226, 3) := by decide +kernel
theorem dX4_setLimits_76 : decode cX4_setLimits 76 = .ok (.return_, 1) := by decide +kernel
theorem dX4_pass_0 : decode cX4_pass 0 = .ok (.iload_n 1, 1) := by decide +kernel
theorem dX4_pass_1 : decode cX4_pass 1 = .ok (.iconst 1, 1) := by decide +kernel
theorem dX4_pass_2 : decode cX4_pass 2 = .ok (.if_icmp .lt 10, 3) := by decide +kernel
theorem dX4_pass_5 : decode cX4_pass 5 = .ok (.iload_n 1, 1) := by decide +kernel
theorem dX4_pass_6 : decode cX4_pass 6 = .ok (.sipush 1000, 3) := by decide +kernel
theorem dX4_pass_9 : decode cX4_pass 9 = .ok (.if_icmp .le 13, 3) := by decide +kernel
theorem dX4_pass_12 : decode cX4_pass 12 = .ok (.new 65, 3) := by decide +kernel
theorem dX4_pass_15 : decode cX4_pass 15 = .ok (.dup, 1) := by decide +kernel
theorem dX4_pass_16 : decode cX4_pass 16 = .ok (.ldc 229, 2) := by decide +kernel
theorem dX4_pass_18 : decode cX4_pass 18 = .ok (.invokespecial 69, 3) := by decide +kernel
theorem dX4_pass_21 : decode cX4_pass 21 = .ok (.athrow, 1) := by decide +kernel
theorem dX4_pass_22 : decode cX4_pass 22 = .ok (.aload_n 0, 1) := by decide +kernel
theorem dX4_pass_23 : decode cX4_pass 23 = .ok (.getfield 38, 3) := by decide +kernel
theorem dX4_pass_26 : decode cX4_pass 26 = .ok (.iload_n 1, 1) := by decide +kernel
theorem dX4_pass_27 : decode cX4_pass 27 = .ok (.iadd, 1) := by decide +kernel
theorem dX4_pass_28 : decode cX4_pass 28 = .ok (.ldc 210, 2) := by decide +kernel
theorem dX4_pass_30 : decode cX4_pass 30 = .ok (.if_icmp .le 13, 3) := by decide +kernel
theorem dX4_pass_33 : decode cX4_pass 33 = .ok (.new 76, 3) := by decide +kernel
theorem dX4_pass_36 : decode cX4_pass 36 = .ok (.dup, 1) := by decide +kernel
theorem dX4_pass_37 : decode cX4_pass 37 = .ok (.ldc 231, 2) := by decide +kernel
theorem dX4_pass_39 : decode cX4_pass 39 = .ok (.invokespecial 80, 3) := by decide +kernel
theorem dX4_pass_42 : decode cX4_pass 42 = .ok (.athrow, 1) := by decide +kernel
theorem dX4_pass_43 : decode cX4_pass 43 = .ok (.aload_n 0, 1) := by decide +kernel
theorem dX4_pass_44 : decode cX4_pass 44 = .ok (.dup, 1) := by decide +kernel
theorem dX4_pass_45 : decode cX4_pass 45 = .ok (.getfield 38, 3) := by decide +kernel
theorem dX4_pass_48 : decode cX4_pass 48 = .ok (.iload_n 1, 1) := by decide +kernel
theorem dX4_pass_49 : decode cX4_pass 49 = .ok (.iadd, 1) := by decide +kernel
theorem dX4_pass_50 : decode cX4_pass 50 = .ok (.putfield 38, 3) := by decide +kernel
theorem dX4_pass_53 : decode cX4_pass 53 = .ok (.aload_n 0, 1) := by decide +kernel
theorem dX4_pass_54 : decode cX4_pass 54 = .ok (.getfield 38, 3) := by decide +kernel
theorem dX4_pass_57 : decode cX4_pass 57 = .ok (.ireturn, 1) := by decide +kernel
theorem dX4_used_0 : decode cX4_used 0 = .ok (.aload_n 0, 1) := by decide +kernel
theorem dX4_used_1 : decode cX4_used 1 = .ok (.iload_n 1, 1) := by decide +kernel
theorem dX4_used_2 : decode cX4_used 2 = .ok (.iload_n 2, 1) := by decide +kernel
theorem dX4_used_3 : decode cX4_used 3 = .ok (.invokevirtual 146, 3) := by decide +kernel
theorem dX4_used_6 : decode cX4_used 6 = .ok (.getfield 233, 3) := by decide +kernel
theorem dX4_used_9 : decode cX4_used 9 = .ok (.ireturn, 1) := by decide +kernel
theorem dX4_filesOf_0 : decode cX4_filesOf 0 = .ok (.aload_n 0, 1) := by decide +kernel
theorem dX4_filesOf_1 : decode cX4_filesOf 1 = .ok (.iload_n 1, 1) := by decide +kernel
theorem dX4_filesOf_2 : decode cX4_filesOf 2 = .ok (.iload_n 2, 1) := by decide +kernel
theorem dX4_filesOf_3 : decode cX4_filesOf 3 = .ok (.invokevirtual 146, 3) := by decide +kernel
theorem dX4_filesOf_6 : decode cX4_filesOf 6 = .ok (.getfield 236, 3) := by decide +kernel
theorem dX4_filesOf_9 : decode cX4_filesOf 9 = .ok (.ireturn, 1) := by decide +kernel
theorem dX4_usedByFiles_0 : decode cX4_usedByFiles 0 = .ok (.aload_n 0, 1) := by decide +kernel
theorem dX4_usedByFiles_1 : decode cX4_usedByFiles 1 = .ok (.iload_n 1, 1) := by decide +kernel
theorem dX4_usedByFiles_2 : decode cX4_usedByFiles 2 = .ok (.iload_n 2, 1) := by decide +kernel
theorem dX4_usedByFiles_3 : decode cX4_usedByFiles 3 = .ok (.invokevirtual 146, 3) := by decide +kernel
theorem dX4_usedByFiles_6 : decode cX4_usedByFiles 6 = .ok (.astore_n 3, 1) := by decide +kernel
theorem dX4_usedByFiles_7 : decode cX4_usedByFiles 7 = .ok (.iconst 0, 1) := by decide +kernel
theorem dX4_usedByFiles_8 : decode cX4_usedByFiles 8 = .ok (.istore 4, 2) := by decide +kernel
theorem dX4_usedByFiles_10 : decode cX4_usedByFiles 10 = .ok (.iconst 0, 1) := by decide +kernel
theorem dX4_usedByFiles_11 : decode cX4_usedByFiles 11 = .ok (.istore 5, 2) := by decide +kernel
theorem dX4_usedByFiles_13 : decode cX4_usedByFiles 13 = .ok (.iload 5, 2) := by decide +kernel
theorem dX4_usedByFiles_15 : decode cX4_usedByFiles 15 = .ok (.aload_n 0, 1) := by decide +kernel
theorem dX4_usedByFiles_16 : decode cX4_usedByFiles 16 = .ok (.getfield 22, 3) := by decide +kernel
theorem dX4_usedByFiles_19 : decode cX4_usedByFiles 19 = .ok (.invokevirtual 99, 3) := by decide +kernel
theorem dX4_usedByFiles_22 : decode cX4_usedByFiles 22 = .ok (.if_icmp .ge 52, 3) := by decide +kernel
theorem dX4_usedByFiles_25 : decode cX4_usedByFiles 25 = .ok (.aload_n 0, 1) := by decide +kernel
theorem dX4_usedByFiles_26 : decode cX4_usedByFiles 26 = .ok (.getfield 22, 3) := by decide +kernel
theorem dX4_usedByFiles_29 : decode cX4_usedByFiles 29 = .ok (.iload 5, 2) := by decide +kernel
theorem dX4_usedByFiles_31 : decode cX4_usedByFiles 31 = .ok (.invokevirtual 186, 3) := by decide +kernel
theorem dX4_usedByFiles_34 : decode cX4_usedByFiles 34 = .ok (.checkcast 152, 3) := by decide +kernel
theorem dX4_usedByFiles_37 : decode cX4_usedByFiles 37 = .ok (.astore 6, 2) := by decide +kernel
theorem dX4_usedByFiles_39 : decode cX4_usedByFiles 39 = .ok (.aload 6, 2) := by decide +kernel
theorem dX4_usedByFiles_41 : decode cX4_usedByFiles 41 = .ok (.getfield 183, 3) := by decide +kernel
theorem dX4_usedByFiles_44 : decode cX4_usedByFiles 44 = .ok (.ifCond .ne 24, 3) := by decide +kernel
theorem dX4_usedByFiles_47 : decode cX4_usedByFiles 47 = .ok (.aload_n 0, 1) := by decide +kernel
theorem dX4_usedByFiles_48 : decode cX4_usedByFiles 48 = .ok (.aload 6, 2) := by decide +kernel
theorem dX4_usedByFiles_50 : decode cX4_usedByFiles 50 = .ok (.aload_n 3, 1) := by decide +kernel
theorem dX4_usedByFiles_51 : decode cX4_usedByFiles 51 = .ok (.invokevirtual 239, 3) := by decide +kernel
theorem dX4_usedByFiles_54 : decode cX4_usedByFiles 54 = .ok (.ifCond .eq 14, 3) := by decide +kernel
theorem dX4_usedByFiles_57 : decode cX4_usedByFiles 57 = .ok (.iload 4, 2) := by decide +kernel
theorem dX4_usedByFiles_59 : decode cX4_usedByFiles 59 = .ok (.aload_n 0, 1) := by decide +kernel
theorem dX4_usedByFiles_60 : decode cX4_usedByFiles 60 = .ok (.aload 6, 2) := by decide +kernel
theorem dX4_usedByFiles_62 : decode cX4_usedByFiles 62 = .ok (.invokevirtual 179, 3) := by decide +kernel
theorem dX4_usedByFiles_65 : decode cX4_usedByFiles 65 = .ok (.iadd, 1) := by decide +kernel
theorem dX4_usedByFiles_66 : decode cX4_usedByFiles 66 = .ok (.istore 4, 2) := by decide +kernel
theorem dX4_usedByFiles_68 : decode cX4_usedByFiles 68 = .ok (.iinc 5 1, 3) := by decide +kernel
theorem dX4_usedByFiles_71 : decode cX4_usedByFiles 71 = .ok (.goto (-58), 3) := by decide +kernel
theorem dX4_usedByFiles_74 : decode cX4_usedByFiles 74 = .ok (.iload 4, 2) := by decide +kernel
theorem dX4_usedByFiles_76 : decode cX4_usedByFiles 76 = .ok (.ireturn, 1) := by decide +kernel
theorem dX4_grace_0 : decode cX4_grace 0 = .ok (.aload_n 0, 1) := by decide +kernel
theorem dX4_grace_1 : decode cX4_grace 1 = .ok (.iload_n 1, 1) := by decide +kernel
theorem dX4_grace_2 : decode cX4_grace 2 = .ok (.iload_n 2, 1) := by decide +kernel
theorem dX4_grace_3 : decode cX4_grace 3 = .ok (.invokevirtual 146, 3) := by decide +kernel
theorem dX4_grace_6 : decode cX4_grace 6 = .ok (.aload_n 0, 1) := by decide +kernel
theorem dX4_grace_7 : decode cX4_grace 7 = .ok (.getfield 38, 3) := by decide +kernel
theorem dX4_grace_10 : decode cX4_grace 10 = .ok (.invokevirtual 243, 3) := by decide +kernel
theorem dX4_grace_13 : decode cX4_grace 13 = .ok (.ireturn, 1) := by decide +kernel
theorem dX4_room_0 : decode cX4_room 0 = .ok (.aload_n 0, 1) := by decide +kernel
theorem dX4_room_1 : decode cX4_room 1 = .ok (.aload_n 0, 1) := by decide +kernel
theorem dX4_room_2 : decode cX4_room 2 = .ok (.iload_n 1, 1) := by decide +kernel
theorem dX4_room_3 : decode cX4_room 3 = .ok (.invokevirtual 170, 3) := by decide +kernel
theorem dX4_room_6 : decode cX4_room 6 = .ok (.invokevirtual 246, 3) := by decide +kernel
theorem dX4_room_9 : decode cX4_room 9 = .ok (.astore_n 2, 1) := by decide +kernel
theorem dX4_room_10 : decode cX4_room 10 = .ok (.iconst (-1), 1) := by decide +kernel
theorem dX4_room_11 : decode cX4_room 11 = .ok (.istore_n 3, 1) := by decide +kernel
theorem dX4_room_12 : decode cX4_room 12 = .ok (.iconst 0, 1) := by decide +kernel
theorem dX4_room_13 : decode cX4_room 13 = .ok (.istore 4, 2) := by decide +kernel
theorem dX4_room_15 : decode cX4_room 15 = .ok (.iload 4, 2) := by decide +kernel
theorem dX4_room_17 : decode cX4_room 17 = .ok (.aload_n 2, 1) := by decide +kernel
theorem dX4_room_18 : decode cX4_room 18 = .ok (.invokevirtual 99, 3) := by decide +kernel
theorem dX4_room_21 : decode cX4_room 21 = .ok (.if_icmp .ge 47, 3) := by decide +kernel
theorem dX4_room_24 : decode cX4_room 24 = .ok (.aload_n 2, 1) := by decide +kernel
theorem dX4_room_25 : decode cX4_room 25 = .ok (.iload 4, 2) := by decide +kernel
theorem dX4_room_27 : decode cX4_room 27 = .ok (.invokevirtual 186, 3) := by decide +kernel
theorem dX4_room_30 : decode cX4_room 30 = .ok (.checkcast 49, 3) := by decide +kernel
theorem dX4_room_33 : decode cX4_room 33 = .ok (.aload_n 0, 1) := by decide +kernel
theorem dX4_room_34 : decode cX4_room 34 = .ok (.getfield 38, 3) := by decide +kernel
theorem dX4_room_37 : decode cX4_room 37 = .ok (.invokevirtual 250, 3) := by decide +kernel
theorem dX4_room_40 : decode cX4_room 40 = .ok (.istore 5, 2) := by decide +kernel
theorem dX4_room_42 : decode cX4_room 42 = .ok (.iload 5, 2) := by decide +kernel
theorem dX4_room_44 : decode cX4_room 44 = .ok (.iconst (-1), 1) := by decide +kernel
theorem dX4_room_45 : decode cX4_room 45 = .ok (.if_icmp .eq 17, 3) := by decide +kernel
theorem dX4_room_48 : decode cX4_room 48 = .ok (.iload_n 3, 1) := by decide +kernel
theorem dX4_room_49 : decode cX4_room 49 = .ok (.iconst (-1), 1) := by decide +kernel
theorem dX4_room_50 : decode cX4_room 50 = .ok (.if_icmp .eq 9, 3) := by decide +kernel
theorem dX4_room_53 : decode cX4_room 53 = .ok (.iload 5, 2) := by decide +kernel
theorem dX4_room_55 : decode cX4_room 55 = .ok (.iload_n 3, 1) := by decide +kernel
theorem dX4_room_56 : decode cX4_room 56 = .ok (.if_icmp .ge 6, 3) := by decide +kernel
theorem dX4_room_59 : decode cX4_room 59 = .ok (.iload 5, 2) := by decide +kernel
theorem dX4_room_61 : decode cX4_room 61 = .ok (.istore_n 3, 1) := by decide +kernel
theorem dX4_room_62 : decode cX4_room 62 = .ok (.iinc 4 1, 3) := by decide +kernel
theorem dX4_room_65 : decode cX4_room 65 = .ok (.goto (-50), 3) := by decide +kernel
theorem dX4_room_68 : decode cX4_room 68 = .ok (.iload_n 3, 1) := by decide +kernel
theorem dX4_room_69 : decode cX4_room 69 = .ok (.ireturn, 1) := by decide +kernel
theorem dX4_beginRecount_0 : decode cX4_beginRecount 0 = .ok (.aload_n 0, 1) := by decide +kernel
theorem dX4_beginRecount_1 : decode cX4_beginRecount 1 = .ok (.iconst 1, 1) := by decide +kernel
theorem dX4_beginRecount_2 : decode cX4_beginRecount 2 = .ok (.putfield 42, 3) := by decide +kernel
theorem dX4_beginRecount_5 : decode cX4_beginRecount 5 = .ok (.aload_n 0, 1) := by decide +kernel
theorem dX4_beginRecount_6 : decode cX4_beginRecount 6 = .ok (.iconst 0, 1) := by decide +kernel
theorem dX4_beginRecount_7 : decode cX4_beginRecount 7 = .ok (.putfield 46, 3) := by decide +kernel
theorem dX4_beginRecount_10 : decode cX4_beginRecount 10 = .ok (.iconst 0, 1) := by decide +kernel
theorem dX4_beginRecount_11 : decode cX4_beginRecount 11 = .ok (.istore_n 1, 1) := by decide +kernel
theorem dX4_beginRecount_12 : decode cX4_beginRecount 12 = .ok (.iload_n 1, 1) := by decide +kernel
theorem dX4_beginRecount_13 : decode cX4_beginRecount 13 = .ok (.aload_n 0, 1) := by decide +kernel
theorem dX4_beginRecount_14 : decode cX4_beginRecount 14 = .ok (.getfield 10, 3) := by decide +kernel
theorem dX4_beginRecount_17 : decode cX4_beginRecount 17 = .ok (.invokevirtual 99, 3) := by decide +kernel
theorem dX4_beginRecount_20 : decode cX4_beginRecount 20 = .ok (.if_icmp .ge 24, 3) := by decide +kernel
theorem dX4_beginRecount_23 : decode cX4_beginRecount 23 = .ok (.aload_n 0, 1) := by decide +kernel
theorem dX4_beginRecount_24 : decode cX4_beginRecount 24 = .ok (.getfield 10, 3) := by decide +kernel
theorem dX4_beginRecount_27 : decode cX4_beginRecount 27 = .ok (.iload_n 1, 1) := by decide +kernel
theorem dX4_beginRecount_28 : decode cX4_beginRecount 28 = .ok (.invokevirtual 186, 3) := by decide +kernel
theorem dX4_beginRecount_31 : decode cX4_beginRecount 31 = .ok (.checkcast 49, 3) := by decide +kernel
theorem dX4_beginRecount_34 : decode cX4_beginRecount 34 = .ok (.iconst 0, 1) := by decide +kernel
theorem dX4_beginRecount_35 : decode cX4_beginRecount 35 = .ok (.putfield 253, 3) := by decide +kernel
theorem dX4_beginRecount_38 : decode cX4_beginRecount 38 = .ok (.iinc 1 1, 3) := by decide +kernel
theorem dX4_beginRecount_41 : decode cX4_beginRecount 41 = .ok (.goto (-29), 3) := by decide +kernel
theorem dX4_beginRecount_44 : decode cX4_beginRecount 44 = .ok (.iconst 0, 1) := by decide +kernel
theorem dX4_beginRecount_45 : decode cX4_beginRecount 45 = .ok (.istore_n 1, 1) := by decide +kernel
theorem dX4_beginRecount_46 : decode cX4_beginRecount 46 = .ok (.iload_n 1, 1) := by decide +kernel
theorem dX4_beginRecount_47 : decode cX4_beginRecount 47 = .ok (.aload_n 0, 1) := by decide +kernel
theorem dX4_beginRecount_48 : decode cX4_beginRecount 48 = .ok (.getfield 16, 3) := by decide +kernel
theorem dX4_beginRecount_51 : decode cX4_beginRecount 51 = .ok (.invokevirtual 99, 3) := by decide +kernel
theorem dX4_beginRecount_54 : decode cX4_beginRecount 54 = .ok (.if_icmp .ge 24, 3) := by decide +kernel
theorem dX4_beginRecount_57 : decode cX4_beginRecount 57 = .ok (.aload_n 0, 1) := by decide +kernel
theorem dX4_beginRecount_58 : decode cX4_beginRecount 58 = .ok (.getfield 16, 3) := by decide +kernel
theorem dX4_beginRecount_61 : decode cX4_beginRecount 61 = .ok (.iload_n 1, 1) := by decide +kernel
theorem dX4_beginRecount_62 : decode cX4_beginRecount 62 = .ok (.invokevirtual 186, 3) := by decide +kernel
theorem dX4_beginRecount_65 : decode cX4_beginRecount 65 = .ok (.checkcast 49, 3) := by decide +kernel
theorem dX4_beginRecount_68 : decode cX4_beginRecount 68 = .ok (.iconst 0, 1) := by decide +kernel
theorem dX4_beginRecount_69 : decode cX4_beginRecount 69 = .ok (.putfield 253, 3) := by decide +kernel
theorem dX4_beginRecount_72 : decode cX4_beginRecount 72 = .ok (.iinc 1 1, 3) := by decide +kernel
theorem dX4_beginRecount_75 : decode cX4_beginRecount 75 = .ok (.goto (-29), 3) := by decide +kernel
theorem dX4_beginRecount_78 : decode cX4_beginRecount 78 = .ok (.iconst 0, 1) := by decide +kernel
theorem dX4_beginRecount_79 : decode cX4_beginRecount 79 = .ok (.istore_n 1, 1) := by decide +kernel
theorem dX4_beginRecount_80 : decode cX4_beginRecount 80 = .ok (.iload_n 1, 1) := by decide +kernel
theorem dX4_beginRecount_81 : decode cX4_beginRecount 81 = .ok (.aload_n 0, 1) := by decide +kernel
theorem dX4_beginRecount_82 : decode cX4_beginRecount 82 = .ok (.getfield 19, 3) := by decide +kernel
theorem dX4_beginRecount_85 : decode cX4_beginRecount 85 = .ok (.invokevirtual 99, 3) := by decide +kernel
theorem dX4_beginRecount_88 : decode cX4_beginRecount 88 = .ok (.if_icmp .ge 27, 3) := by decide +kernel
theorem dX4_beginRecount_91 : decode cX4_beginRecount 91 = .ok (.aload_n 0, 1) := by decide +kernel
theorem dX4_beginRecount_92 : decode cX4_beginRecount 92 = .ok (.getfield 19, 3) := by decide +kernel
theorem dX4_beginRecount_95 : decode cX4_beginRecount 95 = .ok (.iload_n 1, 1) := by decide +kernel
theorem dX4_beginRecount_96 : decode cX4_beginRecount 96 = .ok (.invokevirtual 186, 3) := by decide +kernel
theorem dX4_beginRecount_99 : decode cX4_beginRecount 99 = .ok (.checkcast 56, 3) := by decide +kernel
theorem dX4_beginRecount_102 : decode cX4_beginRecount 102 = .ok (.getfield 256, 3) := by decide +kernel
theorem dX4_beginRecount_105 : decode cX4_beginRecount 105 = .ok (.iconst 0, 1) := by decide +kernel
theorem dX4_beginRecount_106 : decode cX4_beginRecount 106 = .ok (.putfield 253, 3) := by decide +kernel
theorem dX4_beginRecount_109 : decode cX4_beginRecount 109 = .ok (.iinc 1 1, 3) := by decide +kernel
theorem dX4_beginRecount_112 : decode cX4_beginRecount 112 = .ok (.goto (-32), 3) := by decide +kernel
theorem dX4_beginRecount_115 : decode cX4_beginRecount 115 = .ok (.aload_n 0, 1) := by decide +kernel
theorem dX4_beginRecount_116 : decode cX4_beginRecount 116 = .ok (.getfield 22, 3) := by decide +kernel
theorem dX4_beginRecount_119 : decode cX4_beginRecount 119 = .ok (.invokevirtual 99, 3) := by decide +kernel
theorem dX4_beginRecount_122 : decode cX4_beginRecount 122 = .ok (.ireturn, 1) := by decide +kernel
theorem dX4_recount_0 : decode cX4_recount 0 = .ok (.iload_n 1, 1) := by decide +kernel
theorem dX4_recount_1 : decode cX4_recount 1 = .ok (.iconst 1, 1) := by decide +kernel
theorem dX4_recount_2 : decode cX4_recount 2 = .ok (.if_icmp .lt 9, 3) := by decide +kernel
theorem dX4_recount_5 : decode cX4_recount 5 = .ok (.iload_n 1, 1) := by decide +kernel
theorem dX4_recount_6 : decode cX4_recount 6 = .ok (.bipush 40, 2) := by decide +kernel
theorem dX4_recount_8 : decode cX4_recount 8 = .ok (.if_icmp .le 14, 3) := by decide +kernel
theorem dX4_recount_11 : decode cX4_recount 11 = .ok (.new 65, 3) := by decide +kernel
theorem dX4_recount_14 : decode cX4_recount 14 = .ok (.dup, 1) := by decide +kernel
theorem dX4_recount_15 : decode cX4_recount 15 = .ok (.ldc_w 260, 3) := by decide +kernel
theorem dX4_recount_18 : decode cX4_recount 18 = .ok (.invokespecial 69, 3) := by decide +kernel
theorem dX4_recount_21 : decode cX4_recount 21 = .ok (.athrow, 1) := by decide +kernel
theorem dX4_recount_22 : decode cX4_recount 22 = .ok (.aload_n 0, 1) := by decide +kernel
theorem dX4_recount_23 : decode cX4_recount 23 = .ok (.getfield 42, 3) := by decide +kernel
theorem dX4_recount_26 : decode cX4_recount 26 = .ok (.ifCond .ne 14, 3) := by decide +kernel
theorem dX4_recount_29 : decode cX4_recount 29 = .ok (.new 76, 3) := by decide +kernel
theorem dX4_recount_32 : decode cX4_recount 32 = .ok (.dup, 1) := by decide +kernel
theorem dX4_recount_33 : decode cX4_recount 33 = .ok (.ldc_w 262, 3) := by decide +kernel
theorem dX4_recount_36 : decode cX4_recount 36 = .ok (.invokespecial 80, 3) := by decide +kernel
theorem dX4_recount_39 : decode cX4_recount 39 = .ok (.athrow, 1) := by decide +kernel
theorem dX4_recount_40 : decode cX4_recount 40 = .ok (.iconst 0, 1) := by decide +kernel
theorem dX4_recount_41 : decode cX4_recount 41 = .ok (.istore_n 2, 1) := by decide +kernel
theorem dX4_recount_42 : decode cX4_recount 42 = .ok (.iload_n 2, 1) := by decide +kernel
theorem dX4_recount_43 : decode cX4_recount 43 = .ok (.iload_n 1, 1) := by decide +kernel
theorem dX4_recount_44 : decode cX4_recount 44 = .ok (.if_icmp .ge 51, 3) := by decide +kernel
theorem dX4_recount_47 : decode cX4_recount 47 = .ok (.aload_n 0, 1) := by decide +kernel
theorem dX4_recount_48 : decode cX4_recount 48 = .ok (.getfield 46, 3) := by decide +kernel
theorem dX4_recount_51 : decode cX4_recount 51 = .ok (.aload_n 0, 1) := by decide +kernel
theorem dX4_recount_52 : decode cX4_recount 52 = .ok (.getfield 22, 3) := by decide +kernel
theorem dX4_recount_55 : decode cX4_recount 55 = .ok (.invokevirtual 99, 3) := by decide +kernel
theorem dX4_recount_58 : decode cX4_recount 58 = .ok (.if_icmp .ge 37, 3) := by decide +kernel
theorem dX4_recount_61 : decode cX4_recount 61 = .ok (.aload_n 0, 1) := by decide +kernel
theorem dX4_recount_62 : decode cX4_recount 62 = .ok (.aload_n 0, 1) := by decide +kernel
theorem dX4_recount_63 : decode cX4_recount 63 = .ok (.getfield 22, 3) := by decide +kernel
theorem dX4_recount_66 : decode cX4_recount 66 = .ok (.aload_n 0, 1) := by decide +kernel
theorem dX4_recount_67 : decode cX4_recount 67 = .ok (.getfield 46, 3) := by decide +kernel
theorem dX4_recount_70 : decode cX4_recount 70 = .ok (.invokevirtual 186, 3) := by decide +kernel
theorem dX4_recount_73 : decode cX4_recount 73 = .ok (.checkcast 152, 3) := by decide +kernel
theorem dX4_recount_76 : decode cX4_recount 76 = .ok (.invokevirtual 264, 3) := by decide +kernel
theorem dX4_recount_79 : decode cX4_recount 79 = .ok (.aload_n 0, 1) := by decide +kernel
theorem dX4_recount_80 : decode cX4_recount 80 = .ok (.dup, 1) := by decide +kernel
theorem dX4_recount_81 : decode cX4_recount 81 = .ok (.getfield 46, 3) := by decide +kernel
theorem dX4_recount_84 : decode cX4_recount 84 = .ok (.iconst 1, 1) := by decide +kernel
theorem dX4_recount_85 : decode cX4_recount 85 = .ok (.iadd, 1) := by decide +kernel
theorem dX4_recount_86 : decode cX4_recount 86 = .ok (.putfield 46, 3) := by decide +kernel
theorem dX4_recount_89 : decode cX4_recount 89 = .ok (.iinc 2 1, 3) := by decide +kernel
theorem dX4_recount_92 : decode cX4_recount 92 = .ok (.goto (-50), 3) := by decide +kernel
theorem dX4_recount_95 : decode cX4_recount 95 = .ok (.aload_n 0, 1) := by decide +kernel
theorem dX4_recount_96 : decode cX4_recount 96 = .ok (.getfield 22, 3) := by decide +kernel
theorem dX4_recount_99 : decode cX4_recount 99 = .ok (.invokevirtual 99, 3) := by decide +kernel
theorem dX4_recount_102 : decode cX4_recount 102 = .ok (.aload_n 0, 1) := by decide +kernel
theorem dX4_recount_103 : decode cX4_recount 103 = .ok (.getfield 46, 3) := by decide +kernel
theorem dX4_recount_106 : decode cX4_recount 106 = .ok (.isub, 1) := by decide +kernel
theorem dX4_recount_107 : decode cX4_recount 107 = .ok (.ireturn, 1) := by decide +kernel
theorem dX4_counted_0 : decode cX4_counted 0 = .ok (.aload_n 0, 1) := by decide +kernel
theorem dX4_counted_1 : decode cX4_counted 1 = .ok (.iload_n 1, 1) := by decide +kernel
theorem dX4_counted_2 : decode cX4_counted 2 = .ok (.iload_n 2, 1) := by decide +kernel
theorem dX4_counted_3 : decode cX4_counted 3 = .ok (.invokevirtual 146, 3) := by decide +kernel
theorem dX4_counted_6 : decode cX4_counted 6 = .ok (.astore_n 3, 1) := by decide +kernel
theorem dX4_counted_7 : decode cX4_counted 7 = .ok (.aload_n 0, 1) := by decide +kernel
theorem dX4_counted_8 : decode cX4_counted 8 = .ok (.getfield 42, 3) := by decide +kernel
theorem dX4_counted_11 : decode cX4_counted 11 = .ok (.ifCond .ne 14, 3) := by decide +kernel
theorem dX4_counted_14 : decode cX4_counted 14 = .ok (.new 76, 3) := by decide +kernel
theorem dX4_counted_17 : decode cX4_counted 17 = .ok (.dup, 1) := by decide +kernel
theorem dX4_counted_18 : decode cX4_counted 18 = .ok (.ldc_w 262, 3) := by decide +kernel
theorem dX4_counted_21 : decode cX4_counted 21 = .ok (.invokespecial 80, 3) := by decide +kernel
theorem dX4_counted_24 : decode cX4_counted 24 = .ok (.athrow, 1) := by decide +kernel
theorem dX4_counted_25 : decode cX4_counted 25 = .ok (.aload_n 3, 1) := by decide +kernel
theorem dX4_counted_26 : decode cX4_counted 26 = .ok (.getfield 253, 3) := by decide +kernel
theorem dX4_counted_29 : decode cX4_counted 29 = .ok (.ireturn, 1) := by decide +kernel
theorem dX4_projectOfNumber_0 : decode cX4_projectOfNumber 0 = .ok (.iload_n 1, 1) := by decide +kernel
theorem dX4_projectOfNumber_1 : decode cX4_projectOfNumber 1 = .ok (.ifCond .lt 14, 3) := by decide +kernel
theorem dX4_projectOfNumber_4 : decode cX4_projectOfNumber 4 = .ok (.iload_n 1, 1) := by decide +kernel
theorem dX4_projectOfNumber_5 : decode cX4_projectOfNumber 5 = .ok (.aload_n 0, 1) := by decide +kernel
theorem dX4_projectOfNumber_6 : decode cX4_projectOfNumber 6 = .ok (.getfield 19, 3) := by decide +kernel
theorem dX4_projectOfNumber_9 : decode cX4_projectOfNumber 9 = .ok (.invokevirtual 99, 3) := by decide +kernel
theorem dX4_projectOfNumber_12 : decode cX4_projectOfNumber 12 = .ok (.if_icmp .lt 14, 3) := by decide +kernel
theorem dX4_projectOfNumber_15 : decode cX4_projectOfNumber 15 = .ok (.new 134, 3) := by decide +kernel
theorem dX4_projectOfNumber_18 : decode cX4_projectOfNumber 18 = .ok (.dup, 1) := by decide +kernel
theorem dX4_projectOfNumber_19 : decode cX4_projectOfNumber 19 = .ok (.ldc_w 268, 3) := by decide +kernel
theorem dX4_projectOfNumber_22 : decode cX4_projectOfNumber 22 = .ok (.invokespecial 138, 3) := by decide +kernel
theorem dX4_projectOfNumber_25 : decode cX4_projectOfNumber 25 = .ok (.athrow, 1) := by decide +kernel
theorem dX4_projectOfNumber_26 : decode cX4_projectOfNumber 26 = .ok (.aload_n 0, 1) := by decide +kernel
theorem dX4_projectOfNumber_27 : decode cX4_projectOfNumber 27 = .ok (.getfield 19, 3) := by decide +kernel
theorem dX4_projectOfNumber_30 : decode cX4_projectOfNumber 30 = .ok (.iload_n 1, 1) := by decide +kernel
theorem dX4_projectOfNumber_31 : decode cX4_projectOfNumber 31 = .ok (.invokevirtual 186, 3) := by decide +kernel
theorem dX4_projectOfNumber_34 : decode cX4_projectOfNumber 34 = .ok (.checkcast 56, 3) := by decide +kernel
theorem dX4_projectOfNumber_37 : decode cX4_projectOfNumber 37 = .ok (.areturn, 1) := by decide +kernel
theorem dX4_projectOfPath_0 : decode cX4_projectOfPath 0 = .ok (.aload_n 0, 1) := by decide +kernel
theorem dX4_projectOfPath_1 : decode cX4_projectOfPath 1 = .ok (.getfield 61, 3) := by decide +kernel
theorem dX4_projectOfPath_4 : decode cX4_projectOfPath 4 = .ok (.astore_n 2, 1) := by decide +kernel
theorem dX4_projectOfPath_5 : decode cX4_projectOfPath 5 = .ok (.iconst 0, 1) := by decide +kernel
theorem dX4_projectOfPath_6 : decode cX4_projectOfPath 6 = .ok (.istore_n 3, 1) := by decide +kernel
theorem dX4_projectOfPath_7 : decode cX4_projectOfPath 7 = .ok (.iload_n 3, 1) := by decide +kernel
theorem dX4_projectOfPath_8 : decode cX4_projectOfPath 8 = .ok (.iload_n 1, 1) := by decide +kernel
theorem dX4_projectOfPath_9 : decode cX4_projectOfPath 9 = .ok (.if_icmp .ge 38, 3) := by decide +kernel
theorem dX4_projectOfPath_12 : decode cX4_projectOfPath 12 = .ok (.iload_n 3, 1) := by decide +kernel
theorem dX4_projectOfPath_13 : decode cX4_projectOfPath 13 = .ok (.aload_n 0, 1) := by decide +kernel
theorem dX4_projectOfPath_14 : decode cX4_projectOfPath 14 = .ok (.getfield 31, 3) := by decide +kernel
theorem dX4_projectOfPath_17 : decode cX4_projectOfPath 17 = .ok (.invokevirtual 72, 3) := by decide +kernel
theorem dX4_projectOfPath_20 : decode cX4_projectOfPath 20 = .ok (.if_icmp .ge 27, 3) := by decide +kernel
theorem dX4_projectOfPath_23 : decode cX4_projectOfPath 23 = .ok (.aload_n 2, 1) := by decide +kernel
theorem dX4_projectOfPath_24 : decode cX4_projectOfPath 24 = .ok (.ifnull 23, 3) := by decide +kernel
theorem dX4_projectOfPath_27 : decode cX4_projectOfPath 27 = .ok (.aload_n 0, 1) := by decide +kernel
theorem dX4_projectOfPath_28 : decode cX4_projectOfPath 28 = .ok (.aload_n 2, 1) := by decide +kernel
theorem dX4_projectOfPath_29 : decode cX4_projectOfPath 29 = .ok (.aload_n 0, 1) := by decide +kernel
theorem dX4_projectOfPath_30 : decode cX4_projectOfPath 30 = .ok (.getfield 31, 3) := by decide +kernel
theorem dX4_projectOfPath_33 : decode cX4_projectOfPath 33 = .ok (.iload_n 3, 1) := by decide +kernel
theorem dX4_projectOfPath_34 : decode cX4_projectOfPath 34 = .ok (.invokevirtual 104, 3) := by decide +kernel
theorem dX4_projectOfPath_37 : decode cX4_projectOfPath 37 = .ok (.invokevirtual 270, 3) := by decide +kernel
theorem dX4_projectOfPath_40 : decode cX4_projectOfPath 40 = .ok (.astore_n 2, 1) := by decide +kernel
theorem dX4_projectOfPath_41 : decode cX4_projectOfPath 41 = .ok (.iinc 3 1, 3) := by decide +kernel
theorem dX4_projectOfPath_44 : decode cX4_projectOfPath 44 = .ok (.goto (-37), 3) := by decide +kernel
theorem dX4_projectOfPath_47 : decode cX4_projectOfPath 47 = .ok (.aload_n 2, 1) := by decide +kernel
theorem dX4_projectOfPath_48 : decode cX4_projectOfPath 48 = .ok (.areturn, 1) := by decide +kernel
theorem dX4_childOf_0 : decode cX4_childOf 0 = .ok (.iconst 0, 1) := by decide +kernel
theorem dX4_childOf_1 : decode cX4_childOf 1 = .ok (.istore_n 3, 1) := by decide +kernel
theorem dX4_childOf_2 : decode cX4_childOf 2 = .ok (.iload_n 3, 1) := by decide +kernel
theorem dX4_childOf_3 : decode cX4_childOf 3 = .ok (.aload_n 0, 1) := by decide +kernel
theorem dX4_childOf_4 : decode cX4_childOf 4 = .ok (.getfield 19, 3) := by decide +kernel
theorem dX4_childOf_7 : decode cX4_childOf 7 = .ok (.invokevirtual 99, 3) := by decide +kernel
theorem dX4_childOf_10 : decode cX4_childOf 10 = .ok (.if_icmp .ge 43, 3) := by decide +kernel
theorem dX4_childOf_13 : decode cX4_childOf 13 = .ok (.aload_n 0, 1) := by decide +kernel
theorem dX4_childOf_14 : decode cX4_childOf 14 = .ok (.getfield 19, 3) := by decide +kernel
theorem dX4_childOf_17 : decode cX4_childOf 17 = .ok (.iload_n 3, 1) := by decide +kernel
theorem dX4_childOf_18 : decode cX4_childOf 18 = .ok (.invokevirtual 186, 3) := by decide +kernel
theorem dX4_childOf_21 : decode cX4_childOf 21 = .ok (.checkcast 56, 3) := by decide +kernel
theorem dX4_childOf_24 : decode cX4_childOf 24 = .ok (.astore 4, 2) := by decide +kernel
theorem dX4_childOf_26 : decode cX4_childOf 26 = .ok (.aload 4, 2) := by decide +kernel
theorem dX4_childOf_28 : decode cX4_childOf 28 = .ok (.getfield 120, 3) := by decide +kernel
theorem dX4_childOf_31 : decode cX4_childOf 31 = .ok (.aload_n 1, 1) := by decide +kernel
theorem dX4_childOf_32 : decode cX4_childOf 32 = .ok (.if_acmp .ne 15, 3) := by decide +kernel
theorem dX4_childOf_35 : decode cX4_childOf 35 = .ok (.aload 4, 2) := by decide +kernel
theorem dX4_childOf_37 : decode cX4_childOf 37 = .ok (.getfield 142, 3) := by decide +kernel
theorem dX4_childOf_40 : decode cX4_childOf 40 = .ok (.iload_n 2, 1) := by decide +kernel
theorem dX4_childOf_41 : decode cX4_childOf 41 = .ok (.if_icmp .ne 6, 3) := by decide +kernel
theorem dX4_childOf_44 : decode cX4_childOf 44 = .ok (.aload 4, 2) := by decide +kernel
theorem dX4_childOf_46 : decode cX4_childOf 46 = .ok (.areturn, 1) := by decide +kernel
theorem dX4_childOf_47 : decode cX4_childOf 47 = .ok (.iinc 3 1, 3) := by decide +kernel
theorem dX4_childOf_50 : decode cX4_childOf 50 = .ok (.goto (-48), 3) := by decide +kernel
theorem dX4_childOf_53 : decode cX4_childOf 53 = .ok (.aconst_null, 1) := by decide +kernel
theorem dX4_childOf_54 : decode cX4_childOf 54 = .ok (.areturn, 1) := by decide +kernel
theorem dX4_liveFile_0 : decode cX4_liveFile 0 = .ok (.iload_n 1, 1) := by decide +kernel
theorem dX4_liveFile_1 : decode cX4_liveFile 1 = .ok (.ifCond .lt 31, 3) := by decide +kernel
theorem dX4_liveFile_4 : decode cX4_liveFile 4 = .ok (.iload_n 1, 1) := by decide +kernel
theorem dX4_liveFile_5 : decode cX4_liveFile 5 = .ok (.aload_n 0, 1) := by decide +kernel
theorem dX4_liveFile_6 : decode cX4_liveFile 6 = .ok (.getfield 22, 3) := by decide +kernel
theorem dX4_liveFile_9 : decode cX4_liveFile 9 = .ok (.invokevirtual 99, 3) := by decide +kernel
theorem dX4_liveFile_12 : decode cX4_liveFile 12 = .ok (.if_icmp .ge 20, 3) := by decide +kernel
theorem dX4_liveFile_15 : decode cX4_liveFile 15 = .ok (.aload_n 0, 1) := by decide +kernel
theorem dX4_liveFile_16 : decode cX4_liveFile 16 = .ok (.getfield 22, 3) := by decide +kernel
theorem dX4_liveFile_19 : decode cX4_liveFile 19 = .ok (.iload_n 1, 1) := by decide +kernel
theorem dX4_liveFile_20 : decode cX4_liveFile 20 = .ok (.invokevirtual 186, 3) := by decide +kernel
theorem dX4_liveFile_23 : decode cX4_liveFile 23 = .ok (.checkcast 152, 3) := by decide +kernel
theorem dX4_liveFile_26 : decode cX4_liveFile 26 = .ok (.getfield 183, 3) := by decide +kernel
theorem dX4_liveFile_29 : decode cX4_liveFile 29 = .ok (.ifCond .eq 14, 3) := by decide +kernel
theorem dX4_liveFile_32 : decode cX4_liveFile 32 = .ok (.new 134, 3) := by decide +kernel
theorem dX4_liveFile_35 : decode cX4_liveFile 35 = .ok (.dup, 1) := by decide +kernel
theorem dX4_liveFile_36 : decode cX4_liveFile 36 = .ok (.ldc_w 274, 3) := by decide +kernel
theorem dX4_liveFile_39 : decode cX4_liveFile 39 = .ok (.invokespecial 138, 3) := by decide +kernel
theorem dX4_liveFile_42 : decode cX4_liveFile 42 = .ok (.athrow, 1) := by decide +kernel
theorem dX4_liveFile_43 : decode cX4_liveFile 43 = .ok (.aload_n 0, 1) := by decide +kernel
theorem dX4_liveFile_44 : decode cX4_liveFile 44 = .ok (.getfield 22, 3) := by decide +kernel
theorem dX4_liveFile_47 : decode cX4_liveFile 47 = .ok (.iload_n 1, 1) := by decide +kernel
theorem dX4_liveFile_48 : decode cX4_liveFile 48 = .ok (.invokevirtual 186, 3) := by decide +kernel
theorem dX4_liveFile_51 : decode cX4_liveFile 51 = .ok (.checkcast 152, 3) := by decide +kernel
theorem dX4_liveFile_54 : decode cX4_liveFile 54 = .ok (.areturn, 1) := by decide +kernel
theorem dX4_accountOf_0 : decode cX4_accountOf 0 = .ok (.iload_n 1, 1) := by decide +kernel
theorem dX4_accountOf_1 : decode cX4_accountOf 1 = .ok (.ifCond .ne 30, 3) := by decide +kernel
theorem dX4_accountOf_4 : decode cX4_accountOf 4 = .ok (.iload_n 2, 1) := by decide +kernel
theorem dX4_accountOf_5 : decode cX4_accountOf 5 = .ok (.ifCond .lt 26, 3) := by decide +kernel
theorem dX4_accountOf_8 : decode cX4_accountOf 8 = .ok (.iload_n 2, 1) := by decide +kernel
theorem dX4_accountOf_9 : decode cX4_accountOf 9 = .ok (.aload_n 0, 1) := by decide +kernel
theorem dX4_accountOf_10 : decode cX4_accountOf 10 = .ok (.getfield 10, 3) := by decide +kernel
theorem dX4_accountOf_13 : decode cX4_accountOf 13 = .ok (.invokevirtual 99, 3) := by decide +kernel
theorem dX4_accountOf_16 : decode cX4_accountOf 16 = .ok (.if_icmp .ge 15, 3) := by decide +kernel
theorem dX4_accountOf_19 : decode cX4_accountOf 19 = .ok (.aload_n 0, 1) := by decide +kernel
theorem dX4_accountOf_20 : decode cX4_accountOf 20 = .ok (.getfield 10, 3) := by decide +kernel
theorem dX4_accountOf_23 : decode cX4_accountOf 23 = .ok (.iload_n 2, 1) := by decide +kernel
theorem dX4_accountOf_24 : decode cX4_accountOf 24 = .ok (.invokevirtual 186, 3) := by decide +kernel
theorem dX4_accountOf_27 : decode cX4_accountOf 27 = .ok (.checkcast 49, 3) := by decide +kernel
theorem dX4_accountOf_30 : decode cX4_accountOf 30 = .ok (.areturn, 1) := by decide +kernel
theorem dX4_accountOf_31 : decode cX4_accountOf 31 = .ok (.iload_n 1, 1) := by decide +kernel
theorem dX4_accountOf_32 : decode cX4_accountOf 32 = .ok (.iconst 1, 1) := by decide +kernel
theorem dX4_accountOf_33 : decode cX4_accountOf 33 = .ok (.if_icmp .ne 30, 3) := by decide +kernel
theorem dX4_accountOf_36 : decode cX4_accountOf 36 = .ok (.iload_n 2, 1) := by decide +kernel
theorem dX4_accountOf_37 : decode cX4_accountOf 37 = .ok (.ifCond .lt 26, 3) := by decide +kernel
theorem dX4_accountOf_40 : decode cX4_accountOf 40 = .ok (.iload_n 2, 1) := by decide +kernel
theorem dX4_accountOf_41 : decode cX4_accountOf 41 = .ok (.aload_n 0, 1) := by decide +kernel
theorem dX4_accountOf_42 : decode cX4_accountOf 42 = .ok (.getfield 16, 3) := by decide +kernel
theorem dX4_accountOf_45 : decode cX4_accountOf 45 = .ok (.invokevirtual 99, 3) := by decide +kernel
theorem dX4_accountOf_48 : decode cX4_accountOf 48 = .ok (.if_icmp .ge 15, 3) := by decide +kernel
theorem dX4_accountOf_51 : decode cX4_accountOf 51 = .ok (.aload_n 0, 1) := by decide +kernel
theorem dX4_accountOf_52 : decode cX4_accountOf 52 = .ok (.getfield 16, 3) := by decide +kernel
theorem dX4_accountOf_55 : decode cX4_accountOf 55 = .ok (.iload_n 2, 1) := by decide +kernel
theorem dX4_accountOf_56 : decode cX4_accountOf 56 = .ok (.invokevirtual 186, 3) := by decide +kernel
theorem dX4_accountOf_59 : decode cX4_accountOf 59 = .ok (.checkcast 49, 3) := by decide +kernel
theorem dX4_accountOf_62 : decode cX4_accountOf 62 = .ok (.areturn, 1) := by decide +kernel
theorem dX4_accountOf_63 : decode cX4_accountOf 63 = .ok (.iload_n 1, 1) := by decide +kernel
theorem dX4_accountOf_64 : decode cX4_accountOf 64 = .ok (.iconst 2, 1) := by decide +kernel
theorem dX4_accountOf_65 : decode cX4_accountOf 65 = .ok (.if_icmp .ne 33, 3) := by decide +kernel
theorem dX4_accountOf_68 : decode cX4_accountOf 68 = .ok (.iload_n 2, 1) := by decide +kernel
theorem dX4_accountOf_69 : decode cX4_accountOf 69 = .ok (.ifCond .lt 29, 3) := by decide +kernel
theorem dX4_accountOf_72 : decode cX4_accountOf 72 = .ok (.iload_n 2, 1) := by decide +kernel
theorem dX4_accountOf_73 : decode cX4_accountOf 73 = .ok (.aload_n 0, 1) := by decide +kernel
theorem dX4_accountOf_74 : decode cX4_accountOf 74 = .ok (.getfield 19, 3) := by decide +kernel
theorem dX4_accountOf_77 : decode cX4_accountOf 77 = .ok (.invokevirtual 99, 3) := by decide +kernel
theorem dX4_accountOf_80 : decode cX4_accountOf 80 = .ok (.if_icmp .ge 18, 3) := by decide +kernel
theorem dX4_accountOf_83 : decode cX4_accountOf 83 = .ok (.aload_n 0, 1) := by decide +kernel
theorem dX4_accountOf_84 : decode cX4_accountOf 84 = .ok (.getfield 19, 3) := by decide +kernel
theorem dX4_accountOf_87 : decode cX4_accountOf 87 = .ok (.iload_n 2, 1) := by decide +kernel
theorem dX4_accountOf_88 : decode cX4_accountOf 88 = .ok (.invokevirtual 186, 3) := by decide +kernel
theorem dX4_accountOf_91 : decode cX4_accountOf 91 = .ok (.checkcast 56, 3) := by decide +kernel
theorem dX4_accountOf_94 : decode cX4_accountOf 94 = .ok (.getfield 256, 3) := by decide +kernel
theorem dX4_accountOf_97 : decode cX4_accountOf 97 = .ok (.areturn, 1) := by decide +kernel
theorem dX4_accountOf_98 : decode cX4_accountOf 98 = .ok (.new 134, 3) := by decide +kernel
theorem dX4_accountOf_101 : decode cX4_accountOf 101 = .ok (.dup, 1) := by decide +kernel
theorem dX4_accountOf_102 : decode cX4_accountOf 102 = .ok (.ldc_w 276, 3) := by decide +kernel
theorem dX4_accountOf_105 : decode cX4_accountOf 105 = .ok (.invokespecial 138, 3) := by decide +kernel
theorem dX4_accountOf_108 : decode cX4_accountOf 108 = .ok (.athrow, 1) := by decide +kernel
theorem dX4_accountsOf_0 : decode cX4_accountsOf 0 = .ok (.aload_n 0, 1) := by decide +kernel
theorem dX4_accountsOf_1 : decode cX4_accountsOf 1 = .ok (.getfield 35, 3) := by decide +kernel
theorem dX4_accountsOf_4 : decode cX4_accountsOf 4 = .ok (.invokevirtual 278, 3) := by decide +kernel
theorem dX4_accountsOf_7 : decode cX4_accountsOf 7 = .ok (.aload_n 0, 1) := by decide +kernel
theorem dX4_accountsOf_8 : decode cX4_accountsOf 8 = .ok (.getfield 35, 3) := by decide +kernel
theorem dX4_accountsOf_11 : decode cX4_accountsOf 11 = .ok (.aload_n 1, 1) := by decide +kernel
theorem dX4_accountsOf_12 : decode cX4_accountsOf 12 = .ok (.getfield 281, 3) := by decide +kernel
theorem dX4_accountsOf_15 : decode cX4_accountsOf 15 = .ok (.invokevirtual 52, 3) := by decide +kernel
theorem dX4_accountsOf_18 : decode cX4_accountsOf 18 = .ok (.pop, 1) := by decide +kernel
theorem dX4_accountsOf_19 : decode cX4_accountsOf 19 = .ok (.aload_n 0, 1) := by decide +kernel
theorem dX4_accountsOf_20 : decode cX4_accountsOf 20 = .ok (.getfield 35, 3) := by decide +kernel
theorem dX4_accountsOf_23 : decode cX4_accountsOf 23 = .ok (.aload_n 1, 1) := by decide +kernel
theorem dX4_accountsOf_24 : decode cX4_accountsOf 24 = .ok (.getfield 284, 3) := by decide +kernel
theorem dX4_accountsOf_27 : decode cX4_accountsOf 27 = .ok (.invokevirtual 52, 3) := by decide +kernel
theorem dX4_accountsOf_30 : decode cX4_accountsOf 30 = .ok (.pop, 1) := by decide +kernel
theorem dX4_accountsOf_31 : decode cX4_accountsOf 31 = .ok (.aload_n 1, 1) := by decide +kernel
theorem dX4_accountsOf_32 : decode cX4_accountsOf 32 = .ok (.getfield 199, 3) := by decide +kernel
theorem dX4_accountsOf_35 : decode cX4_accountsOf 35 = .ok (.astore_n 2, 1) := by decide +kernel
theorem dX4_accountsOf_36 : decode cX4_accountsOf 36 = .ok (.aload_n 2, 1) := by decide +kernel
theorem dX4_accountsOf_37 : decode cX4_accountsOf 37 = .ok (.ifnull 23, 3) := by decide +kernel
theorem dX4_accountsOf_40 : decode cX4_accountsOf 40 = .ok (.aload_n 0, 1) := by decide +kernel
theorem dX4_accountsOf_41 : decode cX4_accountsOf 41 = .ok (.getfield 35, 3) := by decide +kernel
theorem dX4_accountsOf_44 : decode cX4_accountsOf 44 = .ok (.aload_n 2, 1) := by decide +kernel
theorem dX4_accountsOf_45 : decode cX4_accountsOf 45 = .ok (.getfield 256, 3) := by decide +kernel
theorem dX4_accountsOf_48 : decode cX4_accountsOf 48 = .ok (.invokevirtual 52, 3) := by decide +kernel
theorem dX4_accountsOf_51 : decode cX4_accountsOf 51 = .ok (.pop, 1) := by decide +kernel
theorem dX4_accountsOf_52 : decode cX4_accountsOf 52 = .ok (.aload_n 2, 1) := by decide +kernel
theorem dX4_accountsOf_53 : decode cX4_accountsOf 53 = .ok (.getfield 120, 3) := by decide +kernel
theorem dX4_accountsOf_56 : decode cX4_accountsOf 56 = .ok (.astore_n 2, 1) := by decide +kernel
theorem dX4_accountsOf_57 : decode cX4_accountsOf 57 = .ok (.goto (-21), 3) := by decide +kernel
theorem dX4_accountsOf_60 : decode cX4_accountsOf 60 = .ok (.aload_n 0, 1) := by decide +kernel
theorem dX4_accountsOf_61 : decode cX4_accountsOf 61 = .ok (.getfield 35, 3) := by decide +kernel
theorem dX4_accountsOf_64 : decode cX4_accountsOf 64 = .ok (.areturn, 1) := by decide +kernel
theorem dX4_countsIn_0 : decode cX4_countsIn 0 = .ok (.aload_n 0, 1) := by decide +kernel
theorem dX4_countsIn_1 : decode cX4_countsIn 1 = .ok (.aload_n 1, 1) := by decide +kernel
theorem dX4_countsIn_2 : decode cX4_countsIn 2 = .ok (.invokevirtual 246, 3) := by decide +kernel
theorem dX4_countsIn_5 : decode cX4_countsIn 5 = .ok (.astore_n 3, 1) := by decide +kernel
theorem dX4_countsIn_6 : decode cX4_countsIn 6 = .ok (.iconst 0, 1) := by decide +kernel
theorem dX4_countsIn_7 : decode cX4_countsIn 7 = .ok (.istore 4, 2) := by decide +kernel
theorem dX4_countsIn_9 : decode cX4_countsIn 9 = .ok (.iload 4, 2) := by decide +kernel
theorem dX4_countsIn_11 : decode cX4_countsIn 11 = .ok (.aload_n 3, 1) := by decide +kernel
theorem dX4_countsIn_12 : decode cX4_countsIn 12 = .ok (.invokevirtual 99, 3) := by decide +kernel
theorem dX4_countsIn_15 : decode cX4_countsIn 15 = .ok (.if_icmp .ge 21, 3) := by decide +kernel
theorem dX4_countsIn_18 : decode cX4_countsIn 18 = .ok (.aload_n 3, 1) := by decide +kernel
theorem dX4_countsIn_19 : decode cX4_countsIn 19 = .ok (.iload 4, 2) := by decide +kernel
theorem dX4_countsIn_21 : decode cX4_countsIn 21 = .ok (.invokevirtual 186, 3) := by decide +kernel
theorem dX4_countsIn_24 : decode cX4_countsIn 24 = .ok (.aload_n 2, 1) := by decide +kernel
theorem dX4_countsIn_25 : decode cX4_countsIn 25 = .ok (.if_acmp .ne 5, 3) := by decide +kernel
theorem dX4_countsIn_28 : decode cX4_countsIn 28 = .ok (.iconst 1, 1) := by decide +kernel
theorem dX4_countsIn_29 : decode cX4_countsIn 29 = .ok (.ireturn, 1) := by decide +kernel
theorem dX4_countsIn_30 : decode cX4_countsIn 30 = .ok (.iinc 4 1, 3) := by decide +kernel
theorem dX4_countsIn_33 : decode cX4_countsIn 33 = .ok (.goto (-24), 3) := by decide +kernel
theorem dX4_countsIn_36 : decode cX4_countsIn 36 = .ok (.iconst 0, 1) := by decide +kernel
theorem dX4_countsIn_37 : decode cX4_countsIn 37 = .ok (.ireturn, 1) := by decide +kernel
theorem dX4_blocksUsedBy_0 : decode cX4_blocksUsedBy 0 = .ok (.aload_n 1, 1) := by decide +kernel
theorem dX4_blocksUsedBy_1 : decode cX4_blocksUsedBy 1 = .ok (.getfield 174, 3) := by decide +kernel
theorem dX4_blocksUsedBy_4 : decode cX4_blocksUsedBy 4 = .ok (.istore_n 2, 1) := by decide +kernel
theorem dX4_blocksUsedBy_5 : decode cX4_blocksUsedBy 5 = .ok (.iconst 0, 1) := by decide +kernel
theorem dX4_blocksUsedBy_6 : decode cX4_blocksUsedBy 6 = .ok (.istore_n 3, 1) := by decide +kernel
theorem dX4_blocksUsedBy_7 : decode cX4_blocksUsedBy 7 = .ok (.iload_n 3, 1) := by decide +kernel
theorem dX4_blocksUsedBy_8 : decode cX4_blocksUsedBy 8 = .ok (.aload_n 0, 1) := by decide +kernel
theorem dX4_blocksUsedBy_9 : decode cX4_blocksUsedBy 9 = .ok (.getfield 25, 3) := by decide +kernel
theorem dX4_blocksUsedBy_12 : decode cX4_blocksUsedBy 12 = .ok (.invokevirtual 99, 3) := by decide +kernel
theorem dX4_blocksUsedBy_15 : decode cX4_blocksUsedBy 15 = .ok (.if_icmp .ge 47, 3) := by decide +kernel
theorem dX4_blocksUsedBy_18 : decode cX4_blocksUsedBy 18 = .ok (.aload_n 0, 1) := by decide +kernel
theorem dX4_blocksUsedBy_19 : decode cX4_blocksUsedBy 19 = .ok (.getfield 25, 3) := by decide +kernel
theorem dX4_blocksUsedBy_22 : decode cX4_blocksUsedBy 22 = .ok (.iload_n 3, 1) := by decide +kernel
theorem dX4_blocksUsedBy_23 : decode cX4_blocksUsedBy 23 = .ok (.invokevirtual 186, 3) := by decide +kernel
theorem dX4_blocksUsedBy_26 : decode cX4_blocksUsedBy 26 = .ok (.checkcast 190, 3) := by decide +kernel
theorem dX4_blocksUsedBy_29 : decode cX4_blocksUsedBy 29 = .ok (.astore 4, 2) := by decide +kernel
theorem dX4_blocksUsedBy_31 : decode cX4_blocksUsedBy 31 = .ok (.aload 4, 2) := by decide +kernel
theorem dX4_blocksUsedBy_33 : decode cX4_blocksUsedBy 33 = .ok (.getfield 196, 3) := by decide +kernel
theorem dX4_blocksUsedBy_36 : decode cX4_blocksUsedBy 36 = .ok (.ifCond .eq 20, 3) := by decide +kernel
theorem dX4_blocksUsedBy_39 : decode cX4_blocksUsedBy 39 = .ok (.aload 4, 2) := by decide +kernel
theorem dX4_blocksUsedBy_41 : decode cX4_blocksUsedBy 41 = .ok (.getfield 192, 3) := by decide +kernel
theorem dX4_blocksUsedBy_44 : decode cX4_blocksUsedBy 44 = .ok (.aload_n 1, 1) := by decide +kernel
theorem dX4_blocksUsedBy_45 : decode cX4_blocksUsedBy 45 = .ok (.if_acmp .ne 11, 3) := by decide +kernel
theorem dX4_blocksUsedBy_48 : decode cX4_blocksUsedBy 48 = .ok (.iload_n 2, 1) := by decide +kernel
theorem dX4_blocksUsedBy_49 : decode cX4_blocksUsedBy 49 = .ok (.aload 4, 2) := by decide +kernel
theorem dX4_blocksUsedBy_51 : decode cX4_blocksUsedBy 51 = .ok (.getfield 209, 3) := by decide +kernel
theorem dX4_blocksUsedBy_54 : decode cX4_blocksUsedBy 54 = .ok (.iadd, 1) := by decide +kernel
theorem dX4_blocksUsedBy_55 : decode cX4_blocksUsedBy 55 = .ok (.istore_n 2, 1) := by decide +kernel
theorem dX4_blocksUsedBy_56 : decode cX4_blocksUsedBy 56 = .ok (.iinc 3 1, 3) := by decide +kernel
theorem dX4_blocksUsedBy_59 : decode cX4_blocksUsedBy 59 = .ok (.goto (-52), 3) := by decide +kernel
theorem dX4_blocksUsedBy_62 : decode cX4_blocksUsedBy 62 = .ok (.iload_n 2, 1) := by decide +kernel
theorem dX4_blocksUsedBy_63 : decode cX4_blocksUsedBy 63 = .ok (.ireturn, 1) := by decide +kernel
theorem dX4_canMove_0 : decode cX4_canMove 0 = .ok (.aload_n 1, 1) := by decide +kernel
theorem dX4_canMove_1 : decode cX4_canMove 1 = .ok (.aload_n 0, 1) := by decide +kernel
theorem dX4_canMove_2 : decode cX4_canMove 2 = .ok (.getfield 61, 3) := by decide +kernel
theorem dX4_canMove_5 : decode cX4_canMove 5 = .ok (.if_acmp .eq 11, 3) := by decide +kernel
theorem dX4_canMove_8 : decode cX4_canMove 8 = .ok (.aload_n 2, 1) := by decide +kernel
theorem dX4_canMove_9 : decode cX4_canMove 9 = .ok (.aload_n 1, 1) := by decide +kernel
theorem dX4_canMove_10 : decode cX4_canMove 10 = .ok (.invokevirtual 287, 3) := by decide +kernel
theorem dX4_canMove_13 : decode cX4_canMove 13 = .ok (.ifCond .eq 5, 3) := by decide +kernel
theorem dX4_canMove_16 : decode cX4_canMove 16 = .ok (.iconst 0, 1) := by decide +kernel
theorem dX4_canMove_17 : decode cX4_canMove 17 = .ok (.ireturn, 1) := by decide +kernel
theorem dX4_canMove_18 : decode cX4_canMove 18 = .ok (.aload_n 0, 1) := by decide +kernel
theorem dX4_canMove_19 : decode cX4_canMove 19 = .ok (.aload_n 1, 1) := by decide +kernel
theorem dX4_canMove_20 : decode cX4_canMove 20 = .ok (.invokevirtual 291, 3) := by decide +kernel
theorem dX4_canMove_23 : decode cX4_canMove 23 = .ok (.aload_n 1, 1) := by decide +kernel
theorem dX4_canMove_24 : decode cX4_canMove 24 = .ok (.invokevirtual 139, 3) := by decide +kernel
theorem dX4_canMove_27 : decode cX4_canMove 27 = .ok (.isub, 1) := by decide +kernel
theorem dX4_canMove_28 : decode cX4_canMove 28 = .ok (.iconst 1, 1) := by decide +kernel
theorem dX4_canMove_29 : decode cX4_canMove 29 = .ok (.iadd, 1) := by decide +kernel
theorem dX4_canMove_30 : decode cX4_canMove 30 = .ok (.istore_n 3, 1) := by decide +kernel
theorem dX4_canMove_31 : decode cX4_canMove 31 = .ok (.aload_n 2, 1) := by decide +kernel
theorem dX4_canMove_32 : decode cX4_canMove 32 = .ok (.invokevirtual 139, 3) := by decide +kernel
theorem dX4_canMove_35 : decode cX4_canMove 35 = .ok (.iload_n 3, 1) := by decide +kernel
theorem dX4_canMove_36 : decode cX4_canMove 36 = .ok (.iadd, 1) := by decide +kernel
theorem dX4_canMove_37 : decode cX4_canMove 37 = .ok (.bipush 8, 2) := by decide +kernel
theorem dX4_canMove_39 : decode cX4_canMove 39 = .ok (.if_icmp .le 5, 3) := by decide +kernel
theorem dX4_canMove_42 : decode cX4_canMove 42 = .ok (.iconst 0, 1) := by decide +kernel
theorem dX4_canMove_43 : decode cX4_canMove 43 = .ok (.ireturn, 1) := by decide +kernel
theorem dX4_canMove_44 : decode cX4_canMove 44 = .ok (.aload_n 0, 1) := by decide +kernel
theorem dX4_canMove_45 : decode cX4_canMove 45 = .ok (.aload_n 2, 1) := by decide +kernel
theorem dX4_canMove_46 : decode cX4_canMove 46 = .ok (.aload_n 1, 1) := by decide +kernel
theorem dX4_canMove_47 : decode cX4_canMove 47 = .ok (.getfield 142, 3) := by decide +kernel
theorem dX4_canMove_50 : decode cX4_canMove 50 = .ok (.invokevirtual 270, 3) := by decide +kernel
theorem dX4_canMove_53 : decode cX4_canMove 53 = .ok (.astore 4, 2) := by decide +kernel
theorem dX4_canMove_55 : decode cX4_canMove 55 = .ok (.aload 4, 2) := by decide +kernel
theorem dX4_canMove_57 : decode cX4_canMove 57 = .ok (.ifnull 9, 3) := by decide +kernel
theorem dX4_canMove_60 : decode cX4_canMove 60 = .ok (.aload 4, 2) := by decide +kernel
theorem dX4_canMove_62 : decode cX4_canMove 62 = .ok (.aload_n 1, 1) := by decide +kernel
theorem dX4_canMove_63 : decode cX4_canMove 63 = .ok (.if_acmp .ne 7, 3) := by decide +kernel
theorem dX4_canMove_66 : decode cX4_canMove 66 = .ok (.iconst 1, 1) := by decide +kernel
theorem dX4_canMove_67 : decode cX4_canMove 67 = .ok (.goto 4, 3) := by decide +kernel
theorem dX4_canMove_70 : decode cX4_canMove 70 = .ok (.iconst 0, 1) := by decide +kernel
theorem dX4_canMove_71 : decode cX4_canMove 71 = .ok (.ireturn, 1) := by decide +kernel
theorem dX4_deepestWithin_0 : decode cX4_deepestWithin 0 = .ok (.iconst 0, 1) := by decide +kernel
theorem dX4_deepestWithin_1 : decode cX4_deepestWithin 1 = .ok (.istore_n 2, 1) := by decide +kernel
theorem dX4_deepestWithin_2 : decode cX4_deepestWithin 2 = .ok (.iconst 0, 1) := by decide +kernel
theorem dX4_deepestWithin_3 : decode cX4_deepestWithin 3 = .ok (.istore_n 3, 1) := by decide +kernel
theorem dX4_deepestWithin_4 : decode cX4_deepestWithin 4 = .ok (.iload_n 3, 1) := by decide +kernel
theorem dX4_deepestWithin_5 : decode cX4_deepestWithin 5 = .ok (.aload_n 0, 1) := by decide +kernel
theorem dX4_deepestWithin_6 : decode cX4_deepestWithin 6 = .ok (.getfield 19, 3) := by decide +kernel
theorem dX4_deepestWithin_9 : decode cX4_deepestWithin 9 = .ok (.invokevirtual 99, 3) := by decide +kernel
theorem dX4_deepestWithin_12 : decode cX4_deepestWithin 12 = .ok (.if_icmp .ge 41, 3) := by decide +kernel
theorem dX4_deepestWithin_15 : decode cX4_deepestWithin 15 = .ok (.aload_n 0, 1) := by decide +kernel
theorem dX4_deepestWithin_16 : decode cX4_deepestWithin 16 = .ok (.getfield 19, 3) := by decide +kernel
theorem dX4_deepestWithin_19 : decode cX4_deepestWithin 19 = .ok (.iload_n 3, 1) := by decide +kernel
theorem dX4_deepestWithin_20 : decode cX4_deepestWithin 20 = .ok (.invokevirtual 186, 3) := by decide +kernel
theorem dX4_deepestWithin_23 : decode cX4_deepestWithin 23 = .ok (.checkcast 56, 3) := by decide +kernel
theorem dX4_deepestWithin_26 : decode cX4_deepestWithin 26 = .ok (.astore 4, 2) := by decide +kernel
theorem dX4_deepestWithin_28 : decode cX4_deepestWithin 28 = .ok (.aload 4, 2) := by decide +kernel
theorem dX4_deepestWithin_30 : decode cX4_deepestWithin 30 = .ok (.aload_n 1, 1) := by decide +kernel
theorem dX4_deepestWithin_31 : decode cX4_deepestWithin 31 = .ok (.invokevirtual 287, 3) := by decide +kernel
theorem dX4_deepestWithin_34 : decode cX4_deepestWithin 34 = .ok (.ifCond .eq 13, 3) := by decide +kernel
theorem dX4_deepestWithin_37 : decode cX4_deepestWithin 37 = .ok (.iload_n 2, 1) := by decide +kernel
theorem dX4_deepestWithin_38 : decode cX4_deepestWithin 38 = .ok (.aload 4, 2) := by decide +kernel
theorem dX4_deepestWithin_40 : decode cX4_deepestWithin 40 = .ok (.invokevirtual 139, 3) := by decide +kernel
theorem dX4_deepestWithin_43 : decode cX4_deepestWithin 43 = .ok (.invokestatic 294, 3) := by decide +kernel
theorem dX4_deepestWithin_46 : decode cX4_deepestWithin 46 = .ok (.istore_n 2, 1) := by decide +kernel
theorem dX4_deepestWithin_47 : decode cX4_deepestWithin 47 = .ok (.iinc 3 1, 3) := by decide +kernel
theorem dX4_deepestWithin_50 : decode cX4_deepestWithin 50 = .ok (.goto (-46), 3) := by decide +kernel
theorem dX4_deepestWithin_53 : decode cX4_deepestWithin 53 = .ok (.iload_n 2, 1) := by decide +kernel
theorem dX4_deepestWithin_54 : decode cX4_deepestWithin 54 = .ok (.ireturn, 1) := by decide +kernel
theorem dX4_projectsWithin_0 : decode cX4_projectsWithin 0 = .ok (.iconst 0, 1) := by decide +kernel
theorem dX4_projectsWithin_1 : decode cX4_projectsWithin 1 = .ok (.istore_n 2, 1) := by decide +kernel
theorem dX4_projectsWithin_2 : decode cX4_projectsWithin 2 = .ok (.iconst 0, 1) := by decide +kernel
theorem dX4_projectsWithin_3 : decode cX4_projectsWithin 3 = .ok (.istore_n 3, 1) := by decide +kernel
theorem dX4_projectsWithin_4 : decode cX4_projectsWithin 4 = .ok (.iload_n 3, 1) := by decide +kernel
theorem dX4_projectsWithin_5 : decode cX4_projectsWithin 5 = .ok (.aload_n 0, 1) := by decide +kernel
theorem dX4_projectsWithin_6 : decode cX4_projectsWithin 6 = .ok (.getfield 19, 3) := by decide +kernel
theorem dX4_projectsWithin_9 : decode cX4_projectsWithin 9 = .ok (.invokevirtual 99, 3) := by decide +kernel
theorem dX4_projectsWithin_12 : decode cX4_projectsWithin 12 = .ok (.if_icmp .ge 30, 3) := by decide +kernel
theorem dX4_projectsWithin_15 : decode cX4_projectsWithin 15 = .ok (.aload_n 0, 1) := by decide +kernel
theorem dX4_projectsWithin_16 : decode cX4_projectsWithin 16 = .ok (.getfield 19, 3) := by decide +kernel
theorem dX4_projectsWithin_19 : decode cX4_projectsWithin 19 = .ok (.iload_n 3, 1) := by decide +kernel
theorem dX4_projectsWithin_20 : decode cX4_projectsWithin 20 = .ok (.invokevirtual 186, 3) := by decide +kernel
theorem dX4_projectsWithin_23 : decode cX4_projectsWithin 23 = .ok (.checkcast 56, 3) := by decide +kernel
theorem dX4_projectsWithin_26 : decode cX4_projectsWithin 26 = .ok (.aload_n 1, 1) := by decide +kernel
theorem dX4_projectsWithin_27 : decode cX4_projectsWithin 27 = .ok (.invokevirtual 287, 3) := by decide +kernel
theorem dX4_projectsWithin_30 : decode cX4_projectsWithin 30 = .ok (.ifCond .eq 6, 3) := by decide +kernel
theorem dX4_projectsWithin_33 : decode cX4_projectsWithin 33 = .ok (.iinc 2 1, 3) := by decide +kernel
theorem dX4_projectsWithin_36 : decode cX4_projectsWithin 36 = .ok (.iinc 3 1, 3) := by decide +kernel
theorem dX4_projectsWithin_39 : decode cX4_projectsWithin 39 = .ok (.goto (-35), 3) := by decide +kernel
theorem dX4_projectsWithin_42 : decode cX4_projectsWithin 42 = .ok (.iload_n 2, 1) := by decide +kernel
theorem dX4_projectsWithin_43 : decode cX4_projectsWithin 43 = .ok (.ireturn, 1) := by decide +kernel
theorem dX4_chargeFilesWithin_0 : decode cX4_chargeFilesWithin 0 = .ok (.iconst 0, 1) := by decide +kernel
theorem dX4_chargeFilesWithin_1 : decode cX4_chargeFilesWithin 1 = .ok (.istore_n 3, 1) := by decide +kernel
theorem dX4_chargeFilesWithin_2 : decode cX4_chargeFilesWithin 2 = .ok (.iload_n 3, 1) := by decide +kernel
theorem dX4_chargeFilesWithin_3 : decode cX4_chargeFilesWithin 3 = .ok (.aload_n 0, 1) := by decide +kernel
theorem dX4_chargeFilesWithin_4 : decode cX4_chargeFilesWithin 4 = .ok (.getfield 22, 3) := by decide +kernel
theorem dX4_chargeFilesWithin_7 : decode cX4_chargeFilesWithin 7 = .ok (.invokevirtual 99, 3) := by decide +kernel
theorem dX4_chargeFilesWithin_10 : decode cX4_chargeFilesWithin 10 = .ok (.if_icmp .ge 57, 3) := by decide +kernel
theorem dX4_chargeFilesWithin_13 : decode cX4_chargeFilesWithin 13 = .ok (.aload_n 0, 1) := by decide +kernel
theorem dX4_chargeFilesWithin_14 : decode cX4_chargeFilesWithin 14 = .ok (.getfield 22, 3) := by decide +kernel
theorem dX4_chargeFilesWithin_17 : decode cX4_chargeFilesWithin 17 = .ok (.iload_n 3, 1) := by decide +kernel
theorem dX4_chargeFilesWithin_18 : decode cX4_chargeFilesWithin 18 = .ok (.invokevirtual 186, 3) := by decide +kernel
theorem dX4_chargeFilesWithin_21 : decode cX4_chargeFilesWithin 21 = .ok (.checkcast 152, 3) := by decide +kernel
theorem dX4_chargeFilesWithin_24 : decode cX4_chargeFilesWithin 24 = .ok (.astore 4, 2) := by decide +kernel
theorem dX4_chargeFilesWithin_26 : decode cX4_chargeFilesWithin 26 = .ok (.aload 4, 2) := by decide +kernel
theorem dX4_chargeFilesWithin_28 : decode cX4_chargeFilesWithin 28 = .ok (.getfield 183, 3) := by decide +kernel
theorem dX4_chargeFilesWithin_31 : decode cX4_chargeFilesWithin 31 = .ok (.ifCond .ne 30, 3) := by decide +kernel
theorem dX4_chargeFilesWithin_34 : decode cX4_chargeFilesWithin 34 = .ok (.aload 4, 2) := by decide +kernel
theorem dX4_chargeFilesWithin_36 : decode cX4_chargeFilesWithin 36 = .ok (.getfield 199, 3) := by decide +kernel
theorem dX4_chargeFilesWithin_39 : decode cX4_chargeFilesWithin 39 = .ok (.aload_n 1, 1) := by decide +kernel
theorem dX4_chargeFilesWithin_40 : decode cX4_chargeFilesWithin 40 = .ok (.invokevirtual 287, 3) := by decide +kernel
theorem dX4_chargeFilesWithin_43 : decode cX4_chargeFilesWithin 43 = .ok (.ifCond .eq 18, 3) := by decide +kernel
theorem dX4_chargeFilesWithin_46 : decode cX4_chargeFilesWithin 46 = .ok (.aload_n 0, 1) := by decide +kernel
theorem dX4_chargeFilesWithin_47 : decode cX4_chargeFilesWithin 47 = .ok (.aload 4, 2) := by decide +kernel
theorem dX4_chargeFilesWithin_49 : decode cX4_chargeFilesWithin 49 = .ok (.iload_n 2, 1) := by decide +kernel
theorem dX4_chargeFilesWithin_50 : decode cX4_chargeFilesWithin 50 = .ok (.aload_n 0, 1) := by decide +kernel
theorem dX4_chargeFilesWithin_51 : decode cX4_chargeFilesWithin 51 = .ok (.aload 4, 2) := by decide +kernel
theorem dX4_chargeFilesWithin_53 : decode cX4_chargeFilesWithin 53 = .ok (.invokevirtual 179, 3) := by decide +kernel
theorem dX4_chargeFilesWithin_56 : decode cX4_chargeFilesWithin 56 = .ok (.imul, 1) := by decide +kernel
theorem dX4_chargeFilesWithin_57 : decode cX4_chargeFilesWithin 57 = .ok (.iload_n 2, 1) := by decide +kernel
theorem dX4_chargeFilesWithin_58 : decode cX4_chargeFilesWithin 58 = .ok (.invokevirtual 165, 3) := by decide +kernel
theorem dX4_chargeFilesWithin_61 : decode cX4_chargeFilesWithin 61 = .ok (.iinc 3 1, 3) := by decide +kernel
theorem dX4_chargeFilesWithin_64 : decode cX4_chargeFilesWithin 64 = .ok (.goto (-62), 3) := by decide +kernel
theorem dX4_chargeFilesWithin_67 : decode cX4_chargeFilesWithin 67 = .ok (.return_, 1) := by decide +kernel
theorem dX4_charge_0 : decode cX4_charge 0 = .ok (.aload_n 1, 1) := by decide +kernel
theorem dX4_charge_1 : decode cX4_charge 1 = .ok (.getfield 169, 3) := by decide +kernel
theorem dX4_charge_4 : decode cX4_charge 4 = .ok (.aload_n 0, 1) := by decide +kernel
theorem dX4_charge_5 : decode cX4_charge 5 = .ok (.getfield 46, 3) := by decide +kernel
theorem dX4_charge_8 : decode cX4_charge 8 = .ok (.if_icmp .ge 7, 3) := by decide +kernel
theorem dX4_charge_11 : decode cX4_charge 11 = .ok (.iconst 1, 1) := by decide +kernel
theorem dX4_charge_12 : decode cX4_charge 12 = .ok (.goto 4, 3) := by decide +kernel
theorem dX4_charge_15 : decode cX4_charge 15 = .ok (.iconst 0, 1) := by decide +kernel
theorem dX4_charge_16 : decode cX4_charge 16 = .ok (.istore 4, 2) := by decide +kernel
theorem dX4_charge_18 : decode cX4_charge 18 = .ok (.aload_n 0, 1) := by decide +kernel
theorem dX4_charge_19 : decode cX4_charge 19 = .ok (.aload_n 1, 1) := by decide +kernel
theorem dX4_charge_20 : decode cX4_charge 20 = .ok (.invokevirtual 246, 3) := by decide +kernel
theorem dX4_charge_23 : decode cX4_charge 23 = .ok (.astore 5, 2) := by decide +kernel
theorem dX4_charge_25 : decode cX4_charge 25 = .ok (.iconst 0, 1) := by decide +kernel
theorem dX4_charge_26 : decode cX4_charge 26 = .ok (.istore 6, 2) := by decide +kernel
theorem dX4_charge_28 : decode cX4_charge 28 = .ok (.iload 6, 2) := by decide +kernel
theorem dX4_charge_30 : decode cX4_charge 30 = .ok (.aload 5, 2) := by decide +kernel
theorem dX4_charge_32 : decode cX4_charge 32 = .ok (.invokevirtual 99, 3) := by decide +kernel
theorem dX4_charge_35 : decode cX4_charge 35 = .ok (.if_icmp .ge 44, 3) := by decide +kernel
theorem dX4_charge_38 : decode cX4_charge 38 = .ok (.aload 5, 2) := by decide +kernel
theorem dX4_charge_40 : decode cX4_charge 40 = .ok (.iload 6, 2) := by decide +kernel
theorem dX4_charge_42 : decode cX4_charge 42 = .ok (.invokevirtual 186, 3) := by decide +kernel
theorem dX4_charge_45 : decode cX4_charge 45 = .ok (.checkcast 49, 3) := by decide +kernel
theorem dX4_charge_48 : decode cX4_charge 48 = .ok (.astore 7, 2) := by decide +kernel
theorem dX4_charge_50 : decode cX4_charge 50 = .ok (.aload 7, 2) := by decide +kernel
theorem dX4_charge_52 : decode cX4_charge 52 = .ok (.iload_n 2, 1) := by decide +kernel
theorem dX4_charge_53 : decode cX4_charge 53 = .ok (.iload_n 3, 1) := by decide +kernel
theorem dX4_charge_54 : decode cX4_charge 54 = .ok (.invokevirtual 300, 3) := by decide +kernel
theorem dX4_charge_57 : decode cX4_charge 57 = .ok (.iload 4, 2) := by decide +kernel
theorem dX4_charge_59 : decode cX4_charge 59 = .ok (.ifCond .eq 14, 3) := by decide +kernel
theorem dX4_charge_62 : decode cX4_charge 62 = .ok (.aload 7, 2) := by decide +kernel
theorem dX4_charge_64 : decode cX4_charge 64 = .ok (.dup, 1) := by decide +kernel
theorem dX4_charge_65 : decode cX4_charge 65 = .ok (.getfield 253, 3) := by decide +kernel
theorem dX4_charge_68 : decode cX4_charge 68 = .ok (.iload_n 2, 1) := by decide +kernel
theorem dX4_charge_69 : decode cX4_charge 69 = .ok (.iadd, 1) := by decide +kernel
theorem dX4_charge_70 : decode cX4_charge 70 = .ok (.putfield 253, 3) := by decide +kernel
theorem dX4_charge_73 : decode cX4_charge 73 = .ok (.iinc 6 1, 3) := by decide +kernel
theorem dX4_charge_76 : decode cX4_charge 76 = .ok (.goto (-48), 3) := by decide +kernel
theorem dX4_charge_79 : decode cX4_charge 79 = .ok (.return_, 1) := by decide +kernel
theorem dX4_take_0 : decode cX4_take 0 = .ok (.aload_n 1, 1) := by decide +kernel
theorem dX4_take_1 : decode cX4_take 1 = .ok (.getfield 183, 3) := by decide +kernel
theorem dX4_take_4 : decode cX4_take 4 = .ok (.ifCond .eq 4, 3) := by decide +kernel
theorem dX4_take_7 : decode cX4_take 7 = .ok (.return_, 1) := by decide +kernel
theorem dX4_take_8 : decode cX4_take 8 = .ok (.aload_n 0, 1) := by decide +kernel
theorem dX4_take_9 : decode cX4_take 9 = .ok (.aload_n 1, 1) := by decide +kernel
theorem dX4_take_10 : decode cX4_take 10 = .ok (.invokevirtual 179, 3) := by decide +kernel
theorem dX4_take_13 : decode cX4_take 13 = .ok (.istore_n 2, 1) := by decide +kernel
theorem dX4_take_14 : decode cX4_take 14 = .ok (.aload_n 0, 1) := by decide +kernel
theorem dX4_take_15 : decode cX4_take 15 = .ok (.aload_n 1, 1) := by decide +kernel
theorem dX4_take_16 : decode cX4_take 16 = .ok (.invokevirtual 246, 3) := by decide +kernel
theorem dX4_take_19 : decode cX4_take 19 = .ok (.astore_n 3, 1) := by decide +kernel
theorem dX4_take_20 : decode cX4_take 20 = .ok (.iconst 0, 1) := by decide +kernel
theorem dX4_take_21 : decode cX4_take 21 = .ok (.istore 4, 2) := by decide +kernel
theorem dX4_take_23 : decode cX4_take 23 = .ok (.iload 4, 2) := by decide +kernel
theorem dX4_take_25 : decode cX4_take 25 = .ok (.aload_n 3, 1) := by decide +kernel
theorem dX4_take_26 : decode cX4_take 26 = .ok (.invokevirtual 99, 3) := by decide +kernel
theorem dX4_take_29 : decode cX4_take 29 = .ok (.if_icmp .ge 27, 3) := by decide +kernel
theorem dX4_take_32 : decode cX4_take 32 = .ok (.aload_n 3, 1) := by decide +kernel
theorem dX4_take_33 : decode cX4_take 33 = .ok (.iload 4, 2) := by decide +kernel
theorem dX4_take_35 : decode cX4_take 35 = .ok (.invokevirtual 186, 3) := by decide +kernel
theorem dX4_take_38 : decode cX4_take 38 = .ok (.checkcast 49, 3) := by decide +kernel
theorem dX4_take_41 : decode cX4_take 41 = .ok (.dup, 1) := by decide +kernel
theorem dX4_take_42 : decode cX4_take 42 = .ok (.getfield 253, 3) := by decide +kernel
theorem dX4_take_45 : decode cX4_take 45 = .ok (.iload_n 2, 1) := by decide +kernel
theorem dX4_take_46 : decode cX4_take 46 = .ok (.iadd, 1) := by decide +kernel
theorem dX4_take_47 : decode cX4_take 47 = .ok (.putfield 253, 3) := by decide +kernel
theorem dX4_take_50 : decode cX4_take 50 = .ok (.iinc 4 1, 3) := by decide +kernel
theorem dX4_take_53 : decode cX4_take 53 = .ok (.goto (-30), 3) := by decide +kernel
theorem dX4_take_56 : decode cX4_take 56 = .ok (.return_, 1) := by decide +kernel
theorem dX4_noteOverAccounts_0 : decode cX4_noteOverAccounts 0 = .ok (.iconst 0, 1) := by decide +kernel
theorem dX4_noteOverAccounts_1 : decode cX4_noteOverAccounts 1 = .ok (.istore_n 1, 1) := by decide +kernel
theorem dX4_noteOverAccounts_2 : decode cX4_noteOverAccounts 2 = .ok (.iload_n 1, 1) := by decide +kernel
theorem dX4_noteOverAccounts_3 : decode cX4_noteOverAccounts 3 = .ok (.aload_n 0, 1) := by decide +kernel
theorem dX4_noteOverAccounts_4 : decode cX4_noteOverAccounts 4 = .ok (.getfield 10, 3) := by decide +kernel
theorem dX4_noteOverAccounts_7 : decode cX4_noteOverAccounts 7 = .ok (.invokevirtual 99, 3) := by decide +kernel
theorem dX4_noteOverAccounts_10 : decode cX4_noteOverAccounts 10 = .ok (.if_icmp .ge 27, 3) := by decide +kernel
theorem dX4_noteOverAccounts_13 : decode cX4_noteOverAccounts 13 = .ok (.aload_n 0, 1) := by decide +kernel
theorem dX4_noteOverAccounts_14 : decode cX4_noteOverAccounts 14 = .ok (.getfield 10, 3) := by decide +kernel
theorem dX4_noteOverAccounts_17 : decode cX4_noteOverAccounts 17 = .ok (.iload_n 1, 1) := by decide +kernel
theorem dX4_noteOverAccounts_18 : decode cX4_noteOverAccounts 18 = .ok (.invokevirtual 186, 3) := by decide +kernel
theorem dX4_noteOverAccounts_21 : decode cX4_noteOverAccounts 21 = .ok (.checkcast 49, 3) := by decide +kernel
theorem dX4_noteOverAccounts_24 : decode cX4_noteOverAccounts 24 = .ok (.aload_n 0, 1) := by decide +kernel
theorem dX4_noteOverAccounts_25 : decode cX4_noteOverAccounts 25 = .ok (.getfield 38, 3) := by decide +kernel
theorem dX4_noteOverAccounts_28 : decode cX4_noteOverAccounts 28 = .ok (.invokevirtual 226, 3) := by decide +kernel
theorem dX4_noteOverAccounts_31 : decode cX4_noteOverAccounts 31 = .ok (.iinc 1 1, 3) := by decide +kernel
theorem dX4_noteOverAccounts_34 : decode cX4_noteOverAccounts 34 = .ok (.goto (-32), 3) := by decide +kernel
theorem dX4_noteOverAccounts_37 : decode cX4_noteOverAccounts 37 = .ok (.iconst 0, 1) := by decide +kernel
theorem dX4_noteOverAccounts_38 : decode cX4_noteOverAccounts 38 = .ok (.istore_n 1, 1) := by decide +kernel
theorem dX4_noteOverAccounts_39 : decode cX4_noteOverAccounts 39 = .ok (.iload_n 1, 1) := by decide +kernel
theorem dX4_noteOverAccounts_40 : decode cX4_noteOverAccounts 40 = .ok (.aload_n 0, 1) := by decide +kernel
theorem dX4_noteOverAccounts_41 : decode cX4_noteOverAccounts 41 = .ok (.getfield 16, 3) := by decide +kernel
theorem dX4_noteOverAccounts_44 : decode cX4_noteOverAccounts 44 = .ok (.invokevirtual 99, 3) := by decide +kernel
theorem dX4_noteOverAccounts_47 : decode cX4_noteOverAccounts 47 = .ok (.if_icmp .ge 27, 3) := by decide +kernel
theorem dX4_noteOverAccounts_50 : decode cX4_noteOverAccounts 50 = .ok (.aload_n 0, 1) := by decide +kernel
theorem dX4_noteOverAccounts_51 : decode cX4_noteOverAccounts 51 = .ok (.getfield 16, 3) := by decide +kernel
theorem dX4_noteOverAccounts_54 : decode cX4_noteOverAccounts 54 = .ok (.iload_n 1, 1) := by decide +kernel
theorem dX4_noteOverAccounts_55 : decode cX4_noteOverAccounts 55 = .ok (.invokevirtual 186, 3) := by decide +kernel
theorem dX4_noteOverAccounts_58 : decode cX4_noteOverAccounts 58 = .ok (.checkcast 49, 3) := by decide +kernel
theorem dX4_noteOverAccounts_61 : decode cX4_noteOverAccounts 61 = .ok (.aload_n 0, 1) := by decide +kernel
theorem dX4_noteOverAccounts_62 : decode cX4_noteOverAccounts 62 = .ok (.getfield 38, 3) := by decide +kernel
theorem dX4_noteOverAccounts_65 : decode cX4_noteOverAccounts 65 = .ok (.invokevirtual 226, 3) := by decide +kernel
theorem dX4_noteOverAccounts_68 : decode cX4_noteOverAccounts 68 = .ok (.iinc 1 1, 3) := by decide +kernel
theorem dX4_noteOverAccounts_71 : decode cX4_noteOverAccounts 71 = .ok (.goto (-32), 3) := by decide +kernel
theorem dX4_noteOverAccounts_74 : decode cX4_noteOverAccounts 74 = .ok (.iconst 0, 1) := by decide +kernel
theorem dX4_noteOverAccounts_75 : decode cX4_noteOverAccounts 75 = .ok (.istore_n 1, 1) := by decide +kernel
theorem dX4_noteOverAccounts_76 : decode cX4_noteOverAccounts 76 = .ok (.iload_n 1, 1) := by decide +kernel
theorem dX4_noteOverAccounts_77 : decode cX4_noteOverAccounts 77 = .ok (.aload_n 0, 1) := by decide +kernel
theorem dX4_noteOverAccounts_78 : decode cX4_noteOverAccounts 78 = .ok (.getfield 19, 3) := by decide +kernel
theorem dX4_noteOverAccounts_81 : decode cX4_noteOverAccounts 81 = .ok (.invokevirtual 99, 3) := by decide +kernel
theorem dX4_noteOverAccounts_84 : decode cX4_noteOverAccounts 84 = .ok (.if_icmp .ge 30, 3) := by decide +kernel
theorem dX4_noteOverAccounts_87 : decode cX4_noteOverAccounts 87 = .ok (.aload_n 0, 1) := by decide +kernel
theorem dX4_noteOverAccounts_88 : decode cX4_noteOverAccounts 88 = .ok (.getfield 19, 3) := by decide +kernel
theorem dX4_noteOverAccounts_91 : decode cX4_noteOverAccounts 91 = .ok (.iload_n 1, 1) := by decide +kernel
theorem dX4_noteOverAccounts_92 : decode cX4_noteOverAccounts 92 = .ok (.invokevirtual 186, 3) := by decide +kernel
theorem dX4_noteOverAccounts_95 : decode cX4_noteOverAccounts 95 = .ok (.checkcast 56, 3) := by decide +kernel
theorem dX4_noteOverAccounts_98 : decode cX4_noteOverAccounts 98 = .ok (.getfield 256, 3) := by decide +kernel
theorem dX4_noteOverAccounts_101 : decode cX4_noteOverAccounts 101 = .ok (.aload_n 0, 1) := by decide +kernel
theorem dX4_noteOverAccounts_102 : decode cX4_noteOverAccounts 102 = .ok (.getfield 38, 3) := by decide +kernel
theorem dX4_noteOverAccounts_105 : decode cX4_noteOverAccounts 105 = .ok (.invokevirtual 226, 3) := by decide +kernel
theorem dX4_noteOverAccounts_108 : decode cX4_noteOverAccounts 108 = .ok (.iinc 1 1, 3) := by decide +kernel
theorem dX4_noteOverAccounts_111 : decode cX4_noteOverAccounts 111 = .ok (.goto (-35), 3) := by decide +kernel
theorem dX4_noteOverAccounts_114 : decode cX4_noteOverAccounts 114 = .ok (.return_, 1) := by decide +kernel
theorem dX4_barringPlace_0 : decode cX4_barringPlace 0 = .ok (.aload_n 0, 1) := by decide +kernel
theorem dX4_barringPlace_1 : decode cX4_barringPlace 1 = .ok (.aload_n 1, 1) := by decide +kernel
theorem dX4_barringPlace_2 : decode cX4_barringPlace 2 = .ok (.invokevirtual 246, 3) := by decide +kernel
theorem dX4_barringPlace_5 : decode cX4_barringPlace 5 = .ok (.astore 4, 2) := by decide +kernel
theorem dX4_barringPlace_7 : decode cX4_barringPlace 7 = .ok (.iconst 0, 1) := by decide +kernel
theorem dX4_barringPlace_8 : decode cX4_barringPlace 8 = .ok (.istore 5, 2) := by decide +kernel
theorem dX4_barringPlace_10 : decode cX4_barringPlace 10 = .ok (.iload 5, 2) := by decide +kernel
theorem dX4_barringPlace_12 : decode cX4_barringPlace 12 = .ok (.aload 4, 2) := by decide +kernel
theorem dX4_barringPlace_14 : decode cX4_barringPlace 14 = .ok (.invokevirtual 99, 3) := by decide +kernel
theorem dX4_barringPlace_17 : decode cX4_barringPlace 17 = .ok (.if_icmp .ge 34, 3) := by decide +kernel
theorem dX4_barringPlace_20 : decode cX4_barringPlace 20 = .ok (.aload 4, 2) := by decide +kernel
theorem dX4_barringPlace_22 : decode cX4_barringPlace 22 = .ok (.iload 5, 2) := by decide +kernel
theorem dX4_barringPlace_24 : decode cX4_barringPlace 24 = .ok (.invokevirtual 186, 3) := by decide +kernel
theorem dX4_barringPlace_27 : decode cX4_barringPlace 27 = .ok (.checkcast 49, 3) := by decide +kernel
theorem dX4_barringPlace_30 : decode cX4_barringPlace 30 = .ok (.iload_n 2, 1) := by decide +kernel
theorem dX4_barringPlace_31 : decode cX4_barringPlace 31 = .ok (.iload_n 3, 1) := by decide +kernel
theorem dX4_barringPlace_32 : decode cX4_barringPlace 32 = .ok (.aload_n 0, 1) := by decide +kernel
theorem dX4_barringPlace_33 : decode cX4_barringPlace 33 = .ok (.getfield 38, 3) := by decide +kernel
theorem dX4_barringPlace_36 : decode cX4_barringPlace 36 = .ok (.invokevirtual 303, 3) := by decide +kernel
theorem dX4_barringPlace_39 : decode cX4_barringPlace 39 = .ok (.ifCond .eq 6, 3) := by decide +kernel
theorem dX4_barringPlace_42 : decode cX4_barringPlace 42 = .ok (.iload 5, 2) := by decide +kernel
theorem dX4_barringPlace_44 : decode cX4_barringPlace 44 = .ok (.ireturn, 1) := by decide +kernel
theorem dX4_barringPlace_45 : decode cX4_barringPlace 45 = .ok (.iinc 5 1, 3) := by decide +kernel
theorem dX4_barringPlace_48 : decode cX4_barringPlace 48 = .ok (.goto (-38), 3) := by decide +kernel
theorem dX4_barringPlace_51 : decode cX4_barringPlace 51 = .ok (.iconst (-1), 1) := by decide +kernel
theorem dX4_barringPlace_52 : decode cX4_barringPlace 52 = .ok (.ireturn, 1) := by decide +kernel
theorem dX4_barredAnswer_0 : decode cX4_barredAnswer 0 = .ok (.bipush (-2), 2) := by decide +kernel
theorem dX4_barredAnswer_2 : decode cX4_barredAnswer 2 = .ok (.iload_n 0, 1) := by decide +kernel
theorem dX4_barredAnswer_3 : decode cX4_barredAnswer 3 = .ok (.isub, 1) := by decide +kernel
theorem dX4_barredAnswer_4 : decode cX4_barredAnswer 4 = .ok (.ireturn, 1) := by decide +kernel
theorem dX4_isLimit_0 : decode cX4_isLimit 0 = .ok (.iload_n 0, 1) := by decide +kernel
theorem dX4_isLimit_1 : decode cX4_isLimit 1 = .ok (.iconst (-1), 1) := by decide +kernel
theorem dX4_isLimit_2 : decode cX4_isLimit 2 = .ok (.if_icmp .eq 12, 3) := by decide +kernel
theorem dX4_isLimit_5 : decode cX4_isLimit 5 = .ok (.iload_n 0, 1) := by decide +kernel
theorem dX4_isLimit_6 : decode cX4_isLimit 6 = .ok (.ifCond .lt 12, 3) := by decide +kernel
theorem dX4_isLimit_9 : decode cX4_isLimit 9 = .ok (.iload_n 0, 1) := by decide +kernel
theorem dX4_isLimit_10 : decode cX4_isLimit 10 = .ok (.iload_n 1, 1) := by decide +kernel
theorem dX4_isLimit_11 : decode cX4_isLimit 11 = .ok (.if_icmp .gt 7, 3) := by decide +kernel
theorem dX4_isLimit_14 : decode cX4_isLimit 14 = .ok (.iconst 1, 1) := by decide +kernel
theorem dX4_isLimit_15 : decode cX4_isLimit 15 = .ok (.goto 4, 3) := by decide +kernel
theorem dX4_isLimit_18 : decode cX4_isLimit 18 = .ok (.iconst 0, 1) := by decide +kernel
theorem dX4_isLimit_19 : decode cX4_isLimit 19 = .ok (.ireturn, 1) := by decide +kernel
theorem dX5_init_0 : decode cX5_init 0 = .ok (.aload_n 0, 1) := by decide +kernel
theorem dX5_init_1 : decode cX5_init 1 = .ok (.invokespecial 1, 3) := by decide +kernel
theorem dX5_init_4 : decode cX5_init 4 = .ok (.aload_n 0, 1) := by decide +kernel
theorem dX5_init_5 : decode cX5_init 5 = .ok (.bipush 8, 2) := by decide +kernel
theorem dX5_init_7 : decode cX5_init 7 = .ok (.newarray .char, 2) := by decide +kernel
theorem dX5_init_9 : decode cX5_init 9 = .ok (.putfield 7, 3) := by decide +kernel
theorem dX5_init_12 : decode cX5_init 12 = .ok (.aload_n 0, 1) := by decide +kernel
theorem dX5_init_13 : decode cX5_init 13 = .ok (.bipush 8, 2) := by decide +kernel
theorem dX5_init_15 : decode cX5_init 15 = .ok (.newarray .char, 2) := by decide +kernel
theorem dX5_init_17 : decode cX5_init 17 = .ok (.putfield 13, 3) := by decide +kernel
theorem dX5_init_20 : decode cX5_init 20 = .ok (.aload_n 0, 1) := by decide +kernel
theorem dX5_init_21 : decode cX5_init 21 = .ok (.iconst 1, 1) := by decide +kernel
theorem dX5_init_22 : decode cX5_init 22 = .ok (.putfield 16, 3) := by decide +kernel
theorem dX5_init_25 : decode cX5_init 25 = .ok (.aload_n 0, 1) := by decide +kernel
theorem dX5_init_26 : decode cX5_init 26 = .ok (.sipush 168, 3) := by decide +kernel
theorem dX5_init_29 : decode cX5_init 29 = .ok (.newarray .char, 2) := by decide +kernel
theorem dX5_init_31 : decode cX5_init 31 = .ok (.putfield 20, 3) := by decide +kernel
theorem dX5_init_34 : decode cX5_init 34 = .ok (.aload_n 0, 1) := by decide +kernel
theorem dX5_init_35 : decode cX5_init 35 = .ok (.bipush 21, 2) := by decide +kernel
theorem dX5_init_37 : decode cX5_init 37 = .ok (.newarray .int, 2) := by decide +kernel
theorem dX5_init_39 : decode cX5_init 39 = .ok (.putfield 23, 3) := by decide +kernel
theorem dX5_init_42 : decode cX5_init 42 = .ok (.aload_n 0, 1) := by decide +kernel
theorem dX5_init_43 : decode cX5_init 43 = .ok (.bipush 40, 2) := by decide +kernel
theorem dX5_init_45 : decode cX5_init 45 = .ok (.newarray .int, 2) := by decide +kernel
theorem dX5_init_47 : decode cX5_init 47 = .ok (.putfield 27, 3) := by decide +kernel
theorem dX5_init_50 : decode cX5_init 50 = .ok (.aload_n 0, 1) := by decide +kernel
theorem dX5_init_51 : decode cX5_init 51 = .ok (.bipush 40, 2) := by decide +kernel
theorem dX5_init_53 : decode cX5_init 53 = .ok (.newarray .int, 2) := by decide +kernel
theorem dX5_init_55 : decode cX5_init 55 = .ok (.putfield 30, 3) := by decide +kernel
theorem dX5_init_58 : decode cX5_init 58 = .ok (.aload_n 0, 1) := by decide +kernel
theorem dX5_init_59 : decode cX5_init 59 = .ok (.bipush 40, 2) := by decide +kernel
theorem dX5_init_61 : decode cX5_init 61 = .ok (.newarray .int, 2) := by decide +kernel
theorem dX5_init_63 : decode cX5_init 63 = .ok (.putfield 33, 3) := by decide +kernel
theorem dX5_init_66 : decode cX5_init 66 = .ok (.aload_n 0, 1) := by decide +kernel
theorem dX5_init_67 : decode cX5_init 67 = .ok (.bipush 40, 2) := by decide +kernel
theorem dX5_init_69 : decode cX5_init 69 = .ok (.newarray .boolean, 2) := by decide +kernel
theorem dX5_init_71 : decode cX5_init 71 = .ok (.putfield 36, 3) := by decide +kernel
theorem dX5_init_74 : decode cX5_init 74 = .ok (.aload_n 0, 1) := by decide +kernel
theorem dX5_init_75 : decode cX5_init 75 = .ok (.bipush 30, 2) := by decide +kernel
theorem dX5_init_77 : decode cX5_init 77 = .ok (.newarray .int, 2) := by decide +kernel
theorem dX5_init_79 : decode cX5_init 79 = .ok (.putfield 40, 3) := by decide +kernel
theorem dX5_init_82 : decode cX5_init 82 = .ok (.aload_n 0, 1) := by decide +kernel
theorem dX5_init_83 : decode cX5_init 83 = .ok (.bipush 30, 2) := by decide +kernel
theorem dX5_init_85 : decode cX5_init 85 = .ok (.newarray .int, 2) := by decide +kernel
theorem dX5_init_87 : decode cX5_init 87 = .ok (.putfield 43, 3) := by decide +kernel
theorem dX5_init_90 : decode cX5_init 90 = .ok (.aload_n 0, 1) := by decide +kernel
theorem dX5_init_91 : decode cX5_init 91 = .ok (.bipush 30, 2) := by decide +kernel
theorem dX5_init_93 : decode cX5_init 93 = .ok (.newarray .boolean, 2) := by decide +kernel
theorem dX5_init_95 : decode cX5_init 95 = .ok (.putfield 46, 3) := by decide +kernel
theorem dX5_init_98 : decode cX5_init 98 = .ok (.aload_n 0, 1) := by decide +kernel
theorem dX5_init_99 : decode cX5_init 99 = .ok (.bipush 30, 2) := by decide +kernel
theorem dX5_init_101 : decode cX5_init 101 = .ok (.newarray .int, 2) := by decide +kernel
theorem dX5_init_103 : decode cX5_init 103 = .ok (.putfield 49, 3) := by decide +kernel
theorem dX5_init_106 : decode cX5_init 106 = .ok (.aload_n 0, 1) := by decide +kernel
theorem dX5_init_107 : decode cX5_init 107 = .ok (.bipush 30, 2) := by decide +kernel
theorem dX5_init_109 : decode cX5_init 109 = .ok (.newarray .int, 2) := by decide +kernel
theorem dX5_init_111 : decode cX5_init 111 = .ok (.putfield 52, 3) := by decide +kernel
theorem dX5_init_114 : decode cX5_init 114 = .ok (.aload_n 0, 1) := by decide +kernel
theorem dX5_init_115 : decode cX5_init 115 = .ok (.bipush 30, 2) := by decide +kernel
theorem dX5_init_117 : decode cX5_init 117 = .ok (.newarray .int, 2) := by decide +kernel
theorem dX5_init_119 : decode cX5_init 119 = .ok (.putfield 55, 3) := by decide +kernel
theorem dX5_init_122 : decode cX5_init 122 = .ok (.aload_n 0, 1) := by decide +kernel
theorem dX5_init_123 : decode cX5_init 123 = .ok (.bipush 30, 2) := by decide +kernel
theorem dX5_init_125 : decode cX5_init 125 = .ok (.newarray .int, 2) := by decide +kernel
theorem dX5_init_127 : decode cX5_init 127 = .ok (.putfield 58, 3) := by decide +kernel
theorem dX5_init_130 : decode cX5_init 130 = .ok (.iconst 0, 1) := by decide +kernel
theorem dX5_init_131 : decode cX5_init 131 = .ok (.istore_n 1, 1) := by decide +kernel
theorem dX5_init_132 : decode cX5_init 132 = .ok (.iload_n 1, 1) := by decide +kernel
theorem dX5_init_133 : decode cX5_init 133 = .ok (.bipush 30, 2) := by decide +kernel
theorem dX5_init_135 : decode cX5_init 135 = .ok (.if_icmp .ge 37, 3) := by decide +kernel
theorem dX5_init_138 : decode cX5_init 138 = .ok (.aload_n 0, 1) := by decide +kernel
theorem dX5_init_139 : decode cX5_init 139 = .ok (.getfield 49, 3) := by decide +kernel
theorem dX5_init_142 : decode cX5_init 142 = .ok (.iload_n 1, 1) := by decide +kernel
theorem dX5_init_143 : decode cX5_init 143 = .ok (.iconst (-1), 1) := by decide +kernel
theorem dX5_init_144 : decode cX5_init 144 = .ok (.iastore, 1) := by decide +kernel
theorem dX5_init_145 : decode cX5_init 145 = .ok (.aload_n 0, 1) := by decide +kernel
theorem dX5_init_146 : decode cX5_init 146 = .ok (.getfield 52, 3) := by decide +kernel
theorem dX5_init_149 : decode cX5_init 149 = .ok (.iload_n 1, 1) := by decide +kernel
theorem dX5_init_150 : decode cX5_init 150 = .ok (.iconst (-1), 1) := by decide +kernel
theorem dX5_init_151 : decode cX5_init 151 = .ok (.iastore, 1) := by decide +kernel
theorem dX5_init_152 : decode cX5_init 152 = .ok (.aload_n 0, 1) := by decide +kernel
theorem dX5_init_153 : decode cX5_init 153 = .ok (.getfield 55, 3) := by decide +kernel
theorem dX5_init_156 : decode cX5_init 156 = .ok (.iload_n 1, 1) := by decide +kernel
theorem dX5_init_157 : decode cX5_init 157 = .ok (.iconst (-1), 1) := by decide +kernel
theorem dX5_init_158 : decode cX5_init 158 = .ok (.iastore, 1) := by decide +kernel
theorem dX5_init_159 : decode cX5_init 159 = .ok (.aload_n 0, 1) := by decide +kernel
theorem dX5_init_160 : decode cX5_init 160 = .ok (.getfield 58, 3) := by decide +kernel
theorem dX5_init_163 : decode cX5_init 163 = .ok (.iload_n 1, 1) := by decide +kernel
theorem dX5_init_164 : decode cX5_init 164 = .ok (.iconst (-1), 1) := by decide +kernel
theorem dX5_init_165 : decode cX5_init 165 = .ok (.iastore, 1) := by decide +kernel
theorem dX5_init_166 : decode cX5_init 166 = .ok (.iinc 1 1, 3) := by decide +kernel
theorem dX5_init_169 : decode cX5_init 169 = .ok (.goto (-37), 3) := by decide +kernel
theorem dX5_init_172 : decode cX5_init 172 = .ok (.return_, 1) := by decide +kernel
theorem dX5_thrown_0 : decode cX5_thrown 0 = .ok (.aload_n 0, 1) := by decide +kernel
theorem dX5_thrown_1 : decode cX5_thrown 1 = .ok (.getfield 61, 3) := by decide +kernel
theorem dX5_thrown_4 : decode cX5_thrown 4 = .ok (.ireturn, 1) := by decide +kernel
theorem dX5_refused_0 : decode cX5_refused 0 = .ok (.aload_n 0, 1) := by decide +kernel
theorem dX5_refused_1 : decode cX5_refused 1 = .ok (.iload_n 1, 1) := by decide +kernel
theorem dX5_refused_2 : decode cX5_refused 2 = .ok (.putfield 61, 3) := by decide +kernel
theorem dX5_refused_5 : decode cX5_refused 5 = .ok (.iload_n 1, 1) := by decide +kernel
theorem dX5_refused_6 : decode cX5_refused 6 = .ok (.ifCond .eq 7, 3) := by decide +kernel
theorem dX5_refused_9 : decode cX5_refused 9 = .ok (.iconst 1, 1) := by decide +kernel
theorem dX5_refused_10 : decode cX5_refused 10 = .ok (.goto 4, 3) := by decide +kernel
theorem dX5_refused_13 : decode cX5_refused 13 = .ok (.iconst 0, 1) := by decide +kernel
theorem dX5_refused_14 : decode cX5_refused 14 = .ok (.ireturn, 1) := by decide +kernel
theorem dX5_fine_0 : decode cX5_fine 0 = .ok (.aload_n 0, 1) := by decide +kernel
theorem dX5_fine_1 : decode cX5_fine 1 = .ok (.iconst 0, 1) := by decide +kernel
theorem dX5_fine_2 : decode cX5_fine 2 = .ok (.putfield 61, 3) := by decide +kernel
theorem dX5_fine_5 : decode cX5_fine 5 = .ok (.iload_n 1, 1) := by decide +kernel
theorem dX5_fine_6 : decode cX5_fine 6 = .ok (.ireturn, 1) := by decide +kernel
theorem dX5_in_0 : decode cX5_in 0 = .ok (.iload_n 0, 1) := by decide +kernel
theorem dX5_in_1 : decode cX5_in 1 = .ok (.iload_n 1, 1) := by decide +kernel
theorem dX5_in_2 : decode cX5_in 2 = .ok (.if_icmp .lt 12, 3) := by decide +kernel
theorem dX5_in_5 : decode cX5_in 5 = .ok (.iload_n 0, 1) := by decide +kernel
theorem dX5_in_6 : decode cX5_in 6 = .ok (.iload_n 2, 1) := by decide +kernel
theorem dX5_in_7 : decode cX5_in 7 = .ok (.if_icmp .gt 7, 3) := by decide +kernel
theorem dX5_in_10 : decode cX5_in 10 = .ok (.iconst 1, 1) := by decide +kernel
theorem dX5_in_11 : decode cX5_in 11 = .ok (.goto 4, 3) := by decide +kernel
theorem dX5_in_14 : decode cX5_in 14 = .ok (.iconst 0, 1) := by decide +kernel
theorem dX5_in_15 : decode cX5_in 15 = .ok (.ireturn, 1) := by decide +kernel
theorem dX5_type_0 : decode cX5_type 0 = .ok (.aload_n 0, 1) := by decide +kernel
theorem dX5_type_1 : decode cX5_type 1 = .ok (.iload_n 1, 1) := by decide +kernel
theorem dX5_type_2 : decode cX5_type 2 = .ok (.bipush 97, 2) := by decide +kernel
theorem dX5_type_4 : decode cX5_type 4 = .ok (.if_icmp .lt 9, 3) := by decide +kernel
theorem dX5_type_7 : decode cX5_type 7 = .ok (.iload_n 1, 1) := by decide +kernel
theorem dX5_type_8 : decode cX5_type 8 = .ok (.bipush 122, 2) := by decide +kernel
theorem dX5_type_10 : decode cX5_type 10 = .ok (.if_icmp .le 7, 3) := by decide +kernel
theorem dX5_type_13 : decode cX5_type 13 = .ok (.iconst 1, 1) := by decide +kernel
theorem dX5_type_14 : decode cX5_type 14 = .ok (.goto 17, 3) := by decide +kernel
theorem dX5_type_17 : decode cX5_type 17 = .ok (.aload_n 0, 1) := by decide +kernel
theorem dX5_type_18 : decode cX5_type 18 = .ok (.getfield 64, 3) := by decide +kernel
theorem dX5_type_21 : decode cX5_type 21 = .ok (.bipush 8, 2) := by decide +kernel
theorem dX5_type_23 : decode cX5_type 23 = .ok (.if_icmp .ne 7, 3) := by decide +kernel
theorem dX5_type_26 : decode cX5_type 26 = .ok (.iconst 2, 1) := by decide +kernel
theorem dX5_type_27 : decode cX5_type 27 = .ok (.goto 4, 3) := by decide +kernel
theorem dX5_type_30 : decode cX5_type 30 = .ok (.iconst 0, 1) := by decide +kernel
theorem dX5_type_31 : decode cX5_type 31 = .ok (.invokevirtual 67, 3) := by decide +kernel
theorem dX5_type_34 : decode cX5_type 34 = .ok (.ifCond .eq 5, 3) := by decide +kernel
theorem dX5_type_37 : decode cX5_type 37 = .ok (.iconst 0, 1) := by decide +kernel
theorem dX5_type_38 : decode cX5_type 38 = .ok (.ireturn, 1) := by decide +kernel
theorem dX5_type_39 : decode cX5_type 39 = .ok (.aload_n 0, 1) := by decide +kernel
theorem dX5_type_40 : decode cX5_type 40 = .ok (.getfield 7, 3) := by decide +kernel
theorem dX5_type_43 : decode cX5_type 43 = .ok (.aload_n 0, 1) := by decide +kernel
theorem dX5_type_44 : decode cX5_type 44 = .ok (.getfield 64, 3) := by decide +kernel
theorem dX5_type_47 : decode cX5_type 47 = .ok (.iload_n 1, 1) := by decide +kernel
theorem dX5_type_48 : decode cX5_type 48 = .ok (.castore, 1) := by decide +kernel
theorem dX5_type_49 : decode cX5_type 49 = .ok (.aload_n 0, 1) := by decide +kernel
theorem dX5_type_50 : decode cX5_type 50 = .ok (.dup, 1) := by decide +kernel
theorem dX5_type_51 : decode cX5_type 51 = .ok (.getfield 64, 3) := by decide +kernel
theorem dX5_type_54 : decode cX5_type 54 = .ok (.iconst 1, 1) := by decide +kernel
theorem dX5_type_55 : decode cX5_type 55 = .ok (.iadd, 1) := by decide +kernel
theorem dX5_type_56 : decode cX5_type 56 = .ok (.putfield 64, 3) := by decide +kernel
theorem dX5_type_59 : decode cX5_type 59 = .ok (.aload_n 0, 1) := by decide +kernel
theorem dX5_type_60 : decode cX5_type 60 = .ok (.getfield 64, 3) := by decide +kernel
theorem dX5_type_63 : decode cX5_type 63 = .ok (.ireturn, 1) := by decide +kernel
theorem dX5_back_0 : decode cX5_back 0 = .ok (.aload_n 0, 1) := by decide +kernel
theorem dX5_back_1 : decode cX5_back 1 = .ok (.aload_n 0, 1) := by decide +kernel
theorem dX5_back_2 : decode cX5_back 2 = .ok (.getfield 64, 3) := by decide +kernel
theorem dX5_back_5 : decode cX5_back 5 = .ok (.ifCond .ne 7, 3) := by decide +kernel
theorem dX5_back_8 : decode cX5_back 8 = .ok (.iconst 1, 1) := by decide +kernel
theorem dX5_back_9 : decode cX5_back 9 = .ok (.goto 4, 3) := by decide +kernel
theorem dX5_back_12 : decode cX5_back 12 = .ok (.iconst 0, 1) := by decide +kernel
theorem dX5_back_13 : decode cX5_back 13 = .ok (.invokevirtual 67, 3) := by decide +kernel
theorem dX5_back_16 : decode cX5_back 16 = .ok (.ifCond .eq 5, 3) := by decide +kernel
theorem dX5_back_19 : decode cX5_back 19 = .ok (.iconst 0, 1) := by decide +kernel
theorem dX5_back_20 : decode cX5_back 20 = .ok (.ireturn, 1) := by decide +kernel
theorem dX5_back_21 : decode cX5_back 21 = .ok (.aload_n 0, 1) := by decide +kernel
theorem dX5_back_22 : decode cX5_back 22 = .ok (.dup, 1) := by decide +kernel
theorem dX5_back_23 : decode cX5_back 23 = .ok (.getfield 64, 3) := by decide +kernel
theorem dX5_back_26 : decode cX5_back 26 = .ok (.iconst 1, 1) := by decide +kernel
theorem dX5_back_27 : decode cX5_back 27 = .ok (.isub, 1) := by decide +kernel
theorem dX5_back_28 : decode cX5_back 28 = .ok (.putfield 64, 3) := by decide +kernel
theorem dX5_back_31 : decode cX5_back 31 = .ok (.aload_n 0, 1) := by decide +kernel
theorem dX5_back_32 : decode cX5_back 32 = .ok (.getfield 64, 3) := by decide +kernel
theorem dX5_back_35 : decode cX5_back 35 = .ok (.ireturn, 1) := by decide +kernel
theorem dX5_clearPath_0 : decode cX5_clearPath 0 = .ok (.aload_n 0, 1) := by decide +kernel
theorem dX5_clearPath_1 : decode cX5_clearPath 1 = .ok (.getfield 64, 3) := by decide +kernel
theorem dX5_clearPath_4 : decode cX5_clearPath 4 = .ok (.istore_n 1, 1) := by decide +kernel
theorem dX5_clearPath_5 : decode cX5_clearPath 5 = .ok (.aload_n 0, 1) := by decide +kernel
theorem dX5_clearPath_6 : decode cX5_clearPath 6 = .ok (.iconst 0, 1) := by decide +kernel
theorem dX5_clearPath_7 : decode cX5_clearPath 7 = .ok (.putfield 64, 3) := by decide +kernel
theorem dX5_clearPath_10 : decode cX5_clearPath 10 = .ok (.aload_n 0, 1) := by decide +kernel
theorem dX5_clearPath_11 : decode cX5_clearPath 11 = .ok (.iload_n 1, 1) := by decide +kernel
theorem dX5_clearPath_12 : decode cX5_clearPath 12 = .ok (.invokevirtual 71, 3) := by decide +kernel
theorem dX5_clearPath_15 : decode cX5_clearPath 15 = .ok (.ireturn, 1) := by decide +kernel
theorem dX5_find_0 : decode cX5_find 0 = .ok (.iconst (-1), 1) := by decide +kernel
theorem dX5_find_1 : decode cX5_find 1 = .ok (.istore_n 2, 1) := by decide +kernel
theorem dX5_find_2 : decode cX5_find 2 = .ok (.iconst 0, 1) := by decide +kernel
theorem dX5_find_3 : decode cX5_find 3 = .ok (.istore_n 3, 1) := by decide +kernel
theorem dX5_find_4 : decode cX5_find 4 = .ok (.iload_n 3, 1) := by decide +kernel
theorem dX5_find_5 : decode cX5_find 5 = .ok (.aload_n 0, 1) := by decide +kernel
theorem dX5_find_6 : decode cX5_find 6 = .ok (.getfield 16, 3) := by decide +kernel
theorem dX5_find_9 : decode cX5_find 9 = .ok (.if_icmp .ge 86, 3) := by decide +kernel
theorem dX5_find_12 : decode cX5_find 12 = .ok (.aload_n 0, 1) := by decide +kernel
theorem dX5_find_13 : decode cX5_find 13 = .ok (.getfield 23, 3) := by decide +kernel
theorem dX5_find_16 : decode cX5_find 16 = .ok (.iload_n 3, 1) := by decide +kernel
theorem dX5_find_17 : decode cX5_find 17 = .ok (.iaload, 1) := by decide +kernel
theorem dX5_find_18 : decode cX5_find 18 = .ok (.iload_n 1, 1) := by decide +kernel
theorem dX5_find_19 : decode cX5_find 19 = .ok (.if_icmp .ne 7, 3) := by decide +kernel
theorem dX5_find_22 : decode cX5_find 22 = .ok (.iconst 1, 1) := by decide +kernel
theorem dX5_find_23 : decode cX5_find 23 = .ok (.goto 4, 3) := by decide +kernel
theorem dX5_find_26 : decode cX5_find 26 = .ok (.iconst 0, 1) := by decide +kernel
theorem dX5_find_27 : decode cX5_find 27 = .ok (.istore 4, 2) := by decide +kernel
theorem dX5_find_29 : decode cX5_find 29 = .ok (.iconst 0, 1) := by decide +kernel
theorem dX5_find_30 : decode cX5_find 30 = .ok (.istore 5, 2) := by decide +kernel
theorem dX5_find_32 : decode cX5_find 32 = .ok (.iload 5, 2) := by decide +kernel
theorem dX5_find_34 : decode cX5_find 34 = .ok (.iload_n 1, 1) := by decide +kernel
theorem dX5_find_35 : decode cX5_find 35 = .ok (.if_icmp .ge 43, 3) := by decide +kernel
theorem dX5_find_38 : decode cX5_find 38 = .ok (.iload 4, 2) := by decide +kernel
theorem dX5_find_40 : decode cX5_find 40 = .ok (.ifCond .eq 38, 3) := by decide +kernel
theorem dX5_find_43 : decode cX5_find 43 = .ok (.aload_n 0, 1) := by decide +kernel
theorem dX5_find_44 : decode cX5_find 44 = .ok (.getfield 20, 3) := by decide +kernel
theorem dX5_find_47 : decode cX5_find 47 = .ok (.bipush 8, 2) := by decide +kernel
theorem dX5_find_49 : decode cX5_find 49 = .ok (.iload_n 3, 1) := by decide +kernel
theorem dX5_find_50 : decode cX5_find 50 = .ok (.imul, 1) := by decide +kernel
theorem dX5_find_51 : decode cX5_find 51 = .ok (.iload 5, 2) := by decide +kernel
theorem dX5_find_53 : decode cX5_find 53 = .ok (.iadd, 1) := by decide +kernel
theorem dX5_find_54 : decode cX5_find 54 = .ok (.caload, 1) := by decide +kernel
theorem dX5_find_55 : decode cX5_find 55 = .ok (.aload_n 0, 1) := by decide +kernel
theorem dX5_find_56 : decode cX5_find 56 = .ok (.getfield 7, 3) := by decide +kernel
theorem dX5_find_59 : decode cX5_find 59 = .ok (.iload 5, 2) := by decide +kernel
theorem dX5_find_61 : decode cX5_find 61 = .ok (.caload, 1) := by decide +kernel
theorem dX5_find_62 : decode cX5_find 62 = .ok (.if_icmp .ne 7, 3) := by decide +kernel
theorem dX5_find_65 : decode cX5_find 65 = .ok (.iconst 1, 1) := by decide +kernel
theorem dX5_find_66 : decode cX5_find 66 = .ok (.goto 4, 3) := by decide +kernel
theorem dX5_find_69 : decode cX5_find 69 = .ok (.iconst 0, 1) := by decide +kernel
theorem dX5_find_70 : decode cX5_find 70 = .ok (.istore 4, 2) := by decide +kernel
theorem dX5_find_72 : decode cX5_find 72 = .ok (.iinc 5 1, 3) := by decide +kernel
theorem dX5_find_75 : decode cX5_find 75 = .ok (.goto (-43), 3) := by decide +kernel
theorem dX5_find_78 : decode cX5_find 78 = .ok (.iload 4, 2) := by decide +kernel
theorem dX5_find_80 : decode cX5_find 80 = .ok (.ifCond .eq 7, 3) := by decide +kernel
theorem dX5_find_83 : decode cX5_find 83 = .ok (.iload_n 3, 1) := by decide +kernel
theorem dX5_find_84 : decode cX5_find 84 = .ok (.goto 4, 3) := by decide +kernel
theorem dX5_find_87 : decode cX5_find 87 = .ok (.iload_n 2, 1) := by decide +kernel
theorem dX5_find_88 : decode cX5_find 88 = .ok (.istore_n 2, 1) := by decide +kernel
theorem dX5_find_89 : decode cX5_find 89 = .ok (.iinc 3 1, 3) := by decide +kernel
theorem dX5_find_92 : decode cX5_find 92 = .ok (.goto (-88), 3) := by decide +kernel
theorem dX5_find_95 : decode cX5_find 95 = .ok (.iload_n 2, 1) := by decide +kernel
theorem dX5_find_96 : decode cX5_find 96 = .ok (.ireturn, 1) := by decide +kernel
theorem dX5_makeProject_0 : decode cX5_makeProject 0 = .ok (.aload_n 0, 1) := by decide +kernel
theorem dX5_makeProject_1 : decode cX5_makeProject 1 = .ok (.aload_n 0, 1) := by decide +kernel
theorem dX5_makeProject_2 : decode cX5_makeProject 2 = .ok (.aload_n 0, 1) := by decide +kernel
theorem dX5_makeProject_3 : decode cX5_makeProject 3 = .ok (.getfield 64, 3) := by decide +kernel
theorem dX5_makeProject_6 : decode cX5_makeProject 6 = .ok (.invokevirtual 75, 3) := by decide +kernel
theorem dX5_makeProject_9 : decode cX5_makeProject 9 = .ok (.iconst (-1), 1) := by decide +kernel
theorem dX5_makeProject_10 : decode cX5_makeProject 10 = .ok (.if_icmp .ne 26, 3) := by decide +kernel
theorem dX5_makeProject_13 : decode cX5_makeProject 13 = .ok (.aload_n 0, 1) := by decide +kernel
theorem dX5_makeProject_14 : decode cX5_makeProject 14 = .ok (.aload_n 0, 1) := by decide +kernel
theorem dX5_makeProject_15 : decode cX5_makeProject 15 = .ok (.getfield 64, 3) := by decide +kernel
theorem dX5_makeProject_18 : decode cX5_makeProject 18 = .ok (.iconst 1, 1) := by decide +kernel
theorem dX5_makeProject_19 : decode cX5_makeProject 19 = .ok (.isub, 1) := by decide +kernel
theorem dX5_makeProject_20 : decode cX5_makeProject 20 = .ok (.invokevirtual 75, 3) := by decide +kernel
theorem dX5_makeProject_23 : decode cX5_makeProject 23 = .ok (.iconst (-1), 1) := by decide +kernel
theorem dX5_makeProject_24 : decode cX5_makeProject 24 = .ok (.if_icmp .eq 12, 3) := by decide +kernel
theorem dX5_makeProject_27 : decode cX5_makeProject 27 = .ok (.aload_n 0, 1) := by decide +kernel
theorem dX5_makeProject_28 : decode cX5_makeProject 28 = .ok (.getfield 16, 3) := by decide +kernel
theorem dX5_makeProject_31 : decode cX5_makeProject 31 = .ok (.bipush 21, 2) := by decide +kernel
theorem dX5_makeProject_33 : decode cX5_makeProject 33 = .ok (.if_icmp .ne 7, 3) := by decide +kernel
theorem dX5_makeProject_36 : decode cX5_makeProject 36 = .ok (.iconst 1, 1) := by decide +kernel
theorem dX5_makeProject_37 : decode cX5_makeProject 37 = .ok (.goto 4, 3) := by decide +kernel
theorem dX5_makeProject_40 : decode cX5_makeProject 40 = .ok (.iconst 0, 1) := by decide +kernel
theorem dX5_makeProject_41 : decode cX5_makeProject 41 = .ok (.invokevirtual 67, 3) := by decide +kernel
theorem dX5_makeProject_44 : decode cX5_makeProject 44 = .ok (.ifCond .eq 5, 3) := by decide +kernel
theorem dX5_makeProject_47 : decode cX5_makeProject 47 = .ok (.iconst 0, 1) := by decide +kernel
theorem dX5_makeProject_48 : decode cX5_makeProject 48 = .ok (.ireturn, 1) := by decide +kernel
theorem dX5_makeProject_49 : decode cX5_makeProject 49 = .ok (.iconst 0, 1) := by decide +kernel
theorem dX5_makeProject_50 : decode cX5_makeProject 50 = .ok (.istore_n 1, 1) := by decide +kernel
theorem dX5_makeProject_51 : decode cX5_makeProject 51 = .ok (.iload_n 1, 1) := by decide +kernel
theorem dX5_makeProject_52 : decode cX5_makeProject 52 = .ok (.aload_n 0, 1) := by decide +kernel
theorem dX5_makeProject_53 : decode cX5_makeProject 53 = .ok (.getfield 64, 3) := by decide +kernel
theorem dX5_makeProject_56 : decode cX5_makeProject 56 = .ok (.if_icmp .ge 29, 3) := by decide +kernel
theorem dX5_makeProject_59 : decode cX5_makeProject 59 = .ok (.aload_n 0, 1) := by decide +kernel
theorem dX5_makeProject_60 : decode cX5_makeProject 60 = .ok (.getfield 20, 3) := by decide +kernel
theorem dX5_makeProject_63 : decode cX5_makeProject 63 = .ok (.bipush 8, 2) := by decide +kernel
theorem dX5_makeProject_65 : decode cX5_makeProject 65 = .ok (.aload_n 0, 1) := by decide +kernel
theorem dX5_makeProject_66 : decode cX5_makeProject 66 = .ok (.getfield 16, 3) := by decide +kernel
theorem dX5_makeProject_69 : decode cX5_makeProject 69 = .ok (.imul, 1) := by decide +kernel
theorem dX5_makeProject_70 : decode cX5_makeProject 70 = .ok (.iload_n 1, 1) := by decide +kernel
theorem dX5_makeProject_71 : decode cX5_makeProject 71 = .ok (.iadd, 1) := by decide +kernel
theorem dX5_makeProject_72 : decode cX5_makeProject 72 = .ok (.aload_n 0, 1) := by decide +kernel
theorem dX5_makeProject_73 : decode cX5_makeProject 73 = .ok (.getfield 7, 3) := by decide +kernel
theorem dX5_makeProject_76 : decode cX5_makeProject 76 = .ok (.iload_n 1, 1) := by decide +kernel
theorem dX5_makeProject_77 : decode cX5_makeProject 77 = .ok (.caload, 1) := by decide +kernel
theorem dX5_makeProject_78 : decode cX5_makeProject 78 = .ok (.castore, 1) := by decide +kernel
theorem dX5_makeProject_79 : decode cX5_makeProject 79 = .ok (.iinc 1 1, 3) := by decide +kernel
theorem dX5_makeProject_82 : decode cX5_makeProject 82 = .ok (.goto (-31), 3) := by decide +kernel
theorem dX5_makeProject_85 : decode cX5_makeProject 85 = .ok (.aload_n 0, 1) := by decide +kernel
theorem dX5_makeProject_86 : decode cX5_makeProject 86 = .ok (.getfield 23, 3) := by decide +kernel
theorem dX5_makeProject_89 : decode cX5_makeProject 89 = .ok (.aload_n 0, 1) := by decide +kernel
theorem dX5_makeProject_90 : decode cX5_makeProject 90 = .ok (.getfield 16, 3) := by decide +kernel
theorem dX5_makeProject_93 : decode cX5_makeProject 93 = .ok (.aload_n 0, 1) := by decide +kernel
theorem dX5_makeProject_94 : decode cX5_makeProject 94 = .ok (.getfield 64, 3) := by decide +kernel
theorem dX5_makeProject_97 : decode cX5_makeProject 97 = .ok (.iastore, 1) := by decide +kernel
theorem dX5_makeProject_98 : decode cX5_makeProject 98 = .ok (.aload_n 0, 1) := by decide +kernel
theorem dX5_makeProject_99 : decode cX5_makeProject 99 = .ok (.dup, 1) := by decide +kernel
theorem dX5_makeProject_100 : decode cX5_makeProject 100 = .ok (.getfield 16, 3) := by decide +kernel
theorem dX5_makeProject_103 : decode cX5_makeProject 103 = .ok (.iconst 1, 1) := by decide +kernel
theorem dX5_makeProject_104 : decode cX5_makeProject 104 = .ok (.iadd, 1) := by decide +kernel
theorem dX5_makeProject_105 : decode cX5_makeProject 105 = .ok (.putfield 16, 3) := by decide +kernel
theorem dX5_makeProject_108 : decode cX5_makeProject 108 = .ok (.aload_n 0, 1) := by decide +kernel
theorem dX5_makeProject_109 : decode cX5_makeProject 109 = .ok (.getfield 16, 3) := by decide +kernel
theorem dX5_makeProject_112 : decode cX5_makeProject 112 = .ok (.iconst 1, 1) := by decide +kernel
theorem dX5_makeProject_113 : decode cX5_makeProject 113 = .ok (.isub, 1) := by decide +kernel
theorem dX5_makeProject_114 : decode cX5_makeProject 114 = .ok (.ireturn, 1) := by decide +kernel
theorem dX5_findProject_0 : decode cX5_findProject 0 = .ok (.aload_n 0, 1) := by decide +kernel
theorem dX5_findProject_1 : decode cX5_findProject 1 = .ok (.aload_n 0, 1) := by decide +kernel
theorem dX5_findProject_2 : decode cX5_findProject 2 = .ok (.aload_n 0, 1) := by decide +kernel
theorem dX5_findProject_3 : decode cX5_findProject 3 = .ok (.getfield 64, 3) := by decide +kernel
theorem dX5_findProject_6 : decode cX5_findProject 6 = .ok (.invokevirtual 75, 3) := by decide +kernel
theorem dX5_findProject_9 : decode cX5_findProject 9 = .ok (.invokevirtual 71, 3) := by decide +kernel
theorem dX5_findProject_12 : decode cX5_findProject 12 = .ok (.ireturn, 1) := by decide +kernel
theorem dX5_isProject_0 : decode cX5_isProject 0 = .ok (.iload_n 1, 1) := by decide +kernel
theorem dX5_isProject_1 : decode cX5_isProject 1 = .ok (.iconst 0, 1) := by decide +kernel
theorem dX5_isProject_2 : decode cX5_isProject 2 = .ok (.aload_n 0, 1) := by decide +kernel
theorem dX5_isProject_3 : decode cX5_isProject 3 = .ok (.getfield 16, 3) := by decide +kernel
theorem dX5_isProject_6 : decode cX5_isProject 6 = .ok (.iconst 1, 1) := by decide +kernel
theorem dX5_isProject_7 : decode cX5_isProject 7 = .ok (.isub, 1) := by decide +kernel
theorem dX5_isProject_8 : decode cX5_isProject 8 = .ok (.invokestatic 78, 3) := by decide +kernel
theorem dX5_isProject_11 : decode cX5_isProject 11 = .ok (.ireturn, 1) := by decide +kernel
theorem dX5_isWithin_0 : decode cX5_isWithin 0 = .ok (.aload_n 0, 1) := by decide +kernel
theorem dX5_isWithin_1 : decode cX5_isWithin 1 = .ok (.getfield 23, 3) := by decide +kernel
theorem dX5_isWithin_4 : decode cX5_isWithin 4 = .ok (.iload_n 1, 1) := by decide +kernel
theorem dX5_isWithin_5 : decode cX5_isWithin 5 = .ok (.iaload, 1) := by decide +kernel
theorem dX5_isWithin_6 : decode cX5_isWithin 6 = .ok (.aload_n 0, 1) := by decide +kernel
theorem dX5_isWithin_7 : decode cX5_isWithin 7 = .ok (.getfield 23, 3) := by decide +kernel
theorem dX5_isWithin_10 : decode cX5_isWithin 10 = .ok (.iload_n 2, 1) := by decide +kernel
theorem dX5_isWithin_11 : decode cX5_isWithin 11 = .ok (.iaload, 1) := by decide +kernel
theorem dX5_isWithin_12 : decode cX5_isWithin 12 = .ok (.if_icmp .lt 7, 3) := by decide +kernel
theorem dX5_isWithin_15 : decode cX5_isWithin 15 = .ok (.iconst 1, 1) := by decide +kernel
theorem dX5_isWithin_16 : decode cX5_isWithin 16 = .ok (.goto 4, 3) := by decide +kernel
theorem dX5_isWithin_19 : decode cX5_isWithin 19 = .ok (.iconst 0, 1) := by decide +kernel
theorem dX5_isWithin_20 : decode cX5_isWithin 20 = .ok (.istore_n 3, 1) := by decide +kernel
theorem dX5_isWithin_21 : decode cX5_isWithin 21 = .ok (.iconst 0, 1) := by decide +kernel
theorem dX5_isWithin_22 : decode cX5_isWithin 22 = .ok (.istore 4, 2) := by decide +kernel
theorem dX5_isWithin_24 : decode cX5_isWithin 24 = .ok (.iload 4, 2) := by decide +kernel
theorem dX5_isWithin_26 : decode cX5_isWithin 26 = .ok (.aload_n 0, 1) := by decide +kernel
theorem dX5_isWithin_27 : decode cX5_isWithin 27 = .ok (.getfield 23, 3) := by decide +kernel
theorem dX5_isWithin_30 : decode cX5_isWithin 30 = .ok (.iload_n 2, 1) := by decide +kernel
theorem dX5_isWithin_31 : decode cX5_isWithin 31 = .ok (.iaload, 1) := by decide +kernel
theorem dX5_isWithin_32 : decode cX5_isWithin 32 = .ok (.if_icmp .ge 46, 3) := by decide +kernel
theorem dX5_isWithin_35 : decode cX5_isWithin 35 = .ok (.iload_n 3, 1) := by decide +kernel
theorem dX5_isWithin_36 : decode cX5_isWithin 36 = .ok (.ifCond .eq 42, 3) := by decide +kernel
theorem dX5_isWithin_39 : decode cX5_isWithin 39 = .ok (.aload_n 0, 1) := by decide +kernel
theorem dX5_isWithin_40 : decode cX5_isWithin 40 = .ok (.getfield 20, 3) := by decide +kernel
theorem dX5_isWithin_43 : decode cX5_isWithin 43 = .ok (.bipush 8, 2) := by decide +kernel
theorem dX5_isWithin_45 : decode cX5_isWithin 45 = .ok (.iload_n 1, 1) := by decide +kernel
theorem dX5_isWithin_46 : decode cX5_isWithin 46 = .ok (.imul, 1) := by decide +kernel
theorem dX5_isWithin_47 : decode cX5_isWithin 47 = .ok (.iload 4, 2) := by decide +kernel
theorem dX5_isWithin_49 : decode cX5_isWithin 49 = .ok (.iadd, 1) := by decide +kernel
theorem dX5_isWithin_50 : decode cX5_isWithin 50 = .ok (.caload, 1) := by decide +kernel
theorem dX5_isWithin_51 : decode cX5_isWithin 51 = .ok (.aload_n 0, 1) := by decide +kernel
theorem dX5_isWithin_52 : decode cX5_isWithin 52 = .ok (.getfield 20, 3) := by decide +kernel
theorem dX5_isWithin_55 : decode cX5_isWithin 55 = .ok (.bipush 8, 2) := by decide +kernel
theorem dX5_isWithin_57 : decode cX5_isWithin 57 = .ok (.iload_n 2, 1) := by decide +kernel
theorem dX5_isWithin_58 : decode cX5_isWithin 58 = .ok (.imul, 1) := by decide +kernel
theorem dX5_isWithin_59 : decode cX5_isWithin 59 = .ok (.iload 4, 2) := by decide +kernel
theorem dX5_isWithin_61 : decode cX5_isWithin 61 = .ok (.iadd, 1) := by decide +kernel
theorem dX5_isWithin_62 : decode cX5_isWithin 62 = .ok (.caload, 1) := by decide +kernel
theorem dX5_isWithin_63 : decode cX5_isWithin 63 = .ok (.if_icmp .ne 7, 3) := by decide +kernel
theorem dX5_isWithin_66 : decode cX5_isWithin 66 = .ok (.iconst 1, 1) := by decide +kernel
theorem dX5_isWithin_67 : decode cX5_isWithin 67 = .ok (.goto 4, 3) := by decide +kernel
theorem dX5_isWithin_70 : decode cX5_isWithin 70 = .ok (.iconst 0, 1) := by decide +kernel
theorem dX5_isWithin_71 : decode cX5_isWithin 71 = .ok (.istore_n 3, 1) := by decide +kernel
theorem dX5_isWithin_72 : decode cX5_isWithin 72 = .ok (.iinc 4 1, 3) := by decide +kernel
theorem dX5_isWithin_75 : decode cX5_isWithin 75 = .ok (.goto (-51), 3) := by decide +kernel
theorem dX5_isWithin_78 : decode cX5_isWithin 78 = .ok (.iload_n 3, 1) := by decide +kernel
theorem dX5_isWithin_79 : decode cX5_isWithin 79 = .ok (.ireturn, 1) := by decide +kernel
theorem dX5_deepest_0 : decode cX5_deepest 0 = .ok (.iconst 0, 1) := by decide +kernel
theorem dX5_deepest_1 : decode cX5_deepest 1 = .ok (.istore_n 2, 1) := by decide +kernel
theorem dX5_deepest_2 : decode cX5_deepest 2 = .ok (.iconst 0, 1) := by decide +kernel
theorem dX5_deepest_3 : decode cX5_deepest 3 = .ok (.istore_n 3, 1) := by decide +kernel
theorem dX5_deepest_4 : decode cX5_deepest 4 = .ok (.iload_n 3, 1) := by decide +kernel
theorem dX5_deepest_5 : decode cX5_deepest 5 = .ok (.aload_n 0, 1) := by decide +kernel
theorem dX5_deepest_6 : decode cX5_deepest 6 = .ok (.getfield 16, 3) := by decide +kernel
theorem dX5_deepest_9 : decode cX5_deepest 9 = .ok (.if_icmp .ge 39, 3) := by decide +kernel
theorem dX5_deepest_12 : decode cX5_deepest 12 = .ok (.aload_n 0, 1) := by decide +kernel
theorem dX5_deepest_13 : decode cX5_deepest 13 = .ok (.iload_n 3, 1) := by decide +kernel
theorem dX5_deepest_14 : decode cX5_deepest 14 = .ok (.iload_n 1, 1) := by decide +kernel
theorem dX5_deepest_15 : decode cX5_deepest 15 = .ok (.invokevirtual 82, 3) := by decide +kernel
theorem dX5_deepest_18 : decode cX5_deepest 18 = .ok (.ifCond .eq 22, 3) := by decide +kernel
theorem dX5_deepest_21 : decode cX5_deepest 21 = .ok (.aload_n 0, 1) := by decide +kernel
theorem dX5_deepest_22 : decode cX5_deepest 22 = .ok (.getfield 23, 3) := by decide +kernel
theorem dX5_deepest_25 : decode cX5_deepest 25 = .ok (.iload_n 3, 1) := by decide +kernel
theorem dX5_deepest_26 : decode cX5_deepest 26 = .ok (.iaload, 1) := by decide +kernel
theorem dX5_deepest_27 : decode cX5_deepest 27 = .ok (.iload_n 2, 1) := by decide +kernel
theorem dX5_deepest_28 : decode cX5_deepest 28 = .ok (.if_icmp .le 12, 3) := by decide +kernel
theorem dX5_deepest_31 : decode cX5_deepest 31 = .ok (.aload_n 0, 1) := by decide +kernel
theorem dX5_deepest_32 : decode cX5_deepest 32 = .ok (.getfield 23, 3) := by decide +kernel
theorem dX5_deepest_35 : decode cX5_deepest 35 = .ok (.iload_n 3, 1) := by decide +kernel
theorem dX5_deepest_36 : decode cX5_deepest 36 = .ok (.iaload, 1) := by decide +kernel
theorem dX5_deepest_37 : decode cX5_deepest 37 = .ok (.goto 4, 3) := by decide +kernel
theorem dX5_deepest_40 : decode cX5_deepest 40 = .ok (.iload_n 2, 1) := by decide +kernel
theorem dX5_deepest_41 : decode cX5_deepest 41 = .ok (.istore_n 2, 1) := by decide +kernel
theorem dX5_deepest_42 : decode cX5_deepest 42 = .ok (.iinc 3 1, 3) := by decide +kernel
theorem dX5_deepest_45 : decode cX5_deepest 45 = .ok (.goto (-41), 3) := by decide +kernel
theorem dX5_deepest_48 : decode cX5_deepest 48 = .ok (.iload_n 2, 1) := by decide +kernel
theorem dX5_deepest_49 : decode cX5_deepest 49 = .ok (.ireturn, 1) := by decide +kernel
theorem dX5_child_0 : decode cX5_child 0 = .ok (.iconst (-1), 1) := by decide +kernel
theorem dX5_child_1 : decode cX5_child 1 = .ok (.istore_n 3, 1) := by decide +kernel
theorem dX5_child_2 : decode cX5_child 2 = .ok (.iconst 0, 1) := by decide +kernel
theorem dX5_child_3 : decode cX5_child 3 = .ok (.istore 4, 2) := by decide +kernel
theorem dX5_child_5 : decode cX5_child 5 = .ok (.iload 4, 2) := by decide +kernel
theorem dX5_child_7 : decode cX5_child 7 = .ok (.aload_n 0, 1) := by decide +kernel
theorem dX5_child_8 : decode cX5_child 8 = .ok (.getfield 16, 3) := by decide +kernel
theorem dX5_child_11 : decode cX5_child 11 = .ok (.if_icmp .ge 77, 3) := by decide +kernel
theorem dX5_child_14 : decode cX5_child 14 = .ok (.aload_n 0, 1) := by decide +kernel
theorem dX5_child_15 : decode cX5_child 15 = .ok (.getfield 23, 3) := by decide +kernel
theorem dX5_child_18 : decode cX5_child 18 = .ok (.iload 4, 2) := by decide +kernel
theorem dX5_child_20 : decode cX5_child 20 = .ok (.iaload, 1) := by decide +kernel
theorem dX5_child_21 : decode cX5_child 21 = .ok (.aload_n 0, 1) := by decide +kernel
theorem dX5_child_22 : decode cX5_child 22 = .ok (.getfield 23, 3) := by decide +kernel
theorem dX5_child_25 : decode cX5_child 25 = .ok (.iload_n 1, 1) := by decide +kernel
theorem dX5_child_26 : decode cX5_child 26 = .ok (.iaload, 1) := by decide +kernel
theorem dX5_child_27 : decode cX5_child 27 = .ok (.iconst 1, 1) := by decide +kernel
theorem dX5_child_28 : decode cX5_child 28 = .ok (.iadd, 1) := by decide +kernel
theorem dX5_child_29 : decode cX5_child 29 = .ok (.if_icmp .ne 17, 3) := by decide +kernel
theorem dX5_child_32 : decode cX5_child 32 = .ok (.aload_n 0, 1) := by decide +kernel
theorem dX5_child_33 : decode cX5_child 33 = .ok (.iload 4, 2) := by decide +kernel
theorem dX5_child_35 : decode cX5_child 35 = .ok (.iload_n 1, 1) := by decide +kernel
theorem dX5_child_36 : decode cX5_child 36 = .ok (.invokevirtual 82, 3) := by decide +kernel
theorem dX5_child_39 : decode cX5_child 39 = .ok (.ifCond .eq 7, 3) := by decide +kernel
theorem dX5_child_42 : decode cX5_child 42 = .ok (.iconst 1, 1) := by decide +kernel
theorem dX5_child_43 : decode cX5_child 43 = .ok (.goto 4, 3) := by decide +kernel
theorem dX5_child_46 : decode cX5_child 46 = .ok (.iconst 0, 1) := by decide +kernel
theorem dX5_child_47 : decode cX5_child 47 = .ok (.istore 5, 2) := by decide +kernel
theorem dX5_child_49 : decode cX5_child 49 = .ok (.iload 5, 2) := by decide +kernel
theorem dX5_child_51 : decode cX5_child 51 = .ok (.ifCond .eq 29, 3) := by decide +kernel
theorem dX5_child_54 : decode cX5_child 54 = .ok (.aload_n 0, 1) := by decide +kernel
theorem dX5_child_55 : decode cX5_child 55 = .ok (.getfield 20, 3) := by decide +kernel
theorem dX5_child_58 : decode cX5_child 58 = .ok (.bipush 8, 2) := by decide +kernel
theorem dX5_child_60 : decode cX5_child 60 = .ok (.iload 4, 2) := by decide +kernel
theorem dX5_child_62 : decode cX5_child 62 = .ok (.imul, 1) := by decide +kernel
theorem dX5_child_63 : decode cX5_child 63 = .ok (.aload_n 0, 1) := by decide +kernel
theorem dX5_child_64 : decode cX5_child 64 = .ok (.getfield 23, 3) := by decide +kernel
theorem dX5_child_67 : decode cX5_child 67 = .ok (.iload_n 1, 1) := by decide +kernel
theorem dX5_child_68 : decode cX5_child 68 = .ok (.iaload, 1) := by decide +kernel
theorem dX5_child_69 : decode cX5_child 69 = .ok (.iadd, 1) := by decide +kernel
theorem dX5_child_70 : decode cX5_child 70 = .ok (.caload, 1) := by decide +kernel
theorem dX5_child_71 : decode cX5_child 71 = .ok (.iload_n 2, 1) := by decide +kernel
theorem dX5_child_72 : decode cX5_child 72 = .ok (.if_icmp .ne 8, 3) := by decide +kernel
theorem dX5_child_75 : decode cX5_child 75 = .ok (.iload 4, 2) := by decide +kernel
theorem dX5_child_77 : decode cX5_child 77 = .ok (.goto 4, 3) := by decide +kernel
theorem dX5_child_80 : decode cX5_child 80 = .ok (.iload_n 3, 1) := by decide +kernel
theorem dX5_child_81 : decode cX5_child 81 = .ok (.istore_n 3, 1) := by decide +kernel
theorem dX5_child_82 : decode cX5_child 82 = .ok (.iinc 4 1, 3) := by decide +kernel
theorem dX5_child_85 : decode cX5_child 85 = .ok (.goto (-80), 3) := by decide +kernel
theorem dX5_child_88 : decode cX5_child 88 = .ok (.iload_n 3, 1) := by decide +kernel
theorem dX5_child_89 : decode cX5_child 89 = .ok (.ireturn, 1) := by decide +kernel
theorem dX5_canMove_0 : decode cX5_canMove 0 = .ok (.aload_n 0, 1) := by decide +kernel
theorem dX5_canMove_1 : decode cX5_canMove 1 = .ok (.aload_n 0, 1) := by decide +kernel
theorem dX5_canMove_2 : decode cX5_canMove 2 = .ok (.getfield 64, 3) := by decide +kernel
theorem dX5_canMove_5 : decode cX5_canMove 5 = .ok (.invokevirtual 75, 3) := by decide +kernel
theorem dX5_canMove_8 : decode cX5_canMove 8 = .ok (.istore_n 2, 1) := by decide +kernel
theorem dX5_canMove_9 : decode cX5_canMove 9 = .ok (.iload_n 1, 1) := by decide +kernel
theorem dX5_canMove_10 : decode cX5_canMove 10 = .ok (.ifCond .eq 17, 3) := by decide +kernel
theorem dX5_canMove_13 : decode cX5_canMove 13 = .ok (.iload_n 2, 1) := by decide +kernel
theorem dX5_canMove_14 : decode cX5_canMove 14 = .ok (.iconst (-1), 1) := by decide +kernel
theorem dX5_canMove_15 : decode cX5_canMove 15 = .ok (.if_icmp .eq 12, 3) := by decide +kernel
theorem dX5_canMove_18 : decode cX5_canMove 18 = .ok (.aload_n 0, 1) := by decide +kernel
theorem dX5_canMove_19 : decode cX5_canMove 19 = .ok (.iload_n 2, 1) := by decide +kernel
theorem dX5_canMove_20 : decode cX5_canMove 20 = .ok (.iload_n 1, 1) := by decide +kernel
theorem dX5_canMove_21 : decode cX5_canMove 21 = .ok (.invokevirtual 82, 3) := by decide +kernel
theorem dX5_canMove_24 : decode cX5_canMove 24 = .ok (.ifCond .eq 5, 3) := by decide +kernel
theorem dX5_canMove_27 : decode cX5_canMove 27 = .ok (.iconst 0, 1) := by decide +kernel
theorem dX5_canMove_28 : decode cX5_canMove 28 = .ok (.ireturn, 1) := by decide +kernel
theorem dX5_canMove_29 : decode cX5_canMove 29 = .ok (.aload_n 0, 1) := by decide +kernel
theorem dX5_canMove_30 : decode cX5_canMove 30 = .ok (.getfield 23, 3) := by decide +kernel
theorem dX5_canMove_33 : decode cX5_canMove 33 = .ok (.iload_n 2, 1) := by decide +kernel
theorem dX5_canMove_34 : decode cX5_canMove 34 = .ok (.iaload, 1) := by decide +kernel
theorem dX5_canMove_35 : decode cX5_canMove 35 = .ok (.iconst 1, 1) := by decide +kernel
theorem dX5_canMove_36 : decode cX5_canMove 36 = .ok (.iadd, 1) := by decide +kernel
theorem dX5_canMove_37 : decode cX5_canMove 37 = .ok (.aload_n 0, 1) := by decide +kernel
theorem dX5_canMove_38 : decode cX5_canMove 38 = .ok (.getfield 23, 3) := by decide +kernel
theorem dX5_canMove_41 : decode cX5_canMove 41 = .ok (.iload_n 1, 1) := by decide +kernel
theorem dX5_canMove_42 : decode cX5_canMove 42 = .ok (.iaload, 1) := by decide +kernel
theorem dX5_canMove_43 : decode cX5_canMove 43 = .ok (.isub, 1) := by decide +kernel
theorem dX5_canMove_44 : decode cX5_canMove 44 = .ok (.istore_n 3, 1) := by decide +kernel
theorem dX5_canMove_45 : decode cX5_canMove 45 = .ok (.aload_n 0, 1) := by decide +kernel
theorem dX5_canMove_46 : decode cX5_canMove 46 = .ok (.iload_n 2, 1) := by decide +kernel
theorem dX5_canMove_47 : decode cX5_canMove 47 = .ok (.aload_n 0, 1) := by decide +kernel
theorem dX5_canMove_48 : decode cX5_canMove 48 = .ok (.getfield 20, 3) := by decide +kernel
theorem dX5_canMove_51 : decode cX5_canMove 51 = .ok (.bipush 8, 2) := by decide +kernel
theorem dX5_canMove_53 : decode cX5_canMove 53 = .ok (.iload_n 1, 1) := by decide +kernel
theorem dX5_canMove_54 : decode cX5_canMove 54 = .ok (.imul, 1) := by decide +kernel
theorem dX5_canMove_55 : decode cX5_canMove 55 = .ok (.aload_n 0, 1) := by decide +kernel
theorem dX5_canMove_56 : decode cX5_canMove 56 = .ok (.getfield 23, 3) := by decide +kernel
theorem dX5_canMove_59 : decode cX5_canMove 59 = .ok (.iload_n 1, 1) := by decide +kernel
theorem dX5_canMove_60 : decode cX5_canMove 60 = .ok (.iaload, 1) := by decide +kernel
theorem dX5_canMove_61 : decode cX5_canMove 61 = .ok (.iadd, 1) := by decide +kernel
theorem dX5_canMove_62 : decode cX5_canMove 62 = .ok (.iconst 1, 1) := by decide +kernel
theorem dX5_canMove_63 : decode cX5_canMove 63 = .ok (.isub, 1) := by decide +kernel
theorem dX5_canMove_64 : decode cX5_canMove 64 = .ok (.caload, 1) := by decide +kernel
theorem dX5_canMove_65 : decode cX5_canMove 65 = .ok (.invokevirtual 86, 3) := by decide +kernel
theorem dX5_canMove_68 : decode cX5_canMove 68 = .ok (.istore 4, 2) := by decide +kernel
theorem dX5_canMove_70 : decode cX5_canMove 70 = .ok (.aload_n 0, 1) := by decide +kernel
theorem dX5_canMove_71 : decode cX5_canMove 71 = .ok (.iload_n 1, 1) := by decide +kernel
theorem dX5_canMove_72 : decode cX5_canMove 72 = .ok (.invokevirtual 90, 3) := by decide +kernel
theorem dX5_canMove_75 : decode cX5_canMove 75 = .ok (.iload_n 3, 1) := by decide +kernel
theorem dX5_canMove_76 : decode cX5_canMove 76 = .ok (.iadd, 1) := by decide +kernel
theorem dX5_canMove_77 : decode cX5_canMove 77 = .ok (.bipush 8, 2) := by decide +kernel
theorem dX5_canMove_79 : decode cX5_canMove 79 = .ok (.if_icmp .gt 19, 3) := by decide +kernel
theorem dX5_canMove_82 : decode cX5_canMove 82 = .ok (.iload 4, 2) := by decide +kernel
theorem dX5_canMove_84 : decode cX5_canMove 84 = .ok (.iconst (-1), 1) := by decide +kernel
theorem dX5_canMove_85 : decode cX5_canMove 85 = .ok (.if_icmp .eq 9, 3) := by decide +kernel
theorem dX5_canMove_88 : decode cX5_canMove 88 = .ok (.iload 4, 2) := by decide +kernel
theorem dX5_canMove_90 : decode cX5_canMove 90 = .ok (.iload_n 1, 1) := by decide +kernel
theorem dX5_canMove_91 : decode cX5_canMove 91 = .ok (.if_icmp .ne 7, 3) := by decide +kernel
theorem dX5_canMove_94 : decode cX5_canMove 94 = .ok (.iconst 1, 1) := by decide +kernel
theorem dX5_canMove_95 : decode cX5_canMove 95 = .ok (.goto 4, 3) := by decide +kernel
theorem dX5_canMove_98 : decode cX5_canMove 98 = .ok (.iconst 0, 1) := by decide +kernel
theorem dX5_canMove_99 : decode cX5_canMove 99 = .ok (.ireturn, 1) := by decide +kernel
theorem dX5_moveProject_0 : decode cX5_moveProject 0 = .ok (.aload_n 0, 1) := by decide +kernel
theorem dX5_moveProject_1 : decode cX5_moveProject 1 = .ok (.aload_n 0, 1) := by decide +kernel
theorem dX5_moveProject_2 : decode cX5_moveProject 2 = .ok (.iload_n 1, 1) := by decide +kernel
theorem dX5_moveProject_3 : decode cX5_moveProject 3 = .ok (.invokevirtual 93, 3) := by decide +kernel
theorem dX5_moveProject_6 : decode cX5_moveProject 6 = .ok (.ifCond .ne 7, 3) := by decide +kernel
theorem dX5_moveProject_9 : decode cX5_moveProject 9 = .ok (.iconst 1, 1) := by decide +kernel
theorem dX5_moveProject_10 : decode cX5_moveProject 10 = .ok (.goto 16, 3) := by decide +kernel
theorem dX5_moveProject_13 : decode cX5_moveProject 13 = .ok (.aload_n 0, 1) := by decide +kernel
theorem dX5_moveProject_14 : decode cX5_moveProject 14 = .ok (.iload_n 1, 1) := by decide +kernel
theorem dX5_moveProject_15 : decode cX5_moveProject 15 = .ok (.invokevirtual 96, 3) := by decide +kernel
theorem dX5_moveProject_18 : decode cX5_moveProject 18 = .ok (.ifCond .eq 7, 3) := by decide +kernel
theorem dX5_moveProject_21 : decode cX5_moveProject 21 = .ok (.iconst 0, 1) := by decide +kernel
theorem dX5_moveProject_22 : decode cX5_moveProject 22 = .ok (.goto 4, 3) := by decide +kernel
theorem dX5_moveProject_25 : decode cX5_moveProject 25 = .ok (.iconst 2, 1) := by decide +kernel
theorem dX5_moveProject_26 : decode cX5_moveProject 26 = .ok (.invokevirtual 67, 3) := by decide +kernel
theorem dX5_moveProject_29 : decode cX5_moveProject 29 = .ok (.ifCond .eq 5, 3) := by decide +kernel
theorem dX5_moveProject_32 : decode cX5_moveProject 32 = .ok (.iconst 0, 1) := by decide +kernel
theorem dX5_moveProject_33 : decode cX5_moveProject 33 = .ok (.ireturn, 1) := by decide +kernel
theorem dX5_moveProject_34 : decode cX5_moveProject 34 = .ok (.aload_n 0, 1) := by decide +kernel
theorem dX5_moveProject_35 : decode cX5_moveProject 35 = .ok (.getfield 23, 3) := by decide +kernel
theorem dX5_moveProject_38 : decode cX5_moveProject 38 = .ok (.iload_n 1, 1) := by decide +kernel
theorem dX5_moveProject_39 : decode cX5_moveProject 39 = .ok (.iaload, 1) := by decide +kernel
theorem dX5_moveProject_40 : decode cX5_moveProject 40 = .ok (.iconst 1, 1) := by decide +kernel
theorem dX5_moveProject_41 : decode cX5_moveProject 41 = .ok (.isub, 1) := by decide +kernel
theorem dX5_moveProject_42 : decode cX5_moveProject 42 = .ok (.istore_n 2, 1) := by decide +kernel
theorem dX5_moveProject_43 : decode cX5_moveProject 43 = .ok (.aload_n 0, 1) := by decide +kernel
theorem dX5_moveProject_44 : decode cX5_moveProject 44 = .ok (.aload_n 0, 1) := by decide +kernel
theorem dX5_moveProject_45 : decode cX5_moveProject 45 = .ok (.aload_n 0, 1) := by decide +kernel
theorem dX5_moveProject_46 : decode cX5_moveProject 46 = .ok (.getfield 64, 3) := by decide +kernel
theorem dX5_moveProject_49 : decode cX5_moveProject 49 = .ok (.invokevirtual 75, 3) := by decide +kernel
theorem dX5_moveProject_52 : decode cX5_moveProject 52 = .ok (.aload_n 0, 1) := by decide +kernel
theorem dX5_moveProject_53 : decode cX5_moveProject 53 = .ok (.getfield 20, 3) := by decide +kernel
theorem dX5_moveProject_56 : decode cX5_moveProject 56 = .ok (.bipush 8, 2) := by decide +kernel
theorem dX5_moveProject_58 : decode cX5_moveProject 58 = .ok (.iload_n 1, 1) := by decide +kernel
theorem dX5_moveProject_59 : decode cX5_moveProject 59 = .ok (.imul, 1) := by decide +kernel
theorem dX5_moveProject_60 : decode cX5_moveProject 60 = .ok (.iload_n 2, 1) := by decide +kernel
theorem dX5_moveProject_61 : decode cX5_moveProject 61 = .ok (.iadd, 1) := by decide +kernel
theorem dX5_moveProject_62 : decode cX5_moveProject 62 = .ok (.caload, 1) := by decide +kernel
theorem dX5_moveProject_63 : decode cX5_moveProject 63 = .ok (.invokevirtual 86, 3) := by decide +kernel
theorem dX5_moveProject_66 : decode cX5_moveProject 66 = .ok (.iload_n 1, 1) := by decide +kernel
theorem dX5_moveProject_67 : decode cX5_moveProject 67 = .ok (.if_icmp .ne 7, 3) := by decide +kernel
theorem dX5_moveProject_70 : decode cX5_moveProject 70 = .ok (.iconst 1, 1) := by decide +kernel
theorem dX5_moveProject_71 : decode cX5_moveProject 71 = .ok (.goto 4, 3) := by decide +kernel
theorem dX5_moveProject_74 : decode cX5_moveProject 74 = .ok (.iconst 0, 1) := by decide +kernel
theorem dX5_moveProject_75 : decode cX5_moveProject 75 = .ok (.istore_n 3, 1) := by decide +kernel
theorem dX5_moveProject_76 : decode cX5_moveProject 76 = .ok (.iconst 0, 1) := by decide +kernel
theorem dX5_moveProject_77 : decode cX5_moveProject 77 = .ok (.istore 4, 2) := by decide +kernel
theorem dX5_moveProject_79 : decode cX5_moveProject 79 = .ok (.iconst 0, 1) := by decide +kernel
theorem dX5_moveProject_80 : decode cX5_moveProject 80 = .ok (.istore 5, 2) := by decide +kernel
theorem dX5_moveProject_82 : decode cX5_moveProject 82 = .ok (.iconst 0, 1) := by decide +kernel
theorem dX5_moveProject_83 : decode cX5_moveProject 83 = .ok (.istore 6, 2) := by decide +kernel
theorem dX5_moveProject_85 : decode cX5_moveProject 85 = .ok (.iload 6, 2) := by decide +kernel
theorem dX5_moveProject_87 : decode cX5_moveProject 87 = .ok (.aload_n 0, 1) := by decide +kernel
theorem dX5_moveProject_88 : decode cX5_moveProject 88 = .ok (.getfield 16, 3) := by decide +kernel
theorem dX5_moveProject_91 : decode cX5_moveProject 91 = .ok (.if_icmp .ge 32, 3) := by decide +kernel
theorem dX5_moveProject_94 : decode cX5_moveProject 94 = .ok (.iload 5, 2) := by decide +kernel
theorem dX5_moveProject_96 : decode cX5_moveProject 96 = .ok (.aload_n 0, 1) := by decide +kernel
theorem dX5_moveProject_97 : decode cX5_moveProject 97 = .ok (.iload 6, 2) := by decide +kernel
theorem dX5_moveProject_99 : decode cX5_moveProject 99 = .ok (.iload_n 1, 1) := by decide +kernel
theorem dX5_moveProject_100 : decode cX5_moveProject 100 = .ok (.invokevirtual 82, 3) := by decide +kernel
theorem dX5_moveProject_103 : decode cX5_moveProject 103 = .ok (.ifCond .eq 10, 3) := by decide +kernel
theorem dX5_moveProject_106 : decode cX5_moveProject 106 = .ok (.iconst 1, 1) := by decide +kernel
theorem dX5_moveProject_107 : decode cX5_moveProject 107 = .ok (.iload 6, 2) := by decide +kernel
theorem dX5_moveProject_109 : decode cX5_moveProject 109 = .ok (.ishl, 1) := by decide +kernel
theorem dX5_moveProject_110 : decode cX5_moveProject 110 = .ok (.goto 4, 3) := by decide +kernel
theorem dX5_moveProject_113 : decode cX5_moveProject 113 = .ok (.iconst 0, 1) := by decide +kernel
theorem dX5_moveProject_114 : decode cX5_moveProject 114 = .ok (.ior, 1) := by decide +kernel
theorem dX5_moveProject_115 : decode cX5_moveProject 115 = .ok (.istore 5, 2) := by decide +kernel
theorem dX5_moveProject_117 : decode cX5_moveProject 117 = .ok (.iinc 6 1, 3) := by decide +kernel
theorem dX5_moveProject_120 : decode cX5_moveProject 120 = .ok (.goto (-35), 3) := by decide +kernel
theorem dX5_moveProject_123 : decode cX5_moveProject 123 = .ok (.iconst 0, 1) := by decide +kernel
theorem dX5_moveProject_124 : decode cX5_moveProject 124 = .ok (.istore 6, 2) := by decide +kernel
theorem dX5_moveProject_126 : decode cX5_moveProject 126 = .ok (.iload 6, 2) := by decide +kernel
theorem dX5_moveProject_128 : decode cX5_moveProject 128 = .ok (.aload_n 0, 1) := by decide +kernel
theorem dX5_moveProject_129 : decode cX5_moveProject 129 = .ok (.getfield 16, 3) := by decide +kernel
theorem dX5_moveProject_132 : decode cX5_moveProject 132 = .ok (.if_icmp .ge 34, 3) := by decide +kernel
theorem dX5_moveProject_135 : decode cX5_moveProject 135 = .ok (.iload_n 3, 1) := by decide +kernel
theorem dX5_moveProject_136 : decode cX5_moveProject 136 = .ok (.ifCond .ne 30, 3) := by decide +kernel
theorem dX5_moveProject_139 : decode cX5_moveProject 139 = .ok (.iload 5, 2) := by decide +kernel
theorem dX5_moveProject_141 : decode cX5_moveProject 141 = .ok (.iload 6, 2) := by decide +kernel
theorem dX5_moveProject_143 : decode cX5_moveProject 143 = .ok (.ishr, 1) := by decide +kernel
theorem dX5_moveProject_144 : decode cX5_moveProject 144 = .ok (.iconst 1, 1) := by decide +kernel
theorem dX5_moveProject_145 : decode cX5_moveProject 145 = .ok (.iand, 1) := by decide +kernel
theorem dX5_moveProject_146 : decode cX5_moveProject 146 = .ok (.iconst 1, 1) := by decide +kernel
theorem dX5_moveProject_147 : decode cX5_moveProject 147 = .ok (.if_icmp .ne 13, 3) := by decide +kernel
theorem dX5_moveProject_150 : decode cX5_moveProject 150 = .ok (.aload_n 0, 1) := by decide +kernel
theorem dX5_moveProject_151 : decode cX5_moveProject 151 = .ok (.iload 6, 2) := by decide +kernel
theorem dX5_moveProject_153 : decode cX5_moveProject 153 = .ok (.iload_n 2, 1) := by decide +kernel
theorem dX5_moveProject_154 : decode cX5_moveProject 154 = .ok (.invokevirtual 99, 3) := by decide +kernel
theorem dX5_moveProject_157 : decode cX5_moveProject 157 = .ok (.iinc 4 1, 3) := by decide +kernel
theorem dX5_moveProject_160 : decode cX5_moveProject 160 = .ok (.iinc 6 1, 3) := by decide +kernel
theorem dX5_moveProject_163 : decode cX5_moveProject 163 = .ok (.goto (-37), 3) := by decide +kernel
theorem dX5_moveProject_166 : decode cX5_moveProject 166 = .ok (.aload_n 0, 1) := by decide +kernel
theorem dX5_moveProject_167 : decode cX5_moveProject 167 = .ok (.invokevirtual 103, 3) := by decide +kernel
theorem dX5_moveProject_170 : decode cX5_moveProject 170 = .ok (.iload 4, 2) := by decide +kernel
theorem dX5_moveProject_172 : decode cX5_moveProject 172 = .ok (.ireturn, 1) := by decide +kernel
theorem dX5_lead_0 : decode cX5_lead 0 = .ok (.iconst 0, 1) := by decide +kernel
theorem dX5_lead_1 : decode cX5_lead 1 = .ok (.istore_n 3, 1) := by decide +kernel
theorem dX5_lead_2 : decode cX5_lead 2 = .ok (.iload_n 3, 1) := by decide +kernel
theorem dX5_lead_3 : decode cX5_lead 3 = .ok (.aload_n 0, 1) := by decide +kernel
theorem dX5_lead_4 : decode cX5_lead 4 = .ok (.getfield 23, 3) := by decide +kernel
theorem dX5_lead_7 : decode cX5_lead 7 = .ok (.iload_n 1, 1) := by decide +kernel
theorem dX5_lead_8 : decode cX5_lead 8 = .ok (.iaload, 1) := by decide +kernel
theorem dX5_lead_9 : decode cX5_lead 9 = .ok (.if_icmp .ge 26, 3) := by decide +kernel
theorem dX5_lead_12 : decode cX5_lead 12 = .ok (.aload_n 0, 1) := by decide +kernel
theorem dX5_lead_13 : decode cX5_lead 13 = .ok (.getfield 13, 3) := by decide +kernel
theorem dX5_lead_16 : decode cX5_lead 16 = .ok (.iload_n 3, 1) := by decide +kernel
theorem dX5_lead_17 : decode cX5_lead 17 = .ok (.aload_n 0, 1) := by decide +kernel
theorem dX5_lead_18 : decode cX5_lead 18 = .ok (.getfield 20, 3) := by decide +kernel
theorem dX5_lead_21 : decode cX5_lead 21 = .ok (.bipush 8, 2) := by decide +kernel
theorem dX5_lead_23 : decode cX5_lead 23 = .ok (.iload_n 1, 1) := by decide +kernel
theorem dX5_lead_24 : decode cX5_lead 24 = .ok (.imul, 1) := by decide +kernel
theorem dX5_lead_25 : decode cX5_lead 25 = .ok (.iload_n 3, 1) := by decide +kernel
theorem dX5_lead_26 : decode cX5_lead 26 = .ok (.iadd, 1) := by decide +kernel
theorem dX5_lead_27 : decode cX5_lead 27 = .ok (.caload, 1) := by decide +kernel
theorem dX5_lead_28 : decode cX5_lead 28 = .ok (.castore, 1) := by decide +kernel
theorem dX5_lead_29 : decode cX5_lead 29 = .ok (.iinc 3 1, 3) := by decide +kernel
theorem dX5_lead_32 : decode cX5_lead 32 = .ok (.goto (-30), 3) := by decide +kernel
theorem dX5_lead_35 : decode cX5_lead 35 = .ok (.aload_n 0, 1) := by decide +kernel
theorem dX5_lead_36 : decode cX5_lead 36 = .ok (.getfield 23, 3) := by decide +kernel
theorem dX5_lead_39 : decode cX5_lead 39 = .ok (.iload_n 1, 1) := by decide +kernel
theorem dX5_lead_40 : decode cX5_lead 40 = .ok (.iaload, 1) := by decide +kernel
theorem dX5_lead_41 : decode cX5_lead 41 = .ok (.iload_n 2, 1) := by decide +kernel
theorem dX5_lead_42 : decode cX5_lead 42 = .ok (.isub, 1) := by decide +kernel
theorem dX5_lead_43 : decode cX5_lead 43 = .ok (.aload_n 0, 1) := by decide +kernel
theorem dX5_lead_44 : decode cX5_lead 44 = .ok (.getfield 64, 3) := by decide +kernel
theorem dX5_lead_47 : decode cX5_lead 47 = .ok (.iadd, 1) := by decide +kernel
theorem dX5_lead_48 : decode cX5_lead 48 = .ok (.istore_n 3, 1) := by decide +kernel
theorem dX5_lead_49 : decode cX5_lead 49 = .ok (.iconst 0, 1) := by decide +kernel
theorem dX5_lead_50 : decode cX5_lead 50 = .ok (.istore 4, 2) := by decide +kernel
theorem dX5_lead_52 : decode cX5_lead 52 = .ok (.iload 4, 2) := by decide +kernel
theorem dX5_lead_54 : decode cX5_lead 54 = .ok (.iload_n 3, 1) := by decide +kernel
theorem dX5_lead_55 : decode cX5_lead 55 = .ok (.if_icmp .ge 54, 3) := by decide +kernel
theorem dX5_lead_58 : decode cX5_lead 58 = .ok (.aload_n 0, 1) := by decide +kernel
theorem dX5_lead_59 : decode cX5_lead 59 = .ok (.getfield 20, 3) := by decide +kernel
theorem dX5_lead_62 : decode cX5_lead 62 = .ok (.bipush 8, 2) := by decide +kernel
theorem dX5_lead_64 : decode cX5_lead 64 = .ok (.iload_n 1, 1) := by decide +kernel
theorem dX5_lead_65 : decode cX5_lead 65 = .ok (.imul, 1) := by decide +kernel
theorem dX5_lead_66 : decode cX5_lead 66 = .ok (.iload 4, 2) := by decide +kernel
theorem dX5_lead_68 : decode cX5_lead 68 = .ok (.iadd, 1) := by decide +kernel
theorem dX5_lead_69 : decode cX5_lead 69 = .ok (.iload 4, 2) := by decide +kernel
theorem dX5_lead_71 : decode cX5_lead 71 = .ok (.aload_n 0, 1) := by decide +kernel
theorem dX5_lead_72 : decode cX5_lead 72 = .ok (.getfield 64, 3) := by decide +kernel
theorem dX5_lead_75 : decode cX5_lead 75 = .ok (.if_icmp .ge 13, 3) := by decide +kernel
theorem dX5_lead_78 : decode cX5_lead 78 = .ok (.aload_n 0, 1) := by decide +kernel
theorem dX5_lead_79 : decode cX5_lead 79 = .ok (.getfield 7, 3) := by decide +kernel
theorem dX5_lead_82 : decode cX5_lead 82 = .ok (.iload 4, 2) := by decide +kernel
theorem dX5_lead_84 : decode cX5_lead 84 = .ok (.caload, 1) := by decide +kernel
theorem dX5_lead_85 : decode cX5_lead 85 = .ok (.goto 17, 3) := by decide +kernel
theorem dX5_lead_88 : decode cX5_lead 88 = .ok (.aload_n 0, 1) := by decide +kernel
theorem dX5_lead_89 : decode cX5_lead 89 = .ok (.getfield 13, 3) := by decide +kernel
theorem dX5_lead_92 : decode cX5_lead 92 = .ok (.iload 4, 2) := by decide +kernel
theorem dX5_lead_94 : decode cX5_lead 94 = .ok (.aload_n 0, 1) := by decide +kernel
theorem dX5_lead_95 : decode cX5_lead 95 = .ok (.getfield 64, 3) := by decide +kernel
theorem dX5_lead_98 : decode cX5_lead 98 = .ok (.isub, 1) := by decide +kernel
theorem dX5_lead_99 : decode cX5_lead 99 = .ok (.iload_n 2, 1) := by decide +kernel
theorem dX5_lead_100 : decode cX5_lead 100 = .ok (.iadd, 1) := by decide +kernel
theorem dX5_lead_101 : decode cX5_lead 101 = .ok (.caload, 1) := by decide +kernel
theorem dX5_lead_102 : decode cX5_lead 102 = .ok (.castore, 1) := by decide +kernel
theorem dX5_lead_103 : decode cX5_lead 103 = .ok (.iinc 4 1, 3) := by decide +kernel
theorem dX5_lead_106 : decode cX5_lead 106 = .ok (.goto (-54), 3) := by decide +kernel
theorem dX5_lead_109 : decode cX5_lead 109 = .ok (.aload_n 0, 1) := by decide +kernel
theorem dX5_lead_110 : decode cX5_lead 110 = .ok (.getfield 23, 3) := by decide +kernel
theorem dX5_lead_113 : decode cX5_lead 113 = .ok (.iload_n 1, 1) := by decide +kernel
theorem dX5_lead_114 : decode cX5_lead 114 = .ok (.iload_n 3, 1) := by decide +kernel
theorem dX5_lead_115 : decode cX5_lead 115 = .ok (.iastore, 1) := by decide +kernel
theorem dX5_lead_116 : decode cX5_lead 116 = .ok (.return_, 1) := by decide +kernel
theorem dX5_letterAt_0 : decode cX5_letterAt 0 = .ok (.aload_n 0, 1) := by decide +kernel
theorem dX5_letterAt_1 : decode cX5_letterAt 1 = .ok (.aload_n 0, 1) := by decide +kernel
theorem dX5_letterAt_2 : decode cX5_letterAt 2 = .ok (.iload_n 1, 1) := by decide +kernel
theorem dX5_letterAt_3 : decode cX5_letterAt 3 = .ok (.invokevirtual 93, 3) := by decide +kernel
theorem dX5_letterAt_6 : decode cX5_letterAt 6 = .ok (.ifCond .eq 11, 3) := by decide +kernel
theorem dX5_letterAt_9 : decode cX5_letterAt 9 = .ok (.iload_n 2, 1) := by decide +kernel
theorem dX5_letterAt_10 : decode cX5_letterAt 10 = .ok (.ifCond .lt 7, 3) := by decide +kernel
theorem dX5_letterAt_13 : decode cX5_letterAt 13 = .ok (.iconst 0, 1) := by decide +kernel
theorem dX5_letterAt_14 : decode cX5_letterAt 14 = .ok (.goto 4, 3) := by decide +kernel
theorem dX5_letterAt_17 : decode cX5_letterAt 17 = .ok (.iconst 1, 1) := by decide +kernel
theorem dX5_letterAt_18 : decode cX5_letterAt 18 = .ok (.invokevirtual 67, 3) := by decide +kernel
theorem dX5_letterAt_21 : decode cX5_letterAt 21 = .ok (.ifCond .eq 6, 3) := by decide +kernel
theorem dX5_letterAt_24 : decode cX5_letterAt 24 = .ok (.bipush 32, 2) := by decide +kernel
theorem dX5_letterAt_26 : decode cX5_letterAt 26 = .ok (.ireturn, 1) := by decide +kernel
theorem dX5_letterAt_27 : decode cX5_letterAt 27 = .ok (.iload_n 2, 1) := by decide +kernel
theorem dX5_letterAt_28 : decode cX5_letterAt 28 = .ok (.aload_n 0, 1) := by decide +kernel
theorem dX5_letterAt_29 : decode cX5_letterAt 29 = .ok (.getfield 23, 3) := by decide +kernel
theorem dX5_letterAt_32 : decode cX5_letterAt 32 = .ok (.iload_n 1, 1) := by decide +kernel
theorem dX5_letterAt_33 : decode cX5_letterAt 33 = .ok (.iaload, 1) := by decide +kernel
theorem dX5_letterAt_34 : decode cX5_letterAt 34 = .ok (.if_icmp .ge 17, 3) := by decide +kernel
theorem dX5_letterAt_37 : decode cX5_letterAt 37 = .ok (.aload_n 0, 1) := by decide +kernel
theorem dX5_letterAt_38 : decode cX5_letterAt 38 = .ok (.getfield 20, 3) := by decide +kernel
theorem dX5_letterAt_41 : decode cX5_letterAt 41 = .ok (.bipush 8, 2) := by decide +kernel
theorem dX5_letterAt_43 : decode cX5_letterAt 43 = .ok (.iload_n 1, 1) := by decide +kernel
theorem dX5_letterAt_44 : decode cX5_letterAt 44 = .ok (.imul, 1) := by decide +kernel
theorem dX5_letterAt_45 : decode cX5_letterAt 45 = .ok (.iload_n 2, 1) := by decide +kernel
theorem dX5_letterAt_46 : decode cX5_letterAt 46 = .ok (.iadd, 1) := by decide +kernel
theorem dX5_letterAt_47 : decode cX5_letterAt 47 = .ok (.caload, 1) := by decide +kernel
theorem dX5_letterAt_48 : decode cX5_letterAt 48 = .ok (.goto 5, 3) := by decide +kernel
theorem dX5_letterAt_51 : decode cX5_letterAt 51 = .ok (.bipush 32, 2) := by decide +kernel
theorem dX5_letterAt_53 : decode cX5_letterAt 53 = .ok (.ireturn, 1) := by decide +kernel
theorem dX5_projects_0 : decode cX5_projects 0 = .ok (.aload_n 0, 1) := by decide +kernel
theorem dX5_projects_1 : decode cX5_projects 1 = .ok (.aload_n 0, 1) := by decide +kernel
theorem dX5_projects_2 : decode cX5_projects 2 = .ok (.getfield 16, 3) := by decide +kernel
theorem dX5_projects_5 : decode cX5_projects 5 = .ok (.invokevirtual 71, 3) := by decide +kernel
theorem dX5_projects_8 : decode cX5_projects 8 = .ok (.ireturn, 1) := by decide +kernel
theorem dX5_accountOf_0 : decode cX5_accountOf 0 = .ok (.iload_n 1, 1) := by decide +kernel
theorem dX5_accountOf_1 : decode cX5_accountOf 1 = .ok (.ifCond .ne 18, 3) := by decide +kernel
theorem dX5_accountOf_4 : decode cX5_accountOf 4 = .ok (.iload_n 2, 1) := by decide +kernel
theorem dX5_accountOf_5 : decode cX5_accountOf 5 = .ok (.iconst 0, 1) := by decide +kernel
theorem dX5_accountOf_6 : decode cX5_accountOf 6 = .ok (.iconst 5, 1) := by decide +kernel
theorem dX5_accountOf_7 : decode cX5_accountOf 7 = .ok (.invokestatic 78, 3) := by decide +kernel
theorem dX5_accountOf_10 : decode cX5_accountOf 10 = .ok (.ifCond .eq 7, 3) := by decide +kernel
theorem dX5_accountOf_13 : decode cX5_accountOf 13 = .ok (.iload_n 2, 1) := by decide +kernel
theorem dX5_accountOf_14 : decode cX5_accountOf 14 = .ok (.goto 4, 3) := by decide +kernel
theorem dX5_accountOf_17 : decode cX5_accountOf 17 = .ok (.iconst (-1), 1) := by decide +kernel
theorem dX5_accountOf_18 : decode cX5_accountOf 18 = .ok (.ireturn, 1) := by decide +kernel
theorem dX5_accountOf_19 : decode cX5_accountOf 19 = .ok (.iload_n 1, 1) := by decide +kernel
theorem dX5_accountOf_20 : decode cX5_accountOf 20 = .ok (.iconst 1, 1) := by decide +kernel
theorem dX5_accountOf_21 : decode cX5_accountOf 21 = .ok (.if_icmp .ne 21, 3) := by decide +kernel
theorem dX5_accountOf_24 : decode cX5_accountOf 24 = .ok (.iload_n 2, 1) := by decide +kernel
theorem dX5_accountOf_25 : decode cX5_accountOf 25 = .ok (.iconst 0, 1) := by decide +kernel
theorem dX5_accountOf_26 : decode cX5_accountOf 26 = .ok (.iconst 2, 1) := by decide +kernel
theorem dX5_accountOf_27 : decode cX5_accountOf 27 = .ok (.invokestatic 78, 3) := by decide +kernel
theorem dX5_accountOf_30 : decode cX5_accountOf 30 = .ok (.ifCond .eq 10, 3) := by decide +kernel
theorem dX5_accountOf_33 : decode cX5_accountOf 33 = .ok (.bipush 6, 2) := by decide +kernel
theorem dX5_accountOf_35 : decode cX5_accountOf 35 = .ok (.iload_n 2, 1) := by decide +kernel
theorem dX5_accountOf_36 : decode cX5_accountOf 36 = .ok (.iadd, 1) := by decide +kernel
theorem dX5_accountOf_37 : decode cX5_accountOf 37 = .ok (.goto 4, 3) := by decide +kernel
theorem dX5_accountOf_40 : decode cX5_accountOf 40 = .ok (.iconst (-1), 1) := by decide +kernel
theorem dX5_accountOf_41 : decode cX5_accountOf 41 = .ok (.ireturn, 1) := by decide +kernel
theorem dX5_accountOf_42 : decode cX5_accountOf 42 = .ok (.iload_n 1, 1) := by decide +kernel
theorem dX5_accountOf_43 : decode cX5_accountOf 43 = .ok (.iconst 2, 1) := by decide +kernel
theorem dX5_accountOf_44 : decode cX5_accountOf 44 = .ok (.if_icmp .ne 18, 3) := by decide +kernel
theorem dX5_accountOf_47 : decode cX5_accountOf 47 = .ok (.aload_n 0, 1) := by decide +kernel
theorem dX5_accountOf_48 : decode cX5_accountOf 48 = .ok (.iload_n 2, 1) := by decide +kernel
theorem dX5_accountOf_49 : decode cX5_accountOf 49 = .ok (.invokevirtual 93, 3) := by decide +kernel
theorem dX5_accountOf_52 : decode cX5_accountOf 52 = .ok (.ifCond .eq 10, 3) := by decide +kernel
theorem dX5_accountOf_55 : decode cX5_accountOf 55 = .ok (.bipush 9, 2) := by decide +kernel
theorem dX5_accountOf_57 : decode cX5_accountOf 57 = .ok (.iload_n 2, 1) := by decide +kernel
theorem dX5_accountOf_58 : decode cX5_accountOf 58 = .ok (.iadd, 1) := by decide +kernel
theorem dX5_accountOf_59 : decode cX5_accountOf 59 = .ok (.goto 4, 3) := by decide +kernel
theorem dX5_accountOf_62 : decode cX5_accountOf 62 = .ok (.iconst (-1), 1) := by decide +kernel
theorem dX5_accountOf_63 : decode cX5_accountOf 63 = .ok (.ireturn, 1) := by decide +kernel
theorem dX5_counts_0 : decode cX5_counts 0 = .ok (.aload_n 0, 1) := by decide +kernel
theorem dX5_counts_1 : decode cX5_counts 1 = .ok (.getfield 27, 3) := by decide +kernel
theorem dX5_counts_4 : decode cX5_counts 4 = .ok (.iload_n 1, 1) := by decide +kernel
theorem dX5_counts_5 : decode cX5_counts 5 = .ok (.iaload, 1) := by decide +kernel
theorem dX5_counts_6 : decode cX5_counts 6 = .ok (.istore_n 3, 1) := by decide +kernel
theorem dX5_counts_7 : decode cX5_counts 7 = .ok (.iload_n 2, 1) := by decide +kernel
theorem dX5_counts_8 : decode cX5_counts 8 = .ok (.bipush 6, 2) := by decide +kernel
theorem dX5_counts_10 : decode cX5_counts 10 = .ok (.if_icmp .ge 16, 3) := by decide +kernel
theorem dX5_counts_13 : decode cX5_counts 13 = .ok (.iload_n 3, 1) := by decide +kernel
theorem dX5_counts_14 : decode cX5_counts 14 = .ok (.iload_n 2, 1) := by decide +kernel
theorem dX5_counts_15 : decode cX5_counts 15 = .ok (.if_icmp .ne 7, 3) := by decide +kernel
theorem dX5_counts_18 : decode cX5_counts 18 = .ok (.iconst 1, 1) := by decide +kernel
theorem dX5_counts_19 : decode cX5_counts 19 = .ok (.goto 45, 3) := by decide +kernel
theorem dX5_counts_22 : decode cX5_counts 22 = .ok (.iconst 0, 1) := by decide +kernel
theorem dX5_counts_23 : decode cX5_counts 23 = .ok (.goto 41, 3) := by decide +kernel
theorem dX5_counts_26 : decode cX5_counts 26 = .ok (.iload_n 2, 1) := by decide +kernel
theorem dX5_counts_27 : decode cX5_counts 27 = .ok (.bipush 9, 2) := by decide +kernel
theorem dX5_counts_29 : decode cX5_counts 29 = .ok (.if_icmp .ge 21, 3) := by decide +kernel
theorem dX5_counts_32 : decode cX5_counts 32 = .ok (.iload_n 3, 1) := by decide +kernel
theorem dX5_counts_33 : decode cX5_counts 33 = .ok (.iconst 3, 1) := by decide +kernel
theorem dX5_counts_34 : decode cX5_counts 34 = .ok (.irem, 1) := by decide +kernel
theorem dX5_counts_35 : decode cX5_counts 35 = .ok (.iload_n 2, 1) := by decide +kernel
theorem dX5_counts_36 : decode cX5_counts 36 = .ok (.bipush 6, 2) := by decide +kernel
theorem dX5_counts_38 : decode cX5_counts 38 = .ok (.isub, 1) := by decide +kernel
theorem dX5_counts_39 : decode cX5_counts 39 = .ok (.if_icmp .ne 7, 3) := by decide +kernel
theorem dX5_counts_42 : decode cX5_counts 42 = .ok (.iconst 1, 1) := by decide +kernel
theorem dX5_counts_43 : decode cX5_counts 43 = .ok (.goto 21, 3) := by decide +kernel
theorem dX5_counts_46 : decode cX5_counts 46 = .ok (.iconst 0, 1) := by decide +kernel
theorem dX5_counts_47 : decode cX5_counts 47 = .ok (.goto 17, 3) := by decide +kernel
theorem dX5_counts_50 : decode cX5_counts 50 = .ok (.aload_n 0, 1) := by decide +kernel
theorem dX5_counts_51 : decode cX5_counts 51 = .ok (.aload_n 0, 1) := by decide +kernel
theorem dX5_counts_52 : decode cX5_counts 52 = .ok (.getfield 30, 3) := by decide +kernel
theorem dX5_counts_55 : decode cX5_counts 55 = .ok (.iload_n 1, 1) := by decide +kernel
theorem dX5_counts_56 : decode cX5_counts 56 = .ok (.iaload, 1) := by decide +kernel
theorem dX5_counts_57 : decode cX5_counts 57 = .ok (.iload_n 2, 1) := by decide +kernel
theorem dX5_counts_58 : decode cX5_counts 58 = .ok (.bipush 9, 2) := by decide +kernel
theorem dX5_counts_60 : decode cX5_counts 60 = .ok (.isub, 1) := by decide +kernel
theorem dX5_counts_61 : decode cX5_counts 61 = .ok (.invokevirtual 82, 3) := by decide +kernel
theorem dX5_counts_64 : decode cX5_counts 64 = .ok (.istore 4, 2) := by decide +kernel
theorem dX5_counts_66 : decode cX5_counts 66 = .ok (.iload 4, 2) := by decide +kernel
theorem dX5_counts_68 : decode cX5_counts 68 = .ok (.ifCond .eq 16, 3) := by decide +kernel
theorem dX5_counts_71 : decode cX5_counts 71 = .ok (.aload_n 0, 1) := by decide +kernel
theorem dX5_counts_72 : decode cX5_counts 72 = .ok (.getfield 36, 3) := by decide +kernel
theorem dX5_counts_75 : decode cX5_counts 75 = .ok (.iload_n 1, 1) := by decide +kernel
theorem dX5_counts_76 : decode cX5_counts 76 = .ok (.baload, 1) := by decide +kernel
theorem dX5_counts_77 : decode cX5_counts 77 = .ok (.ifCond .ne 7, 3) := by decide +kernel
theorem dX5_counts_80 : decode cX5_counts 80 = .ok (.iconst 1, 1) := by decide +kernel
theorem dX5_counts_81 : decode cX5_counts 81 = .ok (.goto 4, 3) := by decide +kernel
theorem dX5_counts_84 : decode cX5_counts 84 = .ok (.iconst 0, 1) := by decide +kernel
theorem dX5_counts_85 : decode cX5_counts 85 = .ok (.ireturn, 1) := by decide +kernel
theorem dX5_usage_0 : decode cX5_usage 0 = .ok (.aload_n 0, 1) := by decide +kernel
theorem dX5_usage_1 : decode cX5_usage 1 = .ok (.getfield 36, 3) := by decide +kernel
theorem dX5_usage_4 : decode cX5_usage 4 = .ok (.iload_n 1, 1) := by decide +kernel
theorem dX5_usage_5 : decode cX5_usage 5 = .ok (.baload, 1) := by decide +kernel
theorem dX5_usage_6 : decode cX5_usage 6 = .ok (.ifCond .eq 7, 3) := by decide +kernel
theorem dX5_usage_9 : decode cX5_usage 9 = .ok (.iconst 0, 1) := by decide +kernel
theorem dX5_usage_10 : decode cX5_usage 10 = .ok (.goto 9, 3) := by decide +kernel
theorem dX5_usage_13 : decode cX5_usage 13 = .ok (.aload_n 0, 1) := by decide +kernel
theorem dX5_usage_14 : decode cX5_usage 14 = .ok (.getfield 33, 3) := by decide +kernel
theorem dX5_usage_17 : decode cX5_usage 17 = .ok (.iload_n 1, 1) := by decide +kernel
theorem dX5_usage_18 : decode cX5_usage 18 = .ok (.iaload, 1) := by decide +kernel
theorem dX5_usage_19 : decode cX5_usage 19 = .ok (.istore_n 2, 1) := by decide +kernel
theorem dX5_usage_20 : decode cX5_usage 20 = .ok (.iconst 0, 1) := by decide +kernel
theorem dX5_usage_21 : decode cX5_usage 21 = .ok (.istore_n 3, 1) := by decide +kernel
theorem dX5_usage_22 : decode cX5_usage 22 = .ok (.iload_n 3, 1) := by decide +kernel
theorem dX5_usage_23 : decode cX5_usage 23 = .ok (.aload_n 0, 1) := by decide +kernel
theorem dX5_usage_24 : decode cX5_usage 24 = .ok (.getfield 106, 3) := by decide +kernel
theorem dX5_usage_27 : decode cX5_usage 27 = .ok (.if_icmp .ge 41, 3) := by decide +kernel
theorem dX5_usage_30 : decode cX5_usage 30 = .ok (.iload_n 2, 1) := by decide +kernel
theorem dX5_usage_31 : decode cX5_usage 31 = .ok (.aload_n 0, 1) := by decide +kernel
theorem dX5_usage_32 : decode cX5_usage 32 = .ok (.getfield 40, 3) := by decide +kernel
theorem dX5_usage_35 : decode cX5_usage 35 = .ok (.iload_n 3, 1) := by decide +kernel
theorem dX5_usage_36 : decode cX5_usage 36 = .ok (.iaload, 1) := by decide +kernel
theorem dX5_usage_37 : decode cX5_usage 37 = .ok (.iload_n 1, 1) := by decide +kernel
theorem dX5_usage_38 : decode cX5_usage 38 = .ok (.if_icmp .ne 21, 3) := by decide +kernel
theorem dX5_usage_41 : decode cX5_usage 41 = .ok (.aload_n 0, 1) := by decide +kernel
theorem dX5_usage_42 : decode cX5_usage 42 = .ok (.getfield 46, 3) := by decide +kernel
theorem dX5_usage_45 : decode cX5_usage 45 = .ok (.iload_n 3, 1) := by decide +kernel
theorem dX5_usage_46 : decode cX5_usage 46 = .ok (.baload, 1) := by decide +kernel
theorem dX5_usage_47 : decode cX5_usage 47 = .ok (.ifCond .eq 12, 3) := by decide +kernel
theorem dX5_usage_50 : decode cX5_usage 50 = .ok (.aload_n 0, 1) := by decide +kernel
theorem dX5_usage_51 : decode cX5_usage 51 = .ok (.getfield 43, 3) := by decide +kernel
theorem dX5_usage_54 : decode cX5_usage 54 = .ok (.iload_n 3, 1) := by decide +kernel
theorem dX5_usage_55 : decode cX5_usage 55 = .ok (.iaload, 1) := by decide +kernel
theorem dX5_usage_56 : decode cX5_usage 56 = .ok (.goto 4, 3) := by decide +kernel
theorem dX5_usage_59 : decode cX5_usage 59 = .ok (.iconst 0, 1) := by decide +kernel
theorem dX5_usage_60 : decode cX5_usage 60 = .ok (.iadd, 1) := by decide +kernel
theorem dX5_usage_61 : decode cX5_usage 61 = .ok (.istore_n 2, 1) := by decide +kernel
theorem dX5_usage_62 : decode cX5_usage 62 = .ok (.iinc 3 1, 3) := by decide +kernel
theorem dX5_usage_65 : decode cX5_usage 65 = .ok (.goto (-43), 3) := by decide +kernel
theorem dX5_usage_68 : decode cX5_usage 68 = .ok (.iload_n 2, 1) := by decide +kernel
theorem dX5_usage_69 : decode cX5_usage 69 = .ok (.ireturn, 1) := by decide +kernel
theorem dX5_sum_0 : decode cX5_sum 0 = .ok (.iconst 0, 1) := by decide +kernel
theorem dX5_sum_1 : decode cX5_sum 1 = .ok (.istore_n 3, 1) := by decide +kernel
theorem dX5_sum_2 : decode cX5_sum 2 = .ok (.iconst 0, 1) := by decide +kernel
theorem dX5_sum_3 : decode cX5_sum 3 = .ok (.istore 4, 2) := by decide +kernel
theorem dX5_sum_5 : decode cX5_sum 5 = .ok (.iload 4, 2) := by decide +kernel
theorem dX5_sum_7 : decode cX5_sum 7 = .ok (.iload_n 2, 1) := by decide +kernel
theorem dX5_sum_8 : decode cX5_sum 8 = .ok (.if_icmp .ge 32, 3) := by decide +kernel
theorem dX5_sum_11 : decode cX5_sum 11 = .ok (.iload_n 3, 1) := by decide +kernel
theorem dX5_sum_12 : decode cX5_sum 12 = .ok (.aload_n 0, 1) := by decide +kernel
theorem dX5_sum_13 : decode cX5_sum 13 = .ok (.iload 4, 2) := by decide +kernel
theorem dX5_sum_15 : decode cX5_sum 15 = .ok (.iload_n 1, 1) := by decide +kernel
theorem dX5_sum_16 : decode cX5_sum 16 = .ok (.invokevirtual 109, 3) := by decide +kernel
theorem dX5_sum_19 : decode cX5_sum 19 = .ok (.ifCond .eq 12, 3) := by decide +kernel
theorem dX5_sum_22 : decode cX5_sum 22 = .ok (.aload_n 0, 1) := by decide +kernel
theorem dX5_sum_23 : decode cX5_sum 23 = .ok (.iload 4, 2) := by decide +kernel
theorem dX5_sum_25 : decode cX5_sum 25 = .ok (.invokevirtual 112, 3) := by decide +kernel
theorem dX5_sum_28 : decode cX5_sum 28 = .ok (.goto 4, 3) := by decide +kernel
theorem dX5_sum_31 : decode cX5_sum 31 = .ok (.iconst 0, 1) := by decide +kernel
theorem dX5_sum_32 : decode cX5_sum 32 = .ok (.iadd, 1) := by decide +kernel
theorem dX5_sum_33 : decode cX5_sum 33 = .ok (.istore_n 3, 1) := by decide +kernel
theorem dX5_sum_34 : decode cX5_sum 34 = .ok (.iinc 4 1, 3) := by decide +kernel
theorem dX5_sum_37 : decode cX5_sum 37 = .ok (.goto (-32), 3) := by decide +kernel
theorem dX5_sum_40 : decode cX5_sum 40 = .ok (.iload_n 3, 1) := by decide +kernel
theorem dX5_sum_41 : decode cX5_sum 41 = .ok (.ireturn, 1) := by decide +kernel
theorem dX5_countFiles_0 : decode cX5_countFiles 0 = .ok (.iconst 0, 1) := by decide +kernel
theorem dX5_countFiles_1 : decode cX5_countFiles 1 = .ok (.istore_n 2, 1) := by decide +kernel
theorem dX5_countFiles_2 : decode cX5_countFiles 2 = .ok (.iconst 0, 1) := by decide +kernel
theorem dX5_countFiles_3 : decode cX5_countFiles 3 = .ok (.istore_n 3, 1) := by decide +kernel
theorem dX5_countFiles_4 : decode cX5_countFiles 4 = .ok (.iload_n 3, 1) := by decide +kernel
theorem dX5_countFiles_5 : decode cX5_countFiles 5 = .ok (.aload_n 0, 1) := by decide +kernel
theorem dX5_countFiles_6 : decode cX5_countFiles 6 = .ok (.getfield 115, 3) := by decide +kernel
theorem dX5_countFiles_9 : decode cX5_countFiles 9 = .ok (.if_icmp .ge 26, 3) := by decide +kernel
theorem dX5_countFiles_12 : decode cX5_countFiles 12 = .ok (.iload_n 2, 1) := by decide +kernel
theorem dX5_countFiles_13 : decode cX5_countFiles 13 = .ok (.aload_n 0, 1) := by decide +kernel
theorem dX5_countFiles_14 : decode cX5_countFiles 14 = .ok (.iload_n 3, 1) := by decide +kernel
theorem dX5_countFiles_15 : decode cX5_countFiles 15 = .ok (.iload_n 1, 1) := by decide +kernel
theorem dX5_countFiles_16 : decode cX5_countFiles 16 = .ok (.invokevirtual 109, 3) := by decide +kernel
theorem dX5_countFiles_19 : decode cX5_countFiles 19 = .ok (.ifCond .eq 7, 3) := by decide +kernel
theorem dX5_countFiles_22 : decode cX5_countFiles 22 = .ok (.iconst 1, 1) := by decide +kernel
theorem dX5_countFiles_23 : decode cX5_countFiles 23 = .ok (.goto 4, 3) := by decide +kernel
theorem dX5_countFiles_26 : decode cX5_countFiles 26 = .ok (.iconst 0, 1) := by decide +kernel
theorem dX5_countFiles_27 : decode cX5_countFiles 27 = .ok (.iadd, 1) := by decide +kernel
theorem dX5_countFiles_28 : decode cX5_countFiles 28 = .ok (.istore_n 2, 1) := by decide +kernel
theorem dX5_countFiles_29 : decode cX5_countFiles 29 = .ok (.iinc 3 1, 3) := by decide +kernel
theorem dX5_countFiles_32 : decode cX5_countFiles 32 = .ok (.goto (-28), 3) := by decide +kernel
theorem dX5_countFiles_35 : decode cX5_countFiles 35 = .ok (.iload_n 2, 1) := by decide +kernel
theorem dX5_countFiles_36 : decode cX5_countFiles 36 = .ok (.ireturn, 1) := by decide +kernel
theorem dX5_look_0 : decode cX5_look 0 = .ok (.iconst 0, 1) := by decide +kernel
theorem dX5_look_1 : decode cX5_look 1 = .ok (.istore_n 1, 1) := by decide +kernel
theorem dX5_look_2 : decode cX5_look 2 = .ok (.iload_n 1, 1) := by decide +kernel
theorem dX5_look_3 : decode cX5_look 3 = .ok (.bipush 9, 2) := by decide +kernel
theorem dX5_look_5 : decode cX5_look 5 = .ok (.aload_n 0, 1) := by decide +kernel
theorem dX5_look_6 : decode cX5_look 6 = .ok (.getfield 16, 3) := by decide +kernel
theorem dX5_look_9 : decode cX5_look 9 = .ok (.iadd, 1) := by decide +kernel
theorem dX5_look_10 : decode cX5_look 10 = .ok (.if_icmp .ge 80, 3) := by decide +kernel
theorem dX5_look_13 : decode cX5_look 13 = .ok (.aload_n 0, 1) := by decide +kernel
theorem dX5_look_14 : decode cX5_look 14 = .ok (.getfield 49, 3) := by decide +kernel
theorem dX5_look_17 : decode cX5_look 17 = .ok (.iload_n 1, 1) := by decide +kernel
theorem dX5_look_18 : decode cX5_look 18 = .ok (.iaload, 1) := by decide +kernel
theorem dX5_look_19 : decode cX5_look 19 = .ok (.iconst (-1), 1) := by decide +kernel
theorem dX5_look_20 : decode cX5_look 20 = .ok (.if_icmp .eq 25, 3) := by decide +kernel
theorem dX5_look_23 : decode cX5_look 23 = .ok (.aload_n 0, 1) := by decide +kernel
theorem dX5_look_24 : decode cX5_look 24 = .ok (.iload_n 1, 1) := by decide +kernel
theorem dX5_look_25 : decode cX5_look 25 = .ok (.aload_n 0, 1) := by decide +kernel
theorem dX5_look_26 : decode cX5_look 26 = .ok (.getfield 115, 3) := by decide +kernel
theorem dX5_look_29 : decode cX5_look 29 = .ok (.invokevirtual 118, 3) := by decide +kernel
theorem dX5_look_32 : decode cX5_look 32 = .ok (.aload_n 0, 1) := by decide +kernel
theorem dX5_look_33 : decode cX5_look 33 = .ok (.getfield 49, 3) := by decide +kernel
theorem dX5_look_36 : decode cX5_look 36 = .ok (.iload_n 1, 1) := by decide +kernel
theorem dX5_look_37 : decode cX5_look 37 = .ok (.iaload, 1) := by decide +kernel
theorem dX5_look_38 : decode cX5_look 38 = .ok (.if_icmp .le 7, 3) := by decide +kernel
theorem dX5_look_41 : decode cX5_look 41 = .ok (.iconst 1, 1) := by decide +kernel
theorem dX5_look_42 : decode cX5_look 42 = .ok (.goto 4, 3) := by decide +kernel
theorem dX5_look_45 : decode cX5_look 45 = .ok (.iconst 0, 1) := by decide +kernel
theorem dX5_look_46 : decode cX5_look 46 = .ok (.istore_n 2, 1) := by decide +kernel
theorem dX5_look_47 : decode cX5_look 47 = .ok (.aload_n 0, 1) := by decide +kernel
theorem dX5_look_48 : decode cX5_look 48 = .ok (.getfield 58, 3) := by decide +kernel
theorem dX5_look_51 : decode cX5_look 51 = .ok (.iload_n 1, 1) := by decide +kernel
theorem dX5_look_52 : decode cX5_look 52 = .ok (.iload_n 2, 1) := by decide +kernel
theorem dX5_look_53 : decode cX5_look 53 = .ok (.ifCond .ne 7, 3) := by decide +kernel
theorem dX5_look_56 : decode cX5_look 56 = .ok (.iconst (-1), 1) := by decide +kernel
theorem dX5_look_57 : decode cX5_look 57 = .ok (.goto 26, 3) := by decide +kernel
theorem dX5_look_60 : decode cX5_look 60 = .ok (.aload_n 0, 1) := by decide +kernel
theorem dX5_look_61 : decode cX5_look 61 = .ok (.getfield 58, 3) := by decide +kernel
theorem dX5_look_64 : decode cX5_look 64 = .ok (.iload_n 1, 1) := by decide +kernel
theorem dX5_look_65 : decode cX5_look 65 = .ok (.iaload, 1) := by decide +kernel
theorem dX5_look_66 : decode cX5_look 66 = .ok (.iconst (-1), 1) := by decide +kernel
theorem dX5_look_67 : decode cX5_look 67 = .ok (.if_icmp .ne 10, 3) := by decide +kernel
theorem dX5_look_70 : decode cX5_look 70 = .ok (.aload_n 0, 1) := by decide +kernel
theorem dX5_look_71 : decode cX5_look 71 = .ok (.getfield 122, 3) := by decide +kernel
theorem dX5_look_74 : decode cX5_look 74 = .ok (.goto 9, 3) := by decide +kernel
theorem dX5_look_77 : decode cX5_look 77 = .ok (.aload_n 0, 1) := by decide +kernel
theorem dX5_look_78 : decode cX5_look 78 = .ok (.getfield 58, 3) := by decide +kernel
theorem dX5_look_81 : decode cX5_look 81 = .ok (.iload_n 1, 1) := by decide +kernel
theorem dX5_look_82 : decode cX5_look 82 = .ok (.iaload, 1) := by decide +kernel
theorem dX5_look_83 : decode cX5_look 83 = .ok (.iastore, 1) := by decide +kernel
theorem dX5_look_84 : decode cX5_look 84 = .ok (.iinc 1 1, 3) := by decide +kernel
theorem dX5_look_87 : decode cX5_look 87 = .ok (.goto (-85), 3) := by decide +kernel
theorem dX5_look_90 : decode cX5_look 90 = .ok (.return_, 1) := by decide +kernel
theorem dX5_isGraceGone_0 : decode cX5_isGraceGone 0 = .ok (.aload_n 0, 1) := by decide +kernel
theorem dX5_isGraceGone_1 : decode cX5_isGraceGone 1 = .ok (.getfield 58, 3) := by decide +kernel
theorem dX5_isGraceGone_4 : decode cX5_isGraceGone 4 = .ok (.iload_n 1, 1) := by decide +kernel
theorem dX5_isGraceGone_5 : decode cX5_isGraceGone 5 = .ok (.iaload, 1) := by decide +kernel
theorem dX5_isGraceGone_6 : decode cX5_isGraceGone 6 = .ok (.iconst (-1), 1) := by decide +kernel
theorem dX5_isGraceGone_7 : decode cX5_isGraceGone 7 = .ok (.if_icmp .eq 23, 3) := by decide +kernel
theorem dX5_isGraceGone_10 : decode cX5_isGraceGone 10 = .ok (.aload_n 0, 1) := by decide +kernel
theorem dX5_isGraceGone_11 : decode cX5_isGraceGone 11 = .ok (.getfield 122, 3) := by decide +kernel
theorem dX5_isGraceGone_14 : decode cX5_isGraceGone 14 = .ok (.aload_n 0, 1) := by decide +kernel
theorem dX5_isGraceGone_15 : decode cX5_isGraceGone 15 = .ok (.getfield 58, 3) := by decide +kernel
theorem dX5_isGraceGone_18 : decode cX5_isGraceGone 18 = .ok (.iload_n 1, 1) := by decide +kernel
theorem dX5_isGraceGone_19 : decode cX5_isGraceGone 19 = .ok (.iaload, 1) := by decide +kernel
theorem dX5_isGraceGone_20 : decode cX5_isGraceGone 20 = .ok (.isub, 1) := by decide +kernel
theorem dX5_isGraceGone_21 : decode cX5_isGraceGone 21 = .ok (.bipush 48, 2) := by decide +kernel
theorem dX5_isGraceGone_23 : decode cX5_isGraceGone 23 = .ok (.if_icmp .lt 7, 3) := by decide +kernel
theorem dX5_isGraceGone_26 : decode cX5_isGraceGone 26 = .ok (.iconst 1, 1) := by decide +kernel
theorem dX5_isGraceGone_27 : decode cX5_isGraceGone 27 = .ok (.goto 4, 3) := by decide +kernel
theorem dX5_isGraceGone_30 : decode cX5_isGraceGone 30 = .ok (.iconst 0, 1) := by decide +kernel
theorem dX5_isGraceGone_31 : decode cX5_isGraceGone 31 = .ok (.ireturn, 1) := by decide +kernel
theorem dX5_asked_0 : decode cX5_asked 0 = .ok (.iload_n 3, 1) := by decide +kernel
theorem dX5_asked_1 : decode cX5_asked 1 = .ok (.iconst 2, 1) := by decide +kernel
theorem dX5_asked_2 : decode cX5_asked 2 = .ok (.if_icmp .ge 18, 3) := by decide +kernel
theorem dX5_asked_5 : decode cX5_asked 5 = .ok (.iload_n 3, 1) := by decide +kernel
theorem dX5_asked_6 : decode cX5_asked 6 = .ok (.ifCond .ne 7, 3) := by decide +kernel
theorem dX5_asked_9 : decode cX5_asked 9 = .ok (.iload_n 1, 1) := by decide +kernel
theorem dX5_asked_10 : decode cX5_asked 10 = .ok (.goto 9, 3) := by decide +kernel
theorem dX5_asked_13 : decode cX5_asked 13 = .ok (.bipush 6, 2) := by decide +kernel
theorem dX5_asked_15 : decode cX5_asked 15 = .ok (.iload_n 1, 1) := by decide +kernel
theorem dX5_asked_16 : decode cX5_asked 16 = .ok (.iconst 3, 1) := by decide +kernel
theorem dX5_asked_17 : decode cX5_asked 17 = .ok (.irem, 1) := by decide +kernel
theorem dX5_asked_18 : decode cX5_asked 18 = .ok (.iadd, 1) := by decide +kernel
theorem dX5_asked_19 : decode cX5_asked 19 = .ok (.ireturn, 1) := by decide +kernel
theorem dX5_asked_20 : decode cX5_asked 20 = .ok (.aload_n 0, 1) := by decide +kernel
theorem dX5_asked_21 : decode cX5_asked 21 = .ok (.getfield 23, 3) := by decide +kernel
theorem dX5_asked_24 : decode cX5_asked 24 = .ok (.iload_n 2, 1) := by decide +kernel
theorem dX5_asked_25 : decode cX5_asked 25 = .ok (.iaload, 1) := by decide +kernel
theorem dX5_asked_26 : decode cX5_asked 26 = .ok (.iload_n 3, 1) := by decide +kernel
theorem dX5_asked_27 : decode cX5_asked 27 = .ok (.isub, 1) := by decide +kernel
theorem dX5_asked_28 : decode cX5_asked 28 = .ok (.iconst 2, 1) := by decide +kernel
theorem dX5_asked_29 : decode cX5_asked 29 = .ok (.iadd, 1) := by decide +kernel
theorem dX5_asked_30 : decode cX5_asked 30 = .ok (.istore 4, 2) := by decide +kernel
theorem dX5_asked_32 : decode cX5_asked 32 = .ok (.iconst (-1), 1) := by decide +kernel
theorem dX5_asked_33 : decode cX5_asked 33 = .ok (.istore 5, 2) := by decide +kernel
theorem dX5_asked_35 : decode cX5_asked 35 = .ok (.iconst 0, 1) := by decide +kernel
theorem dX5_asked_36 : decode cX5_asked 36 = .ok (.istore 6, 2) := by decide +kernel
theorem dX5_asked_38 : decode cX5_asked 38 = .ok (.iload 6, 2) := by decide +kernel
theorem dX5_asked_40 : decode cX5_asked 40 = .ok (.aload_n 0, 1) := by decide +kernel
theorem dX5_asked_41 : decode cX5_asked 41 = .ok (.getfield 16, 3) := by decide +kernel
theorem dX5_asked_44 : decode cX5_asked 44 = .ok (.if_icmp .ge 48, 3) := by decide +kernel
theorem dX5_asked_47 : decode cX5_asked 47 = .ok (.iload 4, 2) := by decide +kernel
theorem dX5_asked_49 : decode cX5_asked 49 = .ok (.ifCond .lt 43, 3) := by decide +kernel
theorem dX5_asked_52 : decode cX5_asked 52 = .ok (.aload_n 0, 1) := by decide +kernel
theorem dX5_asked_53 : decode cX5_asked 53 = .ok (.getfield 23, 3) := by decide +kernel
theorem dX5_asked_56 : decode cX5_asked 56 = .ok (.iload 6, 2) := by decide +kernel
theorem dX5_asked_58 : decode cX5_asked 58 = .ok (.iaload, 1) := by decide +kernel
theorem dX5_asked_59 : decode cX5_asked 59 = .ok (.iload 4, 2) := by decide +kernel
theorem dX5_asked_61 : decode cX5_asked 61 = .ok (.if_icmp .ne 21, 3) := by decide +kernel
theorem dX5_asked_64 : decode cX5_asked 64 = .ok (.aload_n 0, 1) := by decide +kernel
theorem dX5_asked_65 : decode cX5_asked 65 = .ok (.iload_n 2, 1) := by decide +kernel
theorem dX5_asked_66 : decode cX5_asked 66 = .ok (.iload 6, 2) := by decide +kernel
theorem dX5_asked_68 : decode cX5_asked 68 = .ok (.invokevirtual 82, 3) := by decide +kernel
theorem dX5_asked_71 : decode cX5_asked 71 = .ok (.ifCond .eq 11, 3) := by decide +kernel
theorem dX5_asked_74 : decode cX5_asked 74 = .ok (.bipush 9, 2) := by decide +kernel
theorem dX5_asked_76 : decode cX5_asked 76 = .ok (.iload 6, 2) := by decide +kernel
theorem dX5_asked_78 : decode cX5_asked 78 = .ok (.iadd, 1) := by decide +kernel
theorem dX5_asked_79 : decode cX5_asked 79 = .ok (.goto 5, 3) := by decide +kernel
theorem dX5_asked_82 : decode cX5_asked 82 = .ok (.iload 5, 2) := by decide +kernel
theorem dX5_asked_84 : decode cX5_asked 84 = .ok (.istore 5, 2) := by decide +kernel
theorem dX5_asked_86 : decode cX5_asked 86 = .ok (.iinc 6 1, 3) := by decide +kernel
theorem dX5_asked_89 : decode cX5_asked 89 = .ok (.goto (-51), 3) := by decide +kernel
theorem dX5_asked_92 : decode cX5_asked 92 = .ok (.iload 5, 2) := by decide +kernel
theorem dX5_asked_94 : decode cX5_asked 94 = .ok (.ireturn, 1) := by decide +kernel
theorem dX5_barring_0 : decode cX5_barring 0 = .ok (.iconst 0, 1) := by decide +kernel
theorem dX5_barring_1 : decode cX5_barring 1 = .ok (.istore 5, 2) := by decide +kernel
theorem dX5_barring_3 : decode cX5_barring 3 = .ok (.iload 5, 2) := by decide +kernel
theorem dX5_barring_5 : decode cX5_barring 5 = .ok (.iconst 2, 1) := by decide +kernel
theorem dX5_barring_6 : decode cX5_barring 6 = .ok (.if_icmp .lt 15, 3) := by decide +kernel
theorem dX5_barring_9 : decode cX5_barring 9 = .ok (.aload_n 0, 1) := by decide +kernel
theorem dX5_barring_10 : decode cX5_barring 10 = .ok (.iload_n 1, 1) := by decide +kernel
theorem dX5_barring_11 : decode cX5_barring 11 = .ok (.iload_n 2, 1) := by decide +kernel
theorem dX5_barring_12 : decode cX5_barring 12 = .ok (.iload 5, 2) := by decide +kernel
theorem dX5_barring_14 : decode cX5_barring 14 = .ok (.invokevirtual 125, 3) := by decide +kernel
theorem dX5_barring_17 : decode cX5_barring 17 = .ok (.iconst (-1), 1) := by decide +kernel
theorem dX5_barring_18 : decode cX5_barring 18 = .ok (.if_icmp .eq 131, 3) := by decide +kernel
theorem dX5_barring_21 : decode cX5_barring 21 = .ok (.aload_n 0, 1) := by decide +kernel
theorem dX5_barring_22 : decode cX5_barring 22 = .ok (.iload_n 1, 1) := by decide +kernel
theorem dX5_barring_23 : decode cX5_barring 23 = .ok (.iload_n 2, 1) := by decide +kernel
theorem dX5_barring_24 : decode cX5_barring 24 = .ok (.iload 5, 2) := by decide +kernel
theorem dX5_barring_26 : decode cX5_barring 26 = .ok (.invokevirtual 125, 3) := by decide +kernel
theorem dX5_barring_29 : decode cX5_barring 29 = .ok (.istore 6, 2) := by decide +kernel
theorem dX5_barring_31 : decode cX5_barring 31 = .ok (.iload_n 3, 1) := by decide +kernel
theorem dX5_barring_32 : decode cX5_barring 32 = .ok (.ifCond .le 53, 3) := by decide +kernel
theorem dX5_barring_35 : decode cX5_barring 35 = .ok (.aload_n 0, 1) := by decide +kernel
theorem dX5_barring_36 : decode cX5_barring 36 = .ok (.iload 6, 2) := by decide +kernel
theorem dX5_barring_38 : decode cX5_barring 38 = .ok (.invokevirtual 129, 3) := by decide +kernel
theorem dX5_barring_41 : decode cX5_barring 41 = .ok (.ifCond .ne 40, 3) := by decide +kernel
theorem dX5_barring_44 : decode cX5_barring 44 = .ok (.aload_n 0, 1) := by decide +kernel
theorem dX5_barring_45 : decode cX5_barring 45 = .ok (.getfield 52, 3) := by decide +kernel
theorem dX5_barring_48 : decode cX5_barring 48 = .ok (.iload 6, 2) := by decide +kernel
theorem dX5_barring_50 : decode cX5_barring 50 = .ok (.iaload, 1) := by decide +kernel
theorem dX5_barring_51 : decode cX5_barring 51 = .ok (.iconst (-1), 1) := by decide +kernel
theorem dX5_barring_52 : decode cX5_barring 52 = .ok (.if_icmp .eq 33, 3) := by decide +kernel
theorem dX5_barring_55 : decode cX5_barring 55 = .ok (.aload_n 0, 1) := by decide +kernel
theorem dX5_barring_56 : decode cX5_barring 56 = .ok (.iload 6, 2) := by decide +kernel
theorem dX5_barring_58 : decode cX5_barring 58 = .ok (.aload_n 0, 1) := by decide +kernel
theorem dX5_barring_59 : decode cX5_barring 59 = .ok (.getfield 115, 3) := by decide +kernel
theorem dX5_barring_62 : decode cX5_barring 62 = .ok (.invokevirtual 118, 3) := by decide +kernel
theorem dX5_barring_65 : decode cX5_barring 65 = .ok (.i2l, 1) := by decide +kernel
theorem dX5_barring_66 : decode cX5_barring 66 = .ok (.iload_n 3, 1) := by decide +kernel
theorem dX5_barring_67 : decode cX5_barring 67 = .ok (.i2l, 1) := by decide +kernel
theorem dX5_barring_68 : decode cX5_barring 68 = .ok (.ladd, 1) := by decide +kernel
theorem dX5_barring_69 : decode cX5_barring 69 = .ok (.aload_n 0, 1) := by decide +kernel
theorem dX5_barring_70 : decode cX5_barring 70 = .ok (.getfield 52, 3) := by decide +kernel
theorem dX5_barring_73 : decode cX5_barring 73 = .ok (.iload 6, 2) := by decide +kernel
theorem dX5_barring_75 : decode cX5_barring 75 = .ok (.iaload, 1) := by decide +kernel
theorem dX5_barring_76 : decode cX5_barring 76 = .ok (.i2l, 1) := by decide +kernel
theorem dX5_barring_77 : decode cX5_barring 77 = .ok (.lcmp, 1) := by decide +kernel
theorem dX5_barring_78 : decode cX5_barring 78 = .ok (.ifCond .le 7, 3) := by decide +kernel
theorem dX5_barring_81 : decode cX5_barring 81 = .ok (.iconst 1, 1) := by decide +kernel
theorem dX5_barring_82 : decode cX5_barring 82 = .ok (.goto 4, 3) := by decide +kernel
theorem dX5_barring_85 : decode cX5_barring 85 = .ok (.iconst 0, 1) := by decide +kernel
theorem dX5_barring_86 : decode cX5_barring 86 = .ok (.istore 7, 2) := by decide +kernel
theorem dX5_barring_88 : decode cX5_barring 88 = .ok (.iload 4, 2) := by decide +kernel
theorem dX5_barring_90 : decode cX5_barring 90 = .ok (.ifCond .le 37, 3) := by decide +kernel
theorem dX5_barring_93 : decode cX5_barring 93 = .ok (.aload_n 0, 1) := by decide +kernel
theorem dX5_barring_94 : decode cX5_barring 94 = .ok (.getfield 55, 3) := by decide +kernel
theorem dX5_barring_97 : decode cX5_barring 97 = .ok (.iload 6, 2) := by decide +kernel
theorem dX5_barring_99 : decode cX5_barring 99 = .ok (.iaload, 1) := by decide +kernel
theorem dX5_barring_100 : decode cX5_barring 100 = .ok (.iconst (-1), 1) := by decide +kernel
theorem dX5_barring_101 : decode cX5_barring 101 = .ok (.if_icmp .eq 26, 3) := by decide +kernel
theorem dX5_barring_104 : decode cX5_barring 104 = .ok (.aload_n 0, 1) := by decide +kernel
theorem dX5_barring_105 : decode cX5_barring 105 = .ok (.iload 6, 2) := by decide +kernel
theorem dX5_barring_107 : decode cX5_barring 107 = .ok (.invokevirtual 132, 3) := by decide +kernel
theorem dX5_barring_110 : decode cX5_barring 110 = .ok (.iload 4, 2) := by decide +kernel
theorem dX5_barring_112 : decode cX5_barring 112 = .ok (.iadd, 1) := by decide +kernel
theorem dX5_barring_113 : decode cX5_barring 113 = .ok (.aload_n 0, 1) := by decide +kernel
theorem dX5_barring_114 : decode cX5_barring 114 = .ok (.getfield 55, 3) := by decide +kernel
theorem dX5_barring_117 : decode cX5_barring 117 = .ok (.iload 6, 2) := by decide +kernel
theorem dX5_barring_119 : decode cX5_barring 119 = .ok (.iaload, 1) := by decide +kernel
theorem dX5_barring_120 : decode cX5_barring 120 = .ok (.if_icmp .le 7, 3) := by decide +kernel
theorem dX5_barring_123 : decode cX5_barring 123 = .ok (.iconst 1, 1) := by decide +kernel
theorem dX5_barring_124 : decode cX5_barring 124 = .ok (.goto 4, 3) := by decide +kernel
theorem dX5_barring_127 : decode cX5_barring 127 = .ok (.iconst 0, 1) := by decide +kernel
theorem dX5_barring_128 : decode cX5_barring 128 = .ok (.istore 8, 2) := by decide +kernel
theorem dX5_barring_130 : decode cX5_barring 130 = .ok (.iload 7, 2) := by decide +kernel
theorem dX5_barring_132 : decode cX5_barring 132 = .ok (.ifCond .ne 8, 3) := by decide +kernel
theorem dX5_barring_135 : decode cX5_barring 135 = .ok (.iload 8, 2) := by decide +kernel
theorem dX5_barring_137 : decode cX5_barring 137 = .ok (.ifCond .eq 6, 3) := by decide +kernel
theorem dX5_barring_140 : decode cX5_barring 140 = .ok (.iload 5, 2) := by decide +kernel
theorem dX5_barring_142 : decode cX5_barring 142 = .ok (.ireturn, 1) := by decide +kernel
theorem dX5_barring_143 : decode cX5_barring 143 = .ok (.iinc 5 1, 3) := by decide +kernel
theorem dX5_barring_146 : decode cX5_barring 146 = .ok (.goto (-143), 3) := by decide +kernel
theorem dX5_barring_149 : decode cX5_barring 149 = .ok (.iconst (-1), 1) := by decide +kernel
theorem dX5_barring_150 : decode cX5_barring 150 = .ok (.ireturn, 1) := by decide +kernel
theorem dX5_isFile_0 : decode cX5_isFile 0 = .ok (.iload_n 1, 1) := by decide +kernel
theorem dX5_isFile_1 : decode cX5_isFile 1 = .ok (.iconst 0, 1) := by decide +kernel
theorem dX5_isFile_2 : decode cX5_isFile 2 = .ok (.aload_n 0, 1) := by decide +kernel
theorem dX5_isFile_3 : decode cX5_isFile 3 = .ok (.getfield 115, 3) := by decide +kernel
theorem dX5_isFile_6 : decode cX5_isFile 6 = .ok (.iconst 1, 1) := by decide +kernel
theorem dX5_isFile_7 : decode cX5_isFile 7 = .ok (.isub, 1) := by decide +kernel
theorem dX5_isFile_8 : decode cX5_isFile 8 = .ok (.invokestatic 78, 3) := by decide +kernel
theorem dX5_isFile_11 : decode cX5_isFile 11 = .ok (.ifCond .eq 16, 3) := by decide +kernel
theorem dX5_isFile_14 : decode cX5_isFile 14 = .ok (.aload_n 0, 1) := by decide +kernel
theorem dX5_isFile_15 : decode cX5_isFile 15 = .ok (.getfield 36, 3) := by decide +kernel
theorem dX5_isFile_18 : decode cX5_isFile 18 = .ok (.iload_n 1, 1) := by decide +kernel
theorem dX5_isFile_19 : decode cX5_isFile 19 = .ok (.baload, 1) := by decide +kernel
theorem dX5_isFile_20 : decode cX5_isFile 20 = .ok (.ifCond .ne 7, 3) := by decide +kernel
theorem dX5_isFile_23 : decode cX5_isFile 23 = .ok (.iconst 1, 1) := by decide +kernel
theorem dX5_isFile_24 : decode cX5_isFile 24 = .ok (.goto 4, 3) := by decide +kernel
theorem dX5_isFile_27 : decode cX5_isFile 27 = .ok (.iconst 0, 1) := by decide +kernel
theorem dX5_isFile_28 : decode cX5_isFile 28 = .ok (.ireturn, 1) := by decide +kernel
theorem dX5_makeFile_0 : decode cX5_makeFile 0 = .ok (.iload_n 1, 1) := by decide +kernel
theorem dX5_makeFile_1 : decode cX5_makeFile 1 = .ok (.iconst 0, 1) := by decide +kernel
theorem dX5_makeFile_2 : decode cX5_makeFile 2 = .ok (.iconst 5, 1) := by decide +kernel
theorem dX5_makeFile_3 : decode cX5_makeFile 3 = .ok (.invokestatic 78, 3) := by decide +kernel
theorem dX5_makeFile_6 : decode cX5_makeFile 6 = .ok (.ifCond .eq 15, 3) := by decide +kernel
theorem dX5_makeFile_9 : decode cX5_makeFile 9 = .ok (.aload_n 0, 1) := by decide +kernel
theorem dX5_makeFile_10 : decode cX5_makeFile 10 = .ok (.iload_n 2, 1) := by decide +kernel
theorem dX5_makeFile_11 : decode cX5_makeFile 11 = .ok (.invokevirtual 93, 3) := by decide +kernel
theorem dX5_makeFile_14 : decode cX5_makeFile 14 = .ok (.ifCond .eq 7, 3) := by decide +kernel
theorem dX5_makeFile_17 : decode cX5_makeFile 17 = .ok (.iconst 1, 1) := by decide +kernel
theorem dX5_makeFile_18 : decode cX5_makeFile 18 = .ok (.goto 4, 3) := by decide +kernel
theorem dX5_makeFile_21 : decode cX5_makeFile 21 = .ok (.iconst 0, 1) := by decide +kernel
theorem dX5_makeFile_22 : decode cX5_makeFile 22 = .ok (.istore_n 3, 1) := by decide +kernel
theorem dX5_makeFile_23 : decode cX5_makeFile 23 = .ok (.aload_n 0, 1) := by decide +kernel
theorem dX5_makeFile_24 : decode cX5_makeFile 24 = .ok (.iload_n 3, 1) := by decide +kernel
theorem dX5_makeFile_25 : decode cX5_makeFile 25 = .ok (.ifCond .ne 7, 3) := by decide +kernel
theorem dX5_makeFile_28 : decode cX5_makeFile 28 = .ok (.iconst 1, 1) := by decide +kernel
theorem dX5_makeFile_29 : decode cX5_makeFile 29 = .ok (.goto 17, 3) := by decide +kernel
theorem dX5_makeFile_32 : decode cX5_makeFile 32 = .ok (.aload_n 0, 1) := by decide +kernel
theorem dX5_makeFile_33 : decode cX5_makeFile 33 = .ok (.getfield 115, 3) := by decide +kernel
theorem dX5_makeFile_36 : decode cX5_makeFile 36 = .ok (.bipush 40, 2) := by decide +kernel
theorem dX5_makeFile_38 : decode cX5_makeFile 38 = .ok (.if_icmp .ne 7, 3) := by decide +kernel
theorem dX5_makeFile_41 : decode cX5_makeFile 41 = .ok (.iconst 2, 1) := by decide +kernel
theorem dX5_makeFile_42 : decode cX5_makeFile 42 = .ok (.goto 4, 3) := by decide +kernel
theorem dX5_makeFile_45 : decode cX5_makeFile 45 = .ok (.iconst 0, 1) := by decide +kernel
theorem dX5_makeFile_46 : decode cX5_makeFile 46 = .ok (.invokevirtual 67, 3) := by decide +kernel
theorem dX5_makeFile_49 : decode cX5_makeFile 49 = .ok (.ifCond .eq 5, 3) := by decide +kernel
theorem dX5_makeFile_52 : decode cX5_makeFile 52 = .ok (.iconst 0, 1) := by decide +kernel
theorem dX5_makeFile_53 : decode cX5_makeFile 53 = .ok (.ireturn, 1) := by decide +kernel
theorem dX5_makeFile_54 : decode cX5_makeFile 54 = .ok (.aload_n 0, 1) := by decide +kernel
theorem dX5_makeFile_55 : decode cX5_makeFile 55 = .ok (.iload_n 1, 1) := by decide +kernel
theorem dX5_makeFile_56 : decode cX5_makeFile 56 = .ok (.iload_n 2, 1) := by decide +kernel
theorem dX5_makeFile_57 : decode cX5_makeFile 57 = .ok (.iconst 0, 1) := by decide +kernel
theorem dX5_makeFile_58 : decode cX5_makeFile 58 = .ok (.iconst 1, 1) := by decide +kernel
theorem dX5_makeFile_59 : decode cX5_makeFile 59 = .ok (.invokevirtual 135, 3) := by decide +kernel
theorem dX5_makeFile_62 : decode cX5_makeFile 62 = .ok (.istore 4, 2) := by decide +kernel
theorem dX5_makeFile_64 : decode cX5_makeFile 64 = .ok (.iload 4, 2) := by decide +kernel
theorem dX5_makeFile_66 : decode cX5_makeFile 66 = .ok (.iconst (-1), 1) := by decide +kernel
theorem dX5_makeFile_67 : decode cX5_makeFile 67 = .ok (.if_icmp .eq 9, 3) := by decide +kernel
theorem dX5_makeFile_70 : decode cX5_makeFile 70 = .ok (.bipush (-2), 2) := by decide +kernel
theorem dX5_makeFile_72 : decode cX5_makeFile 72 = .ok (.iload 4, 2) := by decide +kernel
theorem dX5_makeFile_74 : decode cX5_makeFile 74 = .ok (.isub, 1) := by decide +kernel
theorem dX5_makeFile_75 : decode cX5_makeFile 75 = .ok (.ireturn, 1) := by decide +kernel
theorem dX5_makeFile_76 : decode cX5_makeFile 76 = .ok (.aload_n 0, 1) := by decide +kernel
theorem dX5_makeFile_77 : decode cX5_makeFile 77 = .ok (.getfield 27, 3) := by decide +kernel
theorem dX5_makeFile_80 : decode cX5_makeFile 80 = .ok (.aload_n 0, 1) := by decide +kernel
theorem dX5_makeFile_81 : decode cX5_makeFile 81 = .ok (.getfield 115, 3) := by decide +kernel
theorem dX5_makeFile_84 : decode cX5_makeFile 84 = .ok (.iload_n 1, 1) := by decide +kernel
theorem dX5_makeFile_85 : decode cX5_makeFile 85 = .ok (.iastore, 1) := by decide +kernel
theorem dX5_makeFile_86 : decode cX5_makeFile 86 = .ok (.aload_n 0, 1) := by decide +kernel
theorem dX5_makeFile_87 : decode cX5_makeFile 87 = .ok (.getfield 30, 3) := by decide +kernel
theorem dX5_makeFile_90 : decode cX5_makeFile 90 = .ok (.aload_n 0, 1) := by decide +kernel
theorem dX5_makeFile_91 : decode cX5_makeFile 91 = .ok (.getfield 115, 3) := by decide +kernel
theorem dX5_makeFile_94 : decode cX5_makeFile 94 = .ok (.iload_n 2, 1) := by decide +kernel
theorem dX5_makeFile_95 : decode cX5_makeFile 95 = .ok (.iastore, 1) := by decide +kernel
theorem dX5_makeFile_96 : decode cX5_makeFile 96 = .ok (.aload_n 0, 1) := by decide +kernel
theorem dX5_makeFile_97 : decode cX5_makeFile 97 = .ok (.dup, 1) := by decide +kernel
theorem dX5_makeFile_98 : decode cX5_makeFile 98 = .ok (.getfield 115, 3) := by decide +kernel
theorem dX5_makeFile_101 : decode cX5_makeFile 101 = .ok (.iconst 1, 1) := by decide +kernel
theorem dX5_makeFile_102 : decode cX5_makeFile 102 = .ok (.iadd, 1) := by decide +kernel
theorem dX5_makeFile_103 : decode cX5_makeFile 103 = .ok (.putfield 115, 3) := by decide +kernel
theorem dX5_makeFile_106 : decode cX5_makeFile 106 = .ok (.aload_n 0, 1) := by decide +kernel
theorem dX5_makeFile_107 : decode cX5_makeFile 107 = .ok (.getfield 115, 3) := by decide +kernel
theorem dX5_makeFile_110 : decode cX5_makeFile 110 = .ok (.iconst 1, 1) := by decide +kernel
theorem dX5_makeFile_111 : decode cX5_makeFile 111 = .ok (.isub, 1) := by decide +kernel
theorem dX5_makeFile_112 : decode cX5_makeFile 112 = .ok (.ireturn, 1) := by decide +kernel
theorem dX5_write_0 : decode cX5_write 0 = .ok (.aload_n 0, 1) := by decide +kernel
theorem dX5_write_1 : decode cX5_write 1 = .ok (.iload_n 1, 1) := by decide +kernel
theorem dX5_write_2 : decode cX5_write 2 = .ok (.invokevirtual 139, 3) := by decide +kernel
theorem dX5_write_5 : decode cX5_write 5 = .ok (.ifCond .eq 31, 3) := by decide +kernel
theorem dX5_write_8 : decode cX5_write 8 = .ok (.iload_n 2, 1) := by decide +kernel
theorem dX5_write_9 : decode cX5_write 9 = .ok (.sipush (-1000), 3) := by decide +kernel
theorem dX5_write_12 : decode cX5_write 12 = .ok (.sipush 1000, 3) := by decide +kernel
theorem dX5_write_15 : decode cX5_write 15 = .ok (.invokestatic 78, 3) := by decide +kernel
theorem dX5_write_18 : decode cX5_write 18 = .ok (.ifCond .eq 18, 3) := by decide +kernel
theorem dX5_write_21 : decode cX5_write 21 = .ok (.aload_n 0, 1) := by decide +kernel
theorem dX5_write_22 : decode cX5_write 22 = .ok (.getfield 33, 3) := by decide +kernel
theorem dX5_write_25 : decode cX5_write 25 = .ok (.iload_n 1, 1) := by decide +kernel
theorem dX5_write_26 : decode cX5_write 26 = .ok (.iaload, 1) := by decide +kernel
theorem dX5_write_27 : decode cX5_write 27 = .ok (.iload_n 2, 1) := by decide +kernel
theorem dX5_write_28 : decode cX5_write 28 = .ok (.iadd, 1) := by decide +kernel
theorem dX5_write_29 : decode cX5_write 29 = .ok (.ifCond .lt 7, 3) := by decide +kernel
theorem dX5_write_32 : decode cX5_write 32 = .ok (.iconst 1, 1) := by decide +kernel
theorem dX5_write_33 : decode cX5_write 33 = .ok (.goto 4, 3) := by decide +kernel
theorem dX5_write_36 : decode cX5_write 36 = .ok (.iconst 0, 1) := by decide +kernel
theorem dX5_write_37 : decode cX5_write 37 = .ok (.istore_n 3, 1) := by decide +kernel
theorem dX5_write_38 : decode cX5_write 38 = .ok (.aload_n 0, 1) := by decide +kernel
theorem dX5_write_39 : decode cX5_write 39 = .ok (.aload_n 0, 1) := by decide +kernel
theorem dX5_write_40 : decode cX5_write 40 = .ok (.iload_n 1, 1) := by decide +kernel
theorem dX5_write_41 : decode cX5_write 41 = .ok (.invokevirtual 139, 3) := by decide +kernel
theorem dX5_write_44 : decode cX5_write 44 = .ok (.ifCond .ne 7, 3) := by decide +kernel
theorem dX5_write_47 : decode cX5_write 47 = .ok (.iconst 1, 1) := by decide +kernel
theorem dX5_write_48 : decode cX5_write 48 = .ok (.goto 12, 3) := by decide +kernel
theorem dX5_write_51 : decode cX5_write 51 = .ok (.iload_n 3, 1) := by decide +kernel
theorem dX5_write_52 : decode cX5_write 52 = .ok (.ifCond .eq 7, 3) := by decide +kernel
theorem dX5_write_55 : decode cX5_write 55 = .ok (.iconst 0, 1) := by decide +kernel
theorem dX5_write_56 : decode cX5_write 56 = .ok (.goto 4, 3) := by decide +kernel
theorem dX5_write_59 : decode cX5_write 59 = .ok (.iconst 2, 1) := by decide +kernel
theorem dX5_write_60 : decode cX5_write 60 = .ok (.invokevirtual 67, 3) := by decide +kernel
theorem dX5_write_63 : decode cX5_write 63 = .ok (.ifCond .eq 5, 3) := by decide +kernel
theorem dX5_write_66 : decode cX5_write 66 = .ok (.iconst 0, 1) := by decide +kernel
theorem dX5_write_67 : decode cX5_write 67 = .ok (.ireturn, 1) := by decide +kernel
theorem dX5_write_68 : decode cX5_write 68 = .ok (.aload_n 0, 1) := by decide +kernel
theorem dX5_write_69 : decode cX5_write 69 = .ok (.aload_n 0, 1) := by decide +kernel
theorem dX5_write_70 : decode cX5_write 70 = .ok (.getfield 27, 3) := by decide +kernel
theorem dX5_write_73 : decode cX5_write 73 = .ok (.iload_n 1, 1) := by decide +kernel
theorem dX5_write_74 : decode cX5_write 74 = .ok (.iaload, 1) := by decide +kernel
theorem dX5_write_75 : decode cX5_write 75 = .ok (.aload_n 0, 1) := by decide +kernel
theorem dX5_write_76 : decode cX5_write 76 = .ok (.getfield 30, 3) := by decide +kernel
theorem dX5_write_79 : decode cX5_write 79 = .ok (.iload_n 1, 1) := by decide +kernel
theorem dX5_write_80 : decode cX5_write 80 = .ok (.iaload, 1) := by decide +kernel
theorem dX5_write_81 : decode cX5_write 81 = .ok (.iload_n 2, 1) := by decide +kernel
theorem dX5_write_82 : decode cX5_write 82 = .ok (.iconst 0, 1) := by decide +kernel
theorem dX5_write_83 : decode cX5_write 83 = .ok (.invokevirtual 135, 3) := by decide +kernel
theorem dX5_write_86 : decode cX5_write 86 = .ok (.istore 4, 2) := by decide +kernel
theorem dX5_write_88 : decode cX5_write 88 = .ok (.iload 4, 2) := by decide +kernel
theorem dX5_write_90 : decode cX5_write 90 = .ok (.iconst (-1), 1) := by decide +kernel
theorem dX5_write_91 : decode cX5_write 91 = .ok (.if_icmp .eq 9, 3) := by decide +kernel
theorem dX5_write_94 : decode cX5_write 94 = .ok (.bipush (-2), 2) := by decide +kernel
theorem dX5_write_96 : decode cX5_write 96 = .ok (.iload 4, 2) := by decide +kernel
theorem dX5_write_98 : decode cX5_write 98 = .ok (.isub, 1) := by decide +kernel
theorem dX5_write_99 : decode cX5_write 99 = .ok (.ireturn, 1) := by decide +kernel
theorem dX5_write_100 : decode cX5_write 100 = .ok (.aload_n 0, 1) := by decide +kernel
theorem dX5_write_101 : decode cX5_write 101 = .ok (.getfield 33, 3) := by decide +kernel
theorem dX5_write_104 : decode cX5_write 104 = .ok (.iload_n 1, 1) := by decide +kernel
theorem dX5_write_105 : decode cX5_write 105 = .ok (.dup2, 1) := by decide +kernel
theorem dX5_write_106 : decode cX5_write 106 = .ok (.iaload, 1) := by decide +kernel
theorem dX5_write_107 : decode cX5_write 107 = .ok (.iload_n 2, 1) := by decide +kernel
theorem dX5_write_108 : decode cX5_write 108 = .ok (.iadd, 1) := by decide +kernel
theorem dX5_write_109 : decode cX5_write 109 = .ok (.iastore, 1) := by decide +kernel
theorem dX5_write_110 : decode cX5_write 110 = .ok (.aload_n 0, 1) := by decide +kernel
theorem dX5_write_111 : decode cX5_write 111 = .ok (.invokevirtual 103, 3) := by decide +kernel
theorem dX5_write_114 : decode cX5_write 114 = .ok (.aload_n 0, 1) := by decide +kernel
theorem dX5_write_115 : decode cX5_write 115 = .ok (.getfield 33, 3) := by decide +kernel
theorem dX5_write_118 : decode cX5_write 118 = .ok (.iload_n 1, 1) := by decide +kernel
theorem dX5_write_119 : decode cX5_write 119 = .ok (.iaload, 1) := by decide +kernel
theorem dX5_write_120 : decode cX5_write 120 = .ok (.ireturn, 1) := by decide +kernel
theorem dX5_delete_0 : decode cX5_delete 0 = .ok (.aload_n 0, 1) := by decide +kernel
theorem dX5_delete_1 : decode cX5_delete 1 = .ok (.aload_n 0, 1) := by decide +kernel
theorem dX5_delete_2 : decode cX5_delete 2 = .ok (.iload_n 1, 1) := by decide +kernel
theorem dX5_delete_3 : decode cX5_delete 3 = .ok (.invokevirtual 139, 3) := by decide +kernel
theorem dX5_delete_6 : decode cX5_delete 6 = .ok (.ifCond .eq 7, 3) := by decide +kernel
theorem dX5_delete_9 : decode cX5_delete 9 = .ok (.iconst 0, 1) := by decide +kernel
theorem dX5_delete_10 : decode cX5_delete 10 = .ok (.goto 4, 3) := by decide +kernel
theorem dX5_delete_13 : decode cX5_delete 13 = .ok (.iconst 1, 1) := by decide +kernel
theorem dX5_delete_14 : decode cX5_delete 14 = .ok (.invokevirtual 67, 3) := by decide +kernel
theorem dX5_delete_17 : decode cX5_delete 17 = .ok (.ifCond .eq 5, 3) := by decide +kernel
theorem dX5_delete_20 : decode cX5_delete 20 = .ok (.iconst 0, 1) := by decide +kernel
theorem dX5_delete_21 : decode cX5_delete 21 = .ok (.ireturn, 1) := by decide +kernel
theorem dX5_delete_22 : decode cX5_delete 22 = .ok (.aload_n 0, 1) := by decide +kernel
theorem dX5_delete_23 : decode cX5_delete 23 = .ok (.iload_n 1, 1) := by decide +kernel
theorem dX5_delete_24 : decode cX5_delete 24 = .ok (.invokevirtual 112, 3) := by decide +kernel
theorem dX5_delete_27 : decode cX5_delete 27 = .ok (.istore_n 2, 1) := by decide +kernel
theorem dX5_delete_28 : decode cX5_delete 28 = .ok (.aload_n 0, 1) := by decide +kernel
theorem dX5_delete_29 : decode cX5_delete 29 = .ok (.getfield 36, 3) := by decide +kernel
theorem dX5_delete_32 : decode cX5_delete 32 = .ok (.iload_n 1, 1) := by decide +kernel
theorem dX5_delete_33 : decode cX5_delete 33 = .ok (.iconst 1, 1) := by decide +kernel
theorem dX5_delete_34 : decode cX5_delete 34 = .ok (.bastore, 1) := by decide +kernel
theorem dX5_delete_35 : decode cX5_delete 35 = .ok (.iconst 0, 1) := by decide +kernel
theorem dX5_delete_36 : decode cX5_delete 36 = .ok (.istore_n 3, 1) := by decide +kernel
theorem dX5_delete_37 : decode cX5_delete 37 = .ok (.iload_n 3, 1) := by decide +kernel
theorem dX5_delete_38 : decode cX5_delete 38 = .ok (.aload_n 0, 1) := by decide +kernel
theorem dX5_delete_39 : decode cX5_delete 39 = .ok (.getfield 106, 3) := by decide +kernel
theorem dX5_delete_42 : decode cX5_delete 42 = .ok (.if_icmp .ge 39, 3) := by decide +kernel
theorem dX5_delete_45 : decode cX5_delete 45 = .ok (.aload_n 0, 1) := by decide +kernel
theorem dX5_delete_46 : decode cX5_delete 46 = .ok (.getfield 46, 3) := by decide +kernel
theorem dX5_delete_49 : decode cX5_delete 49 = .ok (.iload_n 3, 1) := by decide +kernel
theorem dX5_delete_50 : decode cX5_delete 50 = .ok (.aload_n 0, 1) := by decide +kernel
theorem dX5_delete_51 : decode cX5_delete 51 = .ok (.getfield 46, 3) := by decide +kernel
theorem dX5_delete_54 : decode cX5_delete 54 = .ok (.iload_n 3, 1) := by decide +kernel
theorem dX5_delete_55 : decode cX5_delete 55 = .ok (.baload, 1) := by decide +kernel
theorem dX5_delete_56 : decode cX5_delete 56 = .ok (.ifCond .eq 17, 3) := by decide +kernel
theorem dX5_delete_59 : decode cX5_delete 59 = .ok (.aload_n 0, 1) := by decide +kernel
theorem dX5_delete_60 : decode cX5_delete 60 = .ok (.getfield 40, 3) := by decide +kernel
theorem dX5_delete_63 : decode cX5_delete 63 = .ok (.iload_n 3, 1) := by decide +kernel
theorem dX5_delete_64 : decode cX5_delete 64 = .ok (.iaload, 1) := by decide +kernel
theorem dX5_delete_65 : decode cX5_delete 65 = .ok (.iload_n 1, 1) := by decide +kernel
theorem dX5_delete_66 : decode cX5_delete 66 = .ok (.if_icmp .eq 7, 3) := by decide +kernel
theorem dX5_delete_69 : decode cX5_delete 69 = .ok (.iconst 1, 1) := by decide +kernel
theorem dX5_delete_70 : decode cX5_delete 70 = .ok (.goto 4, 3) := by decide +kernel
theorem dX5_delete_73 : decode cX5_delete 73 = .ok (.iconst 0, 1) := by decide +kernel
theorem dX5_delete_74 : decode cX5_delete 74 = .ok (.bastore, 1) := by decide +kernel
theorem dX5_delete_75 : decode cX5_delete 75 = .ok (.iinc 3 1, 3) := by decide +kernel
theorem dX5_delete_78 : decode cX5_delete 78 = .ok (.goto (-41), 3) := by decide +kernel
theorem dX5_delete_81 : decode cX5_delete 81 = .ok (.aload_n 0, 1) := by decide +kernel
theorem dX5_delete_82 : decode cX5_delete 82 = .ok (.invokevirtual 103, 3) := by decide +kernel
theorem dX5_delete_85 : decode cX5_delete 85 = .ok (.iload_n 2, 1) := by decide +kernel
theorem dX5_delete_86 : decode cX5_delete 86 = .ok (.ireturn, 1) := by decide +kernel
theorem dX5_moveFile_0 : decode cX5_moveFile 0 = .ok (.aload_n 0, 1) := by decide +kernel
theorem dX5_moveFile_1 : decode cX5_moveFile 1 = .ok (.aload_n 0, 1) := by decide +kernel
theorem dX5_moveFile_2 : decode cX5_moveFile 2 = .ok (.iload_n 1, 1) := by decide +kernel
theorem dX5_moveFile_3 : decode cX5_moveFile 3 = .ok (.invokevirtual 139, 3) := by decide +kernel
theorem dX5_moveFile_6 : decode cX5_moveFile 6 = .ok (.ifCond .eq 15, 3) := by decide +kernel
theorem dX5_moveFile_9 : decode cX5_moveFile 9 = .ok (.aload_n 0, 1) := by decide +kernel
theorem dX5_moveFile_10 : decode cX5_moveFile 10 = .ok (.iload_n 2, 1) := by decide +kernel
theorem dX5_moveFile_11 : decode cX5_moveFile 11 = .ok (.invokevirtual 93, 3) := by decide +kernel
theorem dX5_moveFile_14 : decode cX5_moveFile 14 = .ok (.ifCond .eq 7, 3) := by decide +kernel
theorem dX5_moveFile_17 : decode cX5_moveFile 17 = .ok (.iconst 0, 1) := by decide +kernel
theorem dX5_moveFile_18 : decode cX5_moveFile 18 = .ok (.goto 4, 3) := by decide +kernel
theorem dX5_moveFile_21 : decode cX5_moveFile 21 = .ok (.iconst 1, 1) := by decide +kernel
theorem dX5_moveFile_22 : decode cX5_moveFile 22 = .ok (.invokevirtual 67, 3) := by decide +kernel
theorem dX5_moveFile_25 : decode cX5_moveFile 25 = .ok (.ifCond .eq 5, 3) := by decide +kernel
theorem dX5_moveFile_28 : decode cX5_moveFile 28 = .ok (.iconst 0, 1) := by decide +kernel
theorem dX5_moveFile_29 : decode cX5_moveFile 29 = .ok (.ireturn, 1) := by decide +kernel
theorem dX5_moveFile_30 : decode cX5_moveFile 30 = .ok (.aload_n 0, 1) := by decide +kernel
theorem dX5_moveFile_31 : decode cX5_moveFile 31 = .ok (.getfield 30, 3) := by decide +kernel
theorem dX5_moveFile_34 : decode cX5_moveFile 34 = .ok (.iload_n 1, 1) := by decide +kernel
theorem dX5_moveFile_35 : decode cX5_moveFile 35 = .ok (.iaload, 1) := by decide +kernel
theorem dX5_moveFile_36 : decode cX5_moveFile 36 = .ok (.istore_n 3, 1) := by decide +kernel
theorem dX5_moveFile_37 : decode cX5_moveFile 37 = .ok (.aload_n 0, 1) := by decide +kernel
theorem dX5_moveFile_38 : decode cX5_moveFile 38 = .ok (.getfield 30, 3) := by decide +kernel
theorem dX5_moveFile_41 : decode cX5_moveFile 41 = .ok (.iload_n 1, 1) := by decide +kernel
theorem dX5_moveFile_42 : decode cX5_moveFile 42 = .ok (.iload_n 2, 1) := by decide +kernel
theorem dX5_moveFile_43 : decode cX5_moveFile 43 = .ok (.iastore, 1) := by decide +kernel
theorem dX5_moveFile_44 : decode cX5_moveFile 44 = .ok (.aload_n 0, 1) := by decide +kernel
theorem dX5_moveFile_45 : decode cX5_moveFile 45 = .ok (.invokevirtual 103, 3) := by decide +kernel
theorem dX5_moveFile_48 : decode cX5_moveFile 48 = .ok (.iload_n 3, 1) := by decide +kernel
theorem dX5_moveFile_49 : decode cX5_moveFile 49 = .ok (.ireturn, 1) := by decide +kernel
theorem dX5_reserve_0 : decode cX5_reserve 0 = .ok (.aload_n 0, 1) := by decide +kernel
theorem dX5_reserve_1 : decode cX5_reserve 1 = .ok (.aload_n 0, 1) := by decide +kernel
theorem dX5_reserve_2 : decode cX5_reserve 2 = .ok (.iload_n 1, 1) := by decide +kernel
theorem dX5_reserve_3 : decode cX5_reserve 3 = .ok (.invokevirtual 139, 3) := by decide +kernel
theorem dX5_reserve_6 : decode cX5_reserve 6 = .ok (.ifCond .ne 7, 3) := by decide +kernel
theorem dX5_reserve_9 : decode cX5_reserve 9 = .ok (.iconst 1, 1) := by decide +kernel
theorem dX5_reserve_10 : decode cX5_reserve 10 = .ok (.goto 32, 3) := by decide +kernel
theorem dX5_reserve_13 : decode cX5_reserve 13 = .ok (.iload_n 2, 1) := by decide +kernel
theorem dX5_reserve_14 : decode cX5_reserve 14 = .ok (.iconst 1, 1) := by decide +kernel
theorem dX5_reserve_15 : decode cX5_reserve 15 = .ok (.sipush 1000, 3) := by decide +kernel
theorem dX5_reserve_18 : decode cX5_reserve 18 = .ok (.invokestatic 78, 3) := by decide +kernel
theorem dX5_reserve_21 : decode cX5_reserve 21 = .ok (.ifCond .ne 7, 3) := by decide +kernel
theorem dX5_reserve_24 : decode cX5_reserve 24 = .ok (.iconst 2, 1) := by decide +kernel
theorem dX5_reserve_25 : decode cX5_reserve 25 = .ok (.goto 17, 3) := by decide +kernel
theorem dX5_reserve_28 : decode cX5_reserve 28 = .ok (.aload_n 0, 1) := by decide +kernel
theorem dX5_reserve_29 : decode cX5_reserve 29 = .ok (.getfield 106, 3) := by decide +kernel
theorem dX5_reserve_32 : decode cX5_reserve 32 = .ok (.bipush 30, 2) := by decide +kernel
theorem dX5_reserve_34 : decode cX5_reserve 34 = .ok (.if_icmp .ne 7, 3) := by decide +kernel
theorem dX5_reserve_37 : decode cX5_reserve 37 = .ok (.iconst 3, 1) := by decide +kernel
theorem dX5_reserve_38 : decode cX5_reserve 38 = .ok (.goto 4, 3) := by decide +kernel
theorem dX5_reserve_41 : decode cX5_reserve 41 = .ok (.iconst 0, 1) := by decide +kernel
theorem dX5_reserve_42 : decode cX5_reserve 42 = .ok (.invokevirtual 67, 3) := by decide +kernel
theorem dX5_reserve_45 : decode cX5_reserve 45 = .ok (.ifCond .eq 5, 3) := by decide +kernel
theorem dX5_reserve_48 : decode cX5_reserve 48 = .ok (.iconst 0, 1) := by decide +kernel
theorem dX5_reserve_49 : decode cX5_reserve 49 = .ok (.ireturn, 1) := by decide +kernel
theorem dX5_reserve_50 : decode cX5_reserve 50 = .ok (.aload_n 0, 1) := by decide +kernel
theorem dX5_reserve_51 : decode cX5_reserve 51 = .ok (.aload_n 0, 1) := by decide +kernel
theorem dX5_reserve_52 : decode cX5_reserve 52 = .ok (.getfield 27, 3) := by decide +kernel
theorem dX5_reserve_55 : decode cX5_reserve 55 = .ok (.iload_n 1, 1) := by decide +kernel
theorem dX5_reserve_56 : decode cX5_reserve 56 = .ok (.iaload, 1) := by decide +kernel
theorem dX5_reserve_57 : decode cX5_reserve 57 = .ok (.aload_n 0, 1) := by decide +kernel
theorem dX5_reserve_58 : decode cX5_reserve 58 = .ok (.getfield 30, 3) := by decide +kernel
theorem dX5_reserve_61 : decode cX5_reserve 61 = .ok (.iload_n 1, 1) := by decide +kernel
theorem dX5_reserve_62 : decode cX5_reserve 62 = .ok (.iaload, 1) := by decide +kernel
theorem dX5_reserve_63 : decode cX5_reserve 63 = .ok (.iload_n 2, 1) := by decide +kernel
theorem dX5_reserve_64 : decode cX5_reserve 64 = .ok (.iconst 0, 1) := by decide +kernel
theorem dX5_reserve_65 : decode cX5_reserve 65 = .ok (.invokevirtual 135, 3) := by decide +kernel
theorem dX5_reserve_68 : decode cX5_reserve 68 = .ok (.istore_n 3, 1) := by decide +kernel
theorem dX5_reserve_69 : decode cX5_reserve 69 = .ok (.iload_n 3, 1) := by decide +kernel
theorem dX5_reserve_70 : decode cX5_reserve 70 = .ok (.iconst (-1), 1) := by decide +kernel
theorem dX5_reserve_71 : decode cX5_reserve 71 = .ok (.if_icmp .eq 8, 3) := by decide +kernel
theorem dX5_reserve_74 : decode cX5_reserve 74 = .ok (.bipush (-2), 2) := by decide +kernel
theorem dX5_reserve_76 : decode cX5_reserve 76 = .ok (.iload_n 3, 1) := by decide +kernel
theorem dX5_reserve_77 : decode cX5_reserve 77 = .ok (.isub, 1) := by decide +kernel
theorem dX5_reserve_78 : decode cX5_reserve 78 = .ok (.ireturn, 1) := by decide +kernel
theorem dX5_reserve_79 : decode cX5_reserve 79 = .ok (.aload_n 0, 1) := by decide +kernel
theorem dX5_reserve_80 : decode cX5_reserve 80 = .ok (.getfield 40, 3) := by decide +kernel
theorem dX5_reserve_83 : decode cX5_reserve 83 = .ok (.aload_n 0, 1) := by decide +kernel
theorem dX5_reserve_84 : decode cX5_reserve 84 = .ok (.getfield 106, 3) := by decide +kernel
theorem dX5_reserve_87 : decode cX5_reserve 87 = .ok (.iload_n 1, 1) := by decide +kernel
theorem dX5_reserve_88 : decode cX5_reserve 88 = .ok (.iastore, 1) := by decide +kernel
theorem dX5_reserve_89 : decode cX5_reserve 89 = .ok (.aload_n 0, 1) := by decide +kernel
theorem dX5_reserve_90 : decode cX5_reserve 90 = .ok (.getfield 43, 3) := by decide +kernel
theorem dX5_reserve_93 : decode cX5_reserve 93 = .ok (.aload_n 0, 1) := by decide +kernel
theorem dX5_reserve_94 : decode cX5_reserve 94 = .ok (.getfield 106, 3) := by decide +kernel
theorem dX5_reserve_97 : decode cX5_reserve 97 = .ok (.iload_n 2, 1) := by decide +kernel
theorem dX5_reserve_98 : decode cX5_reserve 98 = .ok (.iastore, 1) := by decide +kernel
theorem dX5_reserve_99 : decode cX5_reserve 99 = .ok (.aload_n 0, 1) := by decide +kernel
theorem dX5_reserve_100 : decode cX5_reserve 100 = .ok (.getfield 46, 3) := by decide +kernel
theorem dX5_reserve_103 : decode cX5_reserve 103 = .ok (.aload_n 0, 1) := by decide +kernel
theorem dX5_reserve_104 : decode cX5_reserve 104 = .ok (.getfield 106, 3) := by decide +kernel
theorem dX5_reserve_107 : decode cX5_reserve 107 = .ok (.iconst 1, 1) := by decide +kernel
theorem dX5_reserve_108 : decode cX5_reserve 108 = .ok (.bastore, 1) := by decide +kernel
theorem dX5_reserve_109 : decode cX5_reserve 109 = .ok (.aload_n 0, 1) := by decide +kernel
theorem dX5_reserve_110 : decode cX5_reserve 110 = .ok (.dup, 1) := by decide +kernel
theorem dX5_reserve_111 : decode cX5_reserve 111 = .ok (.getfield 106, 3) := by decide +kernel
theorem dX5_reserve_114 : decode cX5_reserve 114 = .ok (.iconst 1, 1) := by decide +kernel
theorem dX5_reserve_115 : decode cX5_reserve 115 = .ok (.iadd, 1) := by decide +kernel
theorem dX5_reserve_116 : decode cX5_reserve 116 = .ok (.putfield 106, 3) := by decide +kernel
theorem dX5_reserve_119 : decode cX5_reserve 119 = .ok (.aload_n 0, 1) := by decide +kernel
theorem dX5_reserve_120 : decode cX5_reserve 120 = .ok (.invokevirtual 103, 3) := by decide +kernel
theorem dX5_reserve_123 : decode cX5_reserve 123 = .ok (.aload_n 0, 1) := by decide +kernel
theorem dX5_reserve_124 : decode cX5_reserve 124 = .ok (.getfield 106, 3) := by decide +kernel
theorem dX5_reserve_127 : decode cX5_reserve 127 = .ok (.iconst 1, 1) := by decide +kernel
theorem dX5_reserve_128 : decode cX5_reserve 128 = .ok (.isub, 1) := by decide +kernel
theorem dX5_reserve_129 : decode cX5_reserve 129 = .ok (.ireturn, 1) := by decide +kernel
theorem dX5_settle_0 : decode cX5_settle 0 = .ok (.iload_n 1, 1) := by decide +kernel
theorem dX5_settle_1 : decode cX5_settle 1 = .ok (.iconst 0, 1) := by decide +kernel
theorem dX5_settle_2 : decode cX5_settle 2 = .ok (.aload_n 0, 1) := by decide +kernel
theorem dX5_settle_3 : decode cX5_settle 3 = .ok (.getfield 106, 3) := by decide +kernel
theorem dX5_settle_6 : decode cX5_settle 6 = .ok (.iconst 1, 1) := by decide +kernel
theorem dX5_settle_7 : decode cX5_settle 7 = .ok (.isub, 1) := by decide +kernel
theorem dX5_settle_8 : decode cX5_settle 8 = .ok (.invokestatic 78, 3) := by decide +kernel
theorem dX5_settle_11 : decode cX5_settle 11 = .ok (.ifCond .eq 16, 3) := by decide +kernel
theorem dX5_settle_14 : decode cX5_settle 14 = .ok (.aload_n 0, 1) := by decide +kernel
theorem dX5_settle_15 : decode cX5_settle 15 = .ok (.getfield 46, 3) := by decide +kernel
theorem dX5_settle_18 : decode cX5_settle 18 = .ok (.iload_n 1, 1) := by decide +kernel
theorem dX5_settle_19 : decode cX5_settle 19 = .ok (.baload, 1) := by decide +kernel
theorem dX5_settle_20 : decode cX5_settle 20 = .ok (.ifCond .eq 7, 3) := by decide +kernel
theorem dX5_settle_23 : decode cX5_settle 23 = .ok (.iconst 1, 1) := by decide +kernel
theorem dX5_settle_24 : decode cX5_settle 24 = .ok (.goto 4, 3) := by decide +kernel
theorem dX5_settle_27 : decode cX5_settle 27 = .ok (.iconst 0, 1) := by decide +kernel
theorem dX5_settle_28 : decode cX5_settle 28 = .ok (.istore_n 3, 1) := by decide +kernel
theorem dX5_settle_29 : decode cX5_settle 29 = .ok (.aload_n 0, 1) := by decide +kernel
theorem dX5_settle_30 : decode cX5_settle 30 = .ok (.iload_n 3, 1) := by decide +kernel
theorem dX5_settle_31 : decode cX5_settle 31 = .ok (.ifCond .ne 7, 3) := by decide +kernel
theorem dX5_settle_34 : decode cX5_settle 34 = .ok (.iconst 1, 1) := by decide +kernel
theorem dX5_settle_35 : decode cX5_settle 35 = .ok (.goto 22, 3) := by decide +kernel
theorem dX5_settle_38 : decode cX5_settle 38 = .ok (.iload_n 2, 1) := by decide +kernel
theorem dX5_settle_39 : decode cX5_settle 39 = .ok (.iconst 0, 1) := by decide +kernel
theorem dX5_settle_40 : decode cX5_settle 40 = .ok (.aload_n 0, 1) := by decide +kernel
theorem dX5_settle_41 : decode cX5_settle 41 = .ok (.getfield 43, 3) := by decide +kernel
theorem dX5_settle_44 : decode cX5_settle 44 = .ok (.iload_n 1, 1) := by decide +kernel
theorem dX5_settle_45 : decode cX5_settle 45 = .ok (.iaload, 1) := by decide +kernel
theorem dX5_settle_46 : decode cX5_settle 46 = .ok (.invokestatic 78, 3) := by decide +kernel
theorem dX5_settle_49 : decode cX5_settle 49 = .ok (.ifCond .eq 7, 3) := by decide +kernel
theorem dX5_settle_52 : decode cX5_settle 52 = .ok (.iconst 0, 1) := by decide +kernel
theorem dX5_settle_53 : decode cX5_settle 53 = .ok (.goto 4, 3) := by decide +kernel
theorem dX5_settle_56 : decode cX5_settle 56 = .ok (.iconst 2, 1) := by decide +kernel
theorem dX5_settle_57 : decode cX5_settle 57 = .ok (.invokevirtual 67, 3) := by decide +kernel
theorem dX5_settle_60 : decode cX5_settle 60 = .ok (.ifCond .eq 5, 3) := by decide +kernel
theorem dX5_settle_63 : decode cX5_settle 63 = .ok (.iconst 0, 1) := by decide +kernel
theorem dX5_settle_64 : decode cX5_settle 64 = .ok (.ireturn, 1) := by decide +kernel
theorem dX5_settle_65 : decode cX5_settle 65 = .ok (.aload_n 0, 1) := by decide +kernel
theorem dX5_settle_66 : decode cX5_settle 66 = .ok (.getfield 46, 3) := by decide +kernel
theorem dX5_settle_69 : decode cX5_settle 69 = .ok (.iload_n 1, 1) := by decide +kernel
theorem dX5_settle_70 : decode cX5_settle 70 = .ok (.iconst 0, 1) := by decide +kernel
theorem dX5_settle_71 : decode cX5_settle 71 = .ok (.bastore, 1) := by decide +kernel
theorem dX5_settle_72 : decode cX5_settle 72 = .ok (.aload_n 0, 1) := by decide +kernel
theorem dX5_settle_73 : decode cX5_settle 73 = .ok (.getfield 33, 3) := by decide +kernel
theorem dX5_settle_76 : decode cX5_settle 76 = .ok (.aload_n 0, 1) := by decide +kernel
theorem dX5_settle_77 : decode cX5_settle 77 = .ok (.getfield 40, 3) := by decide +kernel
theorem dX5_settle_80 : decode cX5_settle 80 = .ok (.iload_n 1, 1) := by decide +kernel
theorem dX5_settle_81 : decode cX5_settle 81 = .ok (.iaload, 1) := by decide +kernel
theorem dX5_settle_82 : decode cX5_settle 82 = .ok (.dup2, 1) := by decide +kernel
theorem dX5_settle_83 : decode cX5_settle 83 = .ok (.iaload, 1) := by decide +kernel
theorem dX5_settle_84 : decode cX5_settle 84 = .ok (.iload_n 2, 1) := by decide +kernel
theorem dX5_settle_85 : decode cX5_settle 85 = .ok (.iadd, 1) := by decide +kernel
theorem dX5_settle_86 : decode cX5_settle 86 = .ok (.iastore, 1) := by decide +kernel
theorem dX5_settle_87 : decode cX5_settle 87 = .ok (.aload_n 0, 1) := by decide +kernel
theorem dX5_settle_88 : decode cX5_settle 88 = .ok (.invokevirtual 103, 3) := by decide +kernel
theorem dX5_settle_91 : decode cX5_settle 91 = .ok (.aload_n 0, 1) := by decide +kernel
theorem dX5_settle_92 : decode cX5_settle 92 = .ok (.getfield 33, 3) := by decide +kernel
theorem dX5_settle_95 : decode cX5_settle 95 = .ok (.aload_n 0, 1) := by decide +kernel
theorem dX5_settle_96 : decode cX5_settle 96 = .ok (.getfield 40, 3) := by decide +kernel
theorem dX5_settle_99 : decode cX5_settle 99 = .ok (.iload_n 1, 1) := by decide +kernel
theorem dX5_settle_100 : decode cX5_settle 100 = .ok (.iaload, 1) := by decide +kernel
theorem dX5_settle_101 : decode cX5_settle 101 = .ok (.iaload, 1) := by decide +kernel
theorem dX5_settle_102 : decode cX5_settle 102 = .ok (.ireturn, 1) := by decide +kernel
theorem dX5_setLimits_0 : decode cX5_setLimits 0 = .ok (.aload_n 0, 1) := by decide +kernel
theorem dX5_setLimits_1 : decode cX5_setLimits 1 = .ok (.iload_n 1, 1) := by decide +kernel
theorem dX5_setLimits_2 : decode cX5_setLimits 2 = .ok (.iload_n 2, 1) := by decide +kernel
theorem dX5_setLimits_3 : decode cX5_setLimits 3 = .ok (.invokevirtual 142, 3) := by decide +kernel
theorem dX5_setLimits_6 : decode cX5_setLimits 6 = .ok (.istore 6, 2) := by decide +kernel
theorem dX5_setLimits_8 : decode cX5_setLimits 8 = .ok (.iload_n 3, 1) := by decide +kernel
theorem dX5_setLimits_9 : decode cX5_setLimits 9 = .ok (.iconst (-1), 1) := by decide +kernel
theorem dX5_setLimits_10 : decode cX5_setLimits 10 = .ok (.ldc 145, 2) := by decide +kernel
theorem dX5_setLimits_12 : decode cX5_setLimits 12 = .ok (.invokestatic 78, 3) := by decide +kernel
theorem dX5_setLimits_15 : decode cX5_setLimits 15 = .ok (.ifCond .eq 29, 3) := by decide +kernel
theorem dX5_setLimits_18 : decode cX5_setLimits 18 = .ok (.iload 4, 2) := by decide +kernel
theorem dX5_setLimits_20 : decode cX5_setLimits 20 = .ok (.iconst (-1), 1) := by decide +kernel
theorem dX5_setLimits_21 : decode cX5_setLimits 21 = .ok (.ldc 145, 2) := by decide +kernel
theorem dX5_setLimits_23 : decode cX5_setLimits 23 = .ok (.invokestatic 78, 3) := by decide +kernel
theorem dX5_setLimits_26 : decode cX5_setLimits 26 = .ok (.ifCond .eq 18, 3) := by decide +kernel
theorem dX5_setLimits_29 : decode cX5_setLimits 29 = .ok (.iload 5, 2) := by decide +kernel
theorem dX5_setLimits_31 : decode cX5_setLimits 31 = .ok (.iconst (-1), 1) := by decide +kernel
theorem dX5_setLimits_32 : decode cX5_setLimits 32 = .ok (.bipush 100, 2) := by decide +kernel
theorem dX5_setLimits_34 : decode cX5_setLimits 34 = .ok (.invokestatic 78, 3) := by decide +kernel
theorem dX5_setLimits_37 : decode cX5_setLimits 37 = .ok (.ifCond .eq 7, 3) := by decide +kernel
theorem dX5_setLimits_40 : decode cX5_setLimits 40 = .ok (.iconst 1, 1) := by decide +kernel
theorem dX5_setLimits_41 : decode cX5_setLimits 41 = .ok (.goto 4, 3) := by decide +kernel
theorem dX5_setLimits_44 : decode cX5_setLimits 44 = .ok (.iconst 0, 1) := by decide +kernel
theorem dX5_setLimits_45 : decode cX5_setLimits 45 = .ok (.istore 7, 2) := by decide +kernel
theorem dX5_setLimits_47 : decode cX5_setLimits 47 = .ok (.aload_n 0, 1) := by decide +kernel
theorem dX5_setLimits_48 : decode cX5_setLimits 48 = .ok (.iload 6, 2) := by decide +kernel
theorem dX5_setLimits_50 : decode cX5_setLimits 50 = .ok (.iconst (-1), 1) := by decide +kernel
theorem dX5_setLimits_51 : decode cX5_setLimits 51 = .ok (.if_icmp .ne 7, 3) := by decide +kernel
theorem dX5_setLimits_54 : decode cX5_setLimits 54 = .ok (.iconst 1, 1) := by decide +kernel
theorem dX5_setLimits_55 : decode cX5_setLimits 55 = .ok (.goto 13, 3) := by decide +kernel
theorem dX5_setLimits_58 : decode cX5_setLimits 58 = .ok (.iload 7, 2) := by decide +kernel
theorem dX5_setLimits_60 : decode cX5_setLimits 60 = .ok (.ifCond .eq 7, 3) := by decide +kernel
theorem dX5_setLimits_63 : decode cX5_setLimits 63 = .ok (.iconst 0, 1) := by decide +kernel
theorem dX5_setLimits_64 : decode cX5_setLimits 64 = .ok (.goto 4, 3) := by decide +kernel
theorem dX5_setLimits_67 : decode cX5_setLimits 67 = .ok (.iconst 2, 1) := by decide +kernel
theorem dX5_setLimits_68 : decode cX5_setLimits 68 = .ok (.invokevirtual 67, 3) := by decide +kernel
theorem dX5_setLimits_71 : decode cX5_setLimits 71 = .ok (.ifCond .ne 33, 3) := by decide +kernel
theorem dX5_setLimits_74 : decode cX5_setLimits 74 = .ok (.aload_n 0, 1) := by decide +kernel
theorem dX5_setLimits_75 : decode cX5_setLimits 75 = .ok (.getfield 49, 3) := by decide +kernel
theorem dX5_setLimits_78 : decode cX5_setLimits 78 = .ok (.iload 6, 2) := by decide +kernel
theorem dX5_setLimits_80 : decode cX5_setLimits 80 = .ok (.iload_n 3, 1) := by decide +kernel
theorem dX5_setLimits_81 : decode cX5_setLimits 81 = .ok (.iastore, 1) := by decide +kernel
theorem dX5_setLimits_82 : decode cX5_setLimits 82 = .ok (.aload_n 0, 1) := by decide +kernel
theorem dX5_setLimits_83 : decode cX5_setLimits 83 = .ok (.getfield 52, 3) := by decide +kernel
theorem dX5_setLimits_86 : decode cX5_setLimits 86 = .ok (.iload 6, 2) := by decide +kernel
theorem dX5_setLimits_88 : decode cX5_setLimits 88 = .ok (.iload 4, 2) := by decide +kernel
theorem dX5_setLimits_90 : decode cX5_setLimits 90 = .ok (.iastore, 1) := by decide +kernel
theorem dX5_setLimits_91 : decode cX5_setLimits 91 = .ok (.aload_n 0, 1) := by decide +kernel
theorem dX5_setLimits_92 : decode cX5_setLimits 92 = .ok (.getfield 55, 3) := by decide +kernel
theorem dX5_setLimits_95 : decode cX5_setLimits 95 = .ok (.iload 6, 2) := by decide +kernel
theorem dX5_setLimits_97 : decode cX5_setLimits 97 = .ok (.iload 5, 2) := by decide +kernel
theorem dX5_setLimits_99 : decode cX5_setLimits 99 = .ok (.iastore, 1) := by decide +kernel
theorem dX5_setLimits_100 : decode cX5_setLimits 100 = .ok (.aload_n 0, 1) := by decide +kernel
theorem dX5_setLimits_101 : decode cX5_setLimits 101 = .ok (.invokevirtual 103, 3) := by decide +kernel
theorem dX5_setLimits_104 : decode cX5_setLimits 104 = .ok (.return_, 1) := by decide +kernel
theorem dX5_pass_0 : decode cX5_pass 0 = .ok (.aload_n 0, 1) := by decide +kernel
theorem dX5_pass_1 : decode cX5_pass 1 = .ok (.iload_n 1, 1) := by decide +kernel
theorem dX5_pass_2 : decode cX5_pass 2 = .ok (.iconst 1, 1) := by decide +kernel
theorem dX5_pass_3 : decode cX5_pass 3 = .ok (.sipush 1000, 3) := by decide +kernel
theorem dX5_pass_6 : decode cX5_pass 6 = .ok (.invokestatic 78, 3) := by decide +kernel
theorem dX5_pass_9 : decode cX5_pass 9 = .ok (.ifCond .ne 7, 3) := by decide +kernel
theorem dX5_pass_12 : decode cX5_pass 12 = .ok (.iconst 1, 1) := by decide +kernel
theorem dX5_pass_13 : decode cX5_pass 13 = .ok (.goto 19, 3) := by decide +kernel
theorem dX5_pass_16 : decode cX5_pass 16 = .ok (.aload_n 0, 1) := by decide +kernel
theorem dX5_pass_17 : decode cX5_pass 17 = .ok (.getfield 122, 3) := by decide +kernel
theorem dX5_pass_20 : decode cX5_pass 20 = .ok (.iload_n 1, 1) := by decide +kernel
theorem dX5_pass_21 : decode cX5_pass 21 = .ok (.iadd, 1) := by decide +kernel
theorem dX5_pass_22 : decode cX5_pass 22 = .ok (.ldc 145, 2) := by decide +kernel
theorem dX5_pass_24 : decode cX5_pass 24 = .ok (.if_icmp .le 7, 3) := by decide +kernel
theorem dX5_pass_27 : decode cX5_pass 27 = .ok (.iconst 2, 1) := by decide +kernel
theorem dX5_pass_28 : decode cX5_pass 28 = .ok (.goto 4, 3) := by decide +kernel
theorem dX5_pass_31 : decode cX5_pass 31 = .ok (.iconst 0, 1) := by decide +kernel
theorem dX5_pass_32 : decode cX5_pass 32 = .ok (.invokevirtual 67, 3) := by decide +kernel
theorem dX5_pass_35 : decode cX5_pass 35 = .ok (.ifCond .eq 5, 3) := by decide +kernel
theorem dX5_pass_38 : decode cX5_pass 38 = .ok (.iconst 0, 1) := by decide +kernel
theorem dX5_pass_39 : decode cX5_pass 39 = .ok (.ireturn, 1) := by decide +kernel
theorem dX5_pass_40 : decode cX5_pass 40 = .ok (.aload_n 0, 1) := by decide +kernel
theorem dX5_pass_41 : decode cX5_pass 41 = .ok (.dup, 1) := by decide +kernel
theorem dX5_pass_42 : decode cX5_pass 42 = .ok (.getfield 122, 3) := by decide +kernel
theorem dX5_pass_45 : decode cX5_pass 45 = .ok (.iload_n 1, 1) := by decide +kernel
theorem dX5_pass_46 : decode cX5_pass 46 = .ok (.iadd, 1) := by decide +kernel
theorem dX5_pass_47 : decode cX5_pass 47 = .ok (.putfield 122, 3) := by decide +kernel
theorem dX5_pass_50 : decode cX5_pass 50 = .ok (.aload_n 0, 1) := by decide +kernel
theorem dX5_pass_51 : decode cX5_pass 51 = .ok (.getfield 122, 3) := by decide +kernel
theorem dX5_pass_54 : decode cX5_pass 54 = .ok (.ireturn, 1) := by decide +kernel
theorem dX5_noAccount_0 : decode cX5_noAccount 0 = .ok (.aload_n 0, 1) := by decide +kernel
theorem dX5_noAccount_1 : decode cX5_noAccount 1 = .ok (.iload_n 1, 1) := by decide +kernel
theorem dX5_noAccount_2 : decode cX5_noAccount 2 = .ok (.iconst (-1), 1) := by decide +kernel
theorem dX5_noAccount_3 : decode cX5_noAccount 3 = .ok (.if_icmp .ne 7, 3) := by decide +kernel
theorem dX5_noAccount_6 : decode cX5_noAccount 6 = .ok (.iconst 1, 1) := by decide +kernel
theorem dX5_noAccount_7 : decode cX5_noAccount 7 = .ok (.goto 4, 3) := by decide +kernel
theorem dX5_noAccount_10 : decode cX5_noAccount 10 = .ok (.iconst 0, 1) := by decide +kernel
theorem dX5_noAccount_11 : decode cX5_noAccount 11 = .ok (.invokevirtual 67, 3) := by decide +kernel
theorem dX5_noAccount_14 : decode cX5_noAccount 14 = .ok (.ireturn, 1) := by decide +kernel
theorem dX5_used_0 : decode cX5_used 0 = .ok (.aload_n 0, 1) := by decide +kernel
theorem dX5_used_1 : decode cX5_used 1 = .ok (.iload_n 1, 1) := by decide +kernel
theorem dX5_used_2 : decode cX5_used 2 = .ok (.iload_n 2, 1) := by decide +kernel
theorem dX5_used_3 : decode cX5_used 3 = .ok (.invokevirtual 142, 3) := by decide +kernel
theorem dX5_used_6 : decode cX5_used 6 = .ok (.istore_n 3, 1) := by decide +kernel
theorem dX5_used_7 : decode cX5_used 7 = .ok (.aload_n 0, 1) := by decide +kernel
theorem dX5_used_8 : decode cX5_used 8 = .ok (.iload_n 3, 1) := by decide +kernel
theorem dX5_used_9 : decode cX5_used 9 = .ok (.invokevirtual 146, 3) := by decide +kernel
theorem dX5_used_12 : decode cX5_used 12 = .ok (.ifCond .eq 7, 3) := by decide +kernel
theorem dX5_used_15 : decode cX5_used 15 = .ok (.iconst 0, 1) := by decide +kernel
theorem dX5_used_16 : decode cX5_used 16 = .ok (.goto 12, 3) := by decide +kernel
theorem dX5_used_19 : decode cX5_used 19 = .ok (.aload_n 0, 1) := by decide +kernel
theorem dX5_used_20 : decode cX5_used 20 = .ok (.iload_n 3, 1) := by decide +kernel
theorem dX5_used_21 : decode cX5_used 21 = .ok (.aload_n 0, 1) := by decide +kernel
theorem dX5_used_22 : decode cX5_used 22 = .ok (.getfield 115, 3) := by decide +kernel
theorem dX5_used_25 : decode cX5_used 25 = .ok (.invokevirtual 118, 3) := by decide +kernel
theorem dX5_used_28 : decode cX5_used 28 = .ok (.ireturn, 1) := by decide +kernel
theorem dX5_filesOf_0 : decode cX5_filesOf 0 = .ok (.aload_n 0, 1) := by decide +kernel
theorem dX5_filesOf_1 : decode cX5_filesOf 1 = .ok (.iload_n 1, 1) := by decide +kernel
theorem dX5_filesOf_2 : decode cX5_filesOf 2 = .ok (.iload_n 2, 1) := by decide +kernel
theorem dX5_filesOf_3 : decode cX5_filesOf 3 = .ok (.invokevirtual 142, 3) := by decide +kernel
theorem dX5_filesOf_6 : decode cX5_filesOf 6 = .ok (.istore_n 3, 1) := by decide +kernel
theorem dX5_filesOf_7 : decode cX5_filesOf 7 = .ok (.aload_n 0, 1) := by decide +kernel
theorem dX5_filesOf_8 : decode cX5_filesOf 8 = .ok (.iload_n 3, 1) := by decide +kernel
theorem dX5_filesOf_9 : decode cX5_filesOf 9 = .ok (.invokevirtual 146, 3) := by decide +kernel
theorem dX5_filesOf_12 : decode cX5_filesOf 12 = .ok (.ifCond .eq 7, 3) := by decide +kernel
theorem dX5_filesOf_15 : decode cX5_filesOf 15 = .ok (.iconst 0, 1) := by decide +kernel
theorem dX5_filesOf_16 : decode cX5_filesOf 16 = .ok (.goto 8, 3) := by decide +kernel
theorem dX5_filesOf_19 : decode cX5_filesOf 19 = .ok (.aload_n 0, 1) := by decide +kernel
theorem dX5_filesOf_20 : decode cX5_filesOf 20 = .ok (.iload_n 3, 1) := by decide +kernel
theorem dX5_filesOf_21 : decode cX5_filesOf 21 = .ok (.invokevirtual 132, 3) := by decide +kernel
theorem dX5_filesOf_24 : decode cX5_filesOf 24 = .ok (.ireturn, 1) := by decide +kernel
theorem dX5_usedByFiles_0 : decode cX5_usedByFiles 0 = .ok (.aload_n 0, 1) := by decide +kernel
theorem dX5_usedByFiles_1 : decode cX5_usedByFiles 1 = .ok (.iload_n 1, 1) := by decide +kernel
theorem dX5_usedByFiles_2 : decode cX5_usedByFiles 2 = .ok (.iload_n 2, 1) := by decide +kernel
theorem dX5_usedByFiles_3 : decode cX5_usedByFiles 3 = .ok (.invokevirtual 149, 3) := by decide +kernel
theorem dX5_usedByFiles_6 : decode cX5_usedByFiles 6 = .ok (.ireturn, 1) := by decide +kernel
theorem dX5_grace_0 : decode cX5_grace 0 = .ok (.aload_n 0, 1) := by decide +kernel
theorem dX5_grace_1 : decode cX5_grace 1 = .ok (.iload_n 1, 1) := by decide +kernel
theorem dX5_grace_2 : decode cX5_grace 2 = .ok (.iload_n 2, 1) := by decide +kernel
theorem dX5_grace_3 : decode cX5_grace 3 = .ok (.invokevirtual 142, 3) := by decide +kernel
theorem dX5_grace_6 : decode cX5_grace 6 = .ok (.istore_n 3, 1) := by decide +kernel
theorem dX5_grace_7 : decode cX5_grace 7 = .ok (.aload_n 0, 1) := by decide +kernel
theorem dX5_grace_8 : decode cX5_grace 8 = .ok (.iload_n 3, 1) := by decide +kernel
theorem dX5_grace_9 : decode cX5_grace 9 = .ok (.invokevirtual 146, 3) := by decide +kernel
theorem dX5_grace_12 : decode cX5_grace 12 = .ok (.ifCond .ne 13, 3) := by decide +kernel
theorem dX5_grace_15 : decode cX5_grace 15 = .ok (.aload_n 0, 1) := by decide +kernel
theorem dX5_grace_16 : decode cX5_grace 16 = .ok (.getfield 58, 3) := by decide +kernel
theorem dX5_grace_19 : decode cX5_grace 19 = .ok (.iload_n 3, 1) := by decide +kernel
theorem dX5_grace_20 : decode cX5_grace 20 = .ok (.iaload, 1) := by decide +kernel
theorem dX5_grace_21 : decode cX5_grace 21 = .ok (.iconst (-1), 1) := by decide +kernel
theorem dX5_grace_22 : decode cX5_grace 22 = .ok (.if_icmp .ne 16, 3) := by decide +kernel
theorem dX5_grace_25 : decode cX5_grace 25 = .ok (.aload_n 0, 1) := by decide +kernel
theorem dX5_grace_26 : decode cX5_grace 26 = .ok (.getfield 61, 3) := by decide +kernel
theorem dX5_grace_29 : decode cX5_grace 29 = .ok (.ifCond .ne 7, 3) := by decide +kernel
theorem dX5_grace_32 : decode cX5_grace 32 = .ok (.iconst (-1), 1) := by decide +kernel
theorem dX5_grace_33 : decode cX5_grace 33 = .ok (.goto 4, 3) := by decide +kernel
theorem dX5_grace_36 : decode cX5_grace 36 = .ok (.iconst 0, 1) := by decide +kernel
theorem dX5_grace_37 : decode cX5_grace 37 = .ok (.ireturn, 1) := by decide +kernel
theorem dX5_grace_38 : decode cX5_grace 38 = .ok (.aload_n 0, 1) := by decide +kernel
theorem dX5_grace_39 : decode cX5_grace 39 = .ok (.iload_n 3, 1) := by decide +kernel
theorem dX5_grace_40 : decode cX5_grace 40 = .ok (.invokevirtual 129, 3) := by decide +kernel
theorem dX5_grace_43 : decode cX5_grace 43 = .ok (.ifCond .eq 7, 3) := by decide +kernel
theorem dX5_grace_46 : decode cX5_grace 46 = .ok (.iconst 0, 1) := by decide +kernel
theorem dX5_grace_47 : decode cX5_grace 47 = .ok (.goto 17, 3) := by decide +kernel
theorem dX5_grace_50 : decode cX5_grace 50 = .ok (.bipush 48, 2) := by decide +kernel
theorem dX5_grace_52 : decode cX5_grace 52 = .ok (.aload_n 0, 1) := by decide +kernel
theorem dX5_grace_53 : decode cX5_grace 53 = .ok (.getfield 122, 3) := by decide +kernel
theorem dX5_grace_56 : decode cX5_grace 56 = .ok (.isub, 1) := by decide +kernel
theorem dX5_grace_57 : decode cX5_grace 57 = .ok (.aload_n 0, 1) := by decide +kernel
theorem dX5_grace_58 : decode cX5_grace 58 = .ok (.getfield 58, 3) := by decide +kernel
theorem dX5_grace_61 : decode cX5_grace 61 = .ok (.iload_n 3, 1) := by decide +kernel
theorem dX5_grace_62 : decode cX5_grace 62 = .ok (.iaload, 1) := by decide +kernel
theorem dX5_grace_63 : decode cX5_grace 63 = .ok (.iadd, 1) := by decide +kernel
theorem dX5_grace_64 : decode cX5_grace 64 = .ok (.ireturn, 1) := by decide +kernel
theorem dX5_room_0 : decode cX5_room 0 = .ok (.aload_n 0, 1) := by decide +kernel
theorem dX5_room_1 : decode cX5_room 1 = .ok (.aload_n 0, 1) := by decide +kernel
theorem dX5_room_2 : decode cX5_room 2 = .ok (.iload_n 1, 1) := by decide +kernel
theorem dX5_room_3 : decode cX5_room 3 = .ok (.invokevirtual 139, 3) := by decide +kernel
theorem dX5_room_6 : decode cX5_room 6 = .ok (.ifCond .eq 7, 3) := by decide +kernel
theorem dX5_room_9 : decode cX5_room 9 = .ok (.iconst 0, 1) := by decide +kernel
theorem dX5_room_10 : decode cX5_room 10 = .ok (.goto 4, 3) := by decide +kernel
theorem dX5_room_13 : decode cX5_room 13 = .ok (.iconst 1, 1) := by decide +kernel
theorem dX5_room_14 : decode cX5_room 14 = .ok (.invokevirtual 67, 3) := by decide +kernel
theorem dX5_room_17 : decode cX5_room 17 = .ok (.ifCond .eq 5, 3) := by decide +kernel
theorem dX5_room_20 : decode cX5_room 20 = .ok (.iconst 0, 1) := by decide +kernel
theorem dX5_room_21 : decode cX5_room 21 = .ok (.ireturn, 1) := by decide +kernel
theorem dX5_room_22 : decode cX5_room 22 = .ok (.iconst (-1), 1) := by decide +kernel
theorem dX5_room_23 : decode cX5_room 23 = .ok (.istore_n 2, 1) := by decide +kernel
theorem dX5_room_24 : decode cX5_room 24 = .ok (.iconst 0, 1) := by decide +kernel
theorem dX5_room_25 : decode cX5_room 25 = .ok (.istore_n 3, 1) := by decide +kernel
theorem dX5_room_26 : decode cX5_room 26 = .ok (.iload_n 3, 1) := by decide +kernel
theorem dX5_room_27 : decode cX5_room 27 = .ok (.iconst 2, 1) := by decide +kernel
theorem dX5_room_28 : decode cX5_room 28 = .ok (.if_icmp .lt 24, 3) := by decide +kernel
theorem dX5_room_31 : decode cX5_room 31 = .ok (.aload_n 0, 1) := by decide +kernel
theorem dX5_room_32 : decode cX5_room 32 = .ok (.aload_n 0, 1) := by decide +kernel
theorem dX5_room_33 : decode cX5_room 33 = .ok (.getfield 27, 3) := by decide +kernel
theorem dX5_room_36 : decode cX5_room 36 = .ok (.iload_n 1, 1) := by decide +kernel
theorem dX5_room_37 : decode cX5_room 37 = .ok (.iaload, 1) := by decide +kernel
theorem dX5_room_38 : decode cX5_room 38 = .ok (.aload_n 0, 1) := by decide +kernel
theorem dX5_room_39 : decode cX5_room 39 = .ok (.getfield 30, 3) := by decide +kernel
theorem dX5_room_42 : decode cX5_room 42 = .ok (.iload_n 1, 1) := by decide +kernel
theorem dX5_room_43 : decode cX5_room 43 = .ok (.iaload, 1) := by decide +kernel
theorem dX5_room_44 : decode cX5_room 44 = .ok (.iload_n 3, 1) := by decide +kernel
theorem dX5_room_45 : decode cX5_room 45 = .ok (.invokevirtual 125, 3) := by decide +kernel
theorem dX5_room_48 : decode cX5_room 48 = .ok (.iconst (-1), 1) := by decide +kernel
theorem dX5_room_49 : decode cX5_room 49 = .ok (.if_icmp .eq 124, 3) := by decide +kernel
theorem dX5_room_52 : decode cX5_room 52 = .ok (.aload_n 0, 1) := by decide +kernel
theorem dX5_room_53 : decode cX5_room 53 = .ok (.aload_n 0, 1) := by decide +kernel
theorem dX5_room_54 : decode cX5_room 54 = .ok (.getfield 27, 3) := by decide +kernel
theorem dX5_room_57 : decode cX5_room 57 = .ok (.iload_n 1, 1) := by decide +kernel
theorem dX5_room_58 : decode cX5_room 58 = .ok (.iaload, 1) := by decide +kernel
theorem dX5_room_59 : decode cX5_room 59 = .ok (.aload_n 0, 1) := by decide +kernel
theorem dX5_room_60 : decode cX5_room 60 = .ok (.getfield 30, 3) := by decide +kernel
theorem dX5_room_63 : decode cX5_room 63 = .ok (.iload_n 1, 1) := by decide +kernel
theorem dX5_room_64 : decode cX5_room 64 = .ok (.iaload, 1) := by decide +kernel
theorem dX5_room_65 : decode cX5_room 65 = .ok (.iload_n 3, 1) := by decide +kernel
theorem dX5_room_66 : decode cX5_room 66 = .ok (.invokevirtual 125, 3) := by decide +kernel
theorem dX5_room_69 : decode cX5_room 69 = .ok (.istore 4, 2) := by decide +kernel
theorem dX5_room_71 : decode cX5_room 71 = .ok (.aload_n 0, 1) := by decide +kernel
theorem dX5_room_72 : decode cX5_room 72 = .ok (.getfield 52, 3) := by decide +kernel
theorem dX5_room_75 : decode cX5_room 75 = .ok (.iload 4, 2) := by decide +kernel
theorem dX5_room_77 : decode cX5_room 77 = .ok (.iaload, 1) := by decide +kernel
theorem dX5_room_78 : decode cX5_room 78 = .ok (.iconst (-1), 1) := by decide +kernel
theorem dX5_room_79 : decode cX5_room 79 = .ok (.if_icmp .ne 7, 3) := by decide +kernel
theorem dX5_room_82 : decode cX5_room 82 = .ok (.iconst (-1), 1) := by decide +kernel
theorem dX5_room_83 : decode cX5_room 83 = .ok (.goto 21, 3) := by decide +kernel
theorem dX5_room_86 : decode cX5_room 86 = .ok (.aload_n 0, 1) := by decide +kernel
theorem dX5_room_87 : decode cX5_room 87 = .ok (.getfield 52, 3) := by decide +kernel
theorem dX5_room_90 : decode cX5_room 90 = .ok (.iload 4, 2) := by decide +kernel
theorem dX5_room_92 : decode cX5_room 92 = .ok (.iaload, 1) := by decide +kernel
theorem dX5_room_93 : decode cX5_room 93 = .ok (.aload_n 0, 1) := by decide +kernel
theorem dX5_room_94 : decode cX5_room 94 = .ok (.iload 4, 2) := by decide +kernel
theorem dX5_room_96 : decode cX5_room 96 = .ok (.aload_n 0, 1) := by decide +kernel
theorem dX5_room_97 : decode cX5_room 97 = .ok (.getfield 115, 3) := by decide +kernel
theorem dX5_room_100 : decode cX5_room 100 = .ok (.invokevirtual 118, 3) := by decide +kernel
theorem dX5_room_103 : decode cX5_room 103 = .ok (.isub, 1) := by decide +kernel
theorem dX5_room_104 : decode cX5_room 104 = .ok (.istore 5, 2) := by decide +kernel
theorem dX5_room_106 : decode cX5_room 106 = .ok (.aload_n 0, 1) := by decide +kernel
theorem dX5_room_107 : decode cX5_room 107 = .ok (.iload 4, 2) := by decide +kernel
theorem dX5_room_109 : decode cX5_room 109 = .ok (.invokevirtual 129, 3) := by decide +kernel
theorem dX5_room_112 : decode cX5_room 112 = .ok (.ifCond .ne 19, 3) := by decide +kernel
theorem dX5_room_115 : decode cX5_room 115 = .ok (.aload_n 0, 1) := by decide +kernel
theorem dX5_room_116 : decode cX5_room 116 = .ok (.getfield 52, 3) := by decide +kernel
theorem dX5_room_119 : decode cX5_room 119 = .ok (.iload 4, 2) := by decide +kernel
theorem dX5_room_121 : decode cX5_room 121 = .ok (.iaload, 1) := by decide +kernel
theorem dX5_room_122 : decode cX5_room 122 = .ok (.iconst (-1), 1) := by decide +kernel
theorem dX5_room_123 : decode cX5_room 123 = .ok (.if_icmp .eq 12, 3) := by decide +kernel
theorem dX5_room_126 : decode cX5_room 126 = .ok (.iload 5, 2) := by decide +kernel
theorem dX5_room_128 : decode cX5_room 128 = .ok (.ifCond .ge 7, 3) := by decide +kernel
theorem dX5_room_131 : decode cX5_room 131 = .ok (.iconst 0, 1) := by decide +kernel
theorem dX5_room_132 : decode cX5_room 132 = .ok (.goto 5, 3) := by decide +kernel
theorem dX5_room_135 : decode cX5_room 135 = .ok (.iload 5, 2) := by decide +kernel
theorem dX5_room_137 : decode cX5_room 137 = .ok (.istore 5, 2) := by decide +kernel
theorem dX5_room_139 : decode cX5_room 139 = .ok (.iload 5, 2) := by decide +kernel
theorem dX5_room_141 : decode cX5_room 141 = .ok (.iconst (-1), 1) := by decide +kernel
theorem dX5_room_142 : decode cX5_room 142 = .ok (.if_icmp .ne 7, 3) := by decide +kernel
theorem dX5_room_145 : decode cX5_room 145 = .ok (.iload_n 2, 1) := by decide +kernel
theorem dX5_room_146 : decode cX5_room 146 = .ok (.goto 20, 3) := by decide +kernel
theorem dX5_room_149 : decode cX5_room 149 = .ok (.iload_n 2, 1) := by decide +kernel
theorem dX5_room_150 : decode cX5_room 150 = .ok (.iconst (-1), 1) := by decide +kernel
theorem dX5_room_151 : decode cX5_room 151 = .ok (.if_icmp .eq 9, 3) := by decide +kernel
theorem dX5_room_154 : decode cX5_room 154 = .ok (.iload 5, 2) := by decide +kernel
theorem dX5_room_156 : decode cX5_room 156 = .ok (.iload_n 2, 1) := by decide +kernel
theorem dX5_room_157 : decode cX5_room 157 = .ok (.if_icmp .ge 8, 3) := by decide +kernel
theorem dX5_room_160 : decode cX5_room 160 = .ok (.iload 5, 2) := by decide +kernel
theorem dX5_room_162 : decode cX5_room 162 = .ok (.goto 4, 3) := by decide +kernel
theorem dX5_room_165 : decode cX5_room 165 = .ok (.iload_n 2, 1) := by decide +kernel
theorem dX5_room_166 : decode cX5_room 166 = .ok (.istore_n 2, 1) := by decide +kernel
theorem dX5_room_167 : decode cX5_room 167 = .ok (.iinc 3 1, 3) := by decide +kernel
theorem dX5_room_170 : decode cX5_room 170 = .ok (.goto (-144), 3) := by decide +kernel
theorem dX5_room_173 : decode cX5_room 173 = .ok (.iload_n 2, 1) := by decide +kernel
theorem dX5_room_174 : decode cX5_room 174 = .ok (.ireturn, 1) := by decide +kernel
theorem dX5_beginRecount_0 : decode cX5_beginRecount 0 = .ok (.aload_n 0, 1) := by decide +kernel
theorem dX5_beginRecount_1 : decode cX5_beginRecount 1 = .ok (.iconst 1, 1) := by decide +kernel
theorem dX5_beginRecount_2 : decode cX5_beginRecount 2 = .ok (.putfield 152, 3) := by decide +kernel
theorem dX5_beginRecount_5 : decode cX5_beginRecount 5 = .ok (.aload_n 0, 1) := by decide +kernel
theorem dX5_beginRecount_6 : decode cX5_beginRecount 6 = .ok (.iconst 0, 1) := by decide +kernel
theorem dX5_beginRecount_7 : decode cX5_beginRecount 7 = .ok (.putfield 156, 3) := by decide +kernel
theorem dX5_beginRecount_10 : decode cX5_beginRecount 10 = .ok (.aload_n 0, 1) := by decide +kernel
theorem dX5_beginRecount_11 : decode cX5_beginRecount 11 = .ok (.aload_n 0, 1) := by decide +kernel
theorem dX5_beginRecount_12 : decode cX5_beginRecount 12 = .ok (.getfield 115, 3) := by decide +kernel
theorem dX5_beginRecount_15 : decode cX5_beginRecount 15 = .ok (.invokevirtual 71, 3) := by decide +kernel
theorem dX5_beginRecount_18 : decode cX5_beginRecount 18 = .ok (.ireturn, 1) := by decide +kernel
theorem dX5_recount_0 : decode cX5_recount 0 = .ok (.aload_n 0, 1) := by decide +kernel
theorem dX5_recount_1 : decode cX5_recount 1 = .ok (.iload_n 1, 1) := by decide +kernel
theorem dX5_recount_2 : decode cX5_recount 2 = .ok (.iconst 1, 1) := by decide +kernel
theorem dX5_recount_3 : decode cX5_recount 3 = .ok (.bipush 40, 2) := by decide +kernel
theorem dX5_recount_5 : decode cX5_recount 5 = .ok (.invokestatic 78, 3) := by decide +kernel
theorem dX5_recount_8 : decode cX5_recount 8 = .ok (.ifCond .ne 7, 3) := by decide +kernel
theorem dX5_recount_11 : decode cX5_recount 11 = .ok (.iconst 1, 1) := by decide +kernel
theorem dX5_recount_12 : decode cX5_recount 12 = .ok (.goto 15, 3) := by decide +kernel
theorem dX5_recount_15 : decode cX5_recount 15 = .ok (.aload_n 0, 1) := by decide +kernel
theorem dX5_recount_16 : decode cX5_recount 16 = .ok (.getfield 152, 3) := by decide +kernel
theorem dX5_recount_19 : decode cX5_recount 19 = .ok (.ifCond .eq 7, 3) := by decide +kernel
theorem dX5_recount_22 : decode cX5_recount 22 = .ok (.iconst 0, 1) := by decide +kernel
theorem dX5_recount_23 : decode cX5_recount 23 = .ok (.goto 4, 3) := by decide +kernel
theorem dX5_recount_26 : decode cX5_recount 26 = .ok (.iconst 2, 1) := by decide +kernel
theorem dX5_recount_27 : decode cX5_recount 27 = .ok (.invokevirtual 67, 3) := by decide +kernel
theorem dX5_recount_30 : decode cX5_recount 30 = .ok (.ifCond .eq 5, 3) := by decide +kernel
theorem dX5_recount_33 : decode cX5_recount 33 = .ok (.iconst 0, 1) := by decide +kernel
theorem dX5_recount_34 : decode cX5_recount 34 = .ok (.ireturn, 1) := by decide +kernel
theorem dX5_recount_35 : decode cX5_recount 35 = .ok (.aload_n 0, 1) := by decide +kernel
theorem dX5_recount_36 : decode cX5_recount 36 = .ok (.aload_n 0, 1) := by decide +kernel
theorem dX5_recount_37 : decode cX5_recount 37 = .ok (.getfield 156, 3) := by decide +kernel
theorem dX5_recount_40 : decode cX5_recount 40 = .ok (.iload_n 1, 1) := by decide +kernel
theorem dX5_recount_41 : decode cX5_recount 41 = .ok (.iadd, 1) := by decide +kernel
theorem dX5_recount_42 : decode cX5_recount 42 = .ok (.aload_n 0, 1) := by decide +kernel
theorem dX5_recount_43 : decode cX5_recount 43 = .ok (.getfield 115, 3) := by decide +kernel
theorem dX5_recount_46 : decode cX5_recount 46 = .ok (.if_icmp .ge 12, 3) := by decide +kernel
theorem dX5_recount_49 : decode cX5_recount 49 = .ok (.aload_n 0, 1) := by decide +kernel
theorem dX5_recount_50 : decode cX5_recount 50 = .ok (.getfield 156, 3) := by decide +kernel
theorem dX5_recount_53 : decode cX5_recount 53 = .ok (.iload_n 1, 1) := by decide +kernel
theorem dX5_recount_54 : decode cX5_recount 54 = .ok (.iadd, 1) := by decide +kernel
theorem dX5_recount_55 : decode cX5_recount 55 = .ok (.goto 7, 3) := by decide +kernel
theorem dX5_recount_58 : decode cX5_recount 58 = .ok (.aload_n 0, 1) := by decide +kernel
theorem dX5_recount_59 : decode cX5_recount 59 = .ok (.getfield 115, 3) := by decide +kernel
theorem dX5_recount_62 : decode cX5_recount 62 = .ok (.putfield 156, 3) := by decide +kernel
theorem dX5_recount_65 : decode cX5_recount 65 = .ok (.aload_n 0, 1) := by decide +kernel
theorem dX5_recount_66 : decode cX5_recount 66 = .ok (.getfield 115, 3) := by decide +kernel
theorem dX5_recount_69 : decode cX5_recount 69 = .ok (.aload_n 0, 1) := by decide +kernel
theorem dX5_recount_70 : decode cX5_recount 70 = .ok (.getfield 156, 3) := by decide +kernel
theorem dX5_recount_73 : decode cX5_recount 73 = .ok (.isub, 1) := by decide +kernel
theorem dX5_recount_74 : decode cX5_recount 74 = .ok (.ireturn, 1) := by decide +kernel
theorem dX5_counted_0 : decode cX5_counted 0 = .ok (.aload_n 0, 1) := by decide +kernel
theorem dX5_counted_1 : decode cX5_counted 1 = .ok (.iload_n 1, 1) := by decide +kernel
theorem dX5_counted_2 : decode cX5_counted 2 = .ok (.iload_n 2, 1) := by decide +kernel
theorem dX5_counted_3 : decode cX5_counted 3 = .ok (.invokevirtual 142, 3) := by decide +kernel
theorem dX5_counted_6 : decode cX5_counted 6 = .ok (.istore_n 3, 1) := by decide +kernel
theorem dX5_counted_7 : decode cX5_counted 7 = .ok (.aload_n 0, 1) := by decide +kernel
theorem dX5_counted_8 : decode cX5_counted 8 = .ok (.iload_n 3, 1) := by decide +kernel
theorem dX5_counted_9 : decode cX5_counted 9 = .ok (.iconst (-1), 1) := by decide +kernel
theorem dX5_counted_10 : decode cX5_counted 10 = .ok (.if_icmp .ne 7, 3) := by decide +kernel
theorem dX5_counted_13 : decode cX5_counted 13 = .ok (.iconst 1, 1) := by decide +kernel
theorem dX5_counted_14 : decode cX5_counted 14 = .ok (.goto 15, 3) := by decide +kernel
theorem dX5_counted_17 : decode cX5_counted 17 = .ok (.aload_n 0, 1) := by decide +kernel
theorem dX5_counted_18 : decode cX5_counted 18 = .ok (.getfield 152, 3) := by decide +kernel
theorem dX5_counted_21 : decode cX5_counted 21 = .ok (.ifCond .eq 7, 3) := by decide +kernel
theorem dX5_counted_24 : decode cX5_counted 24 = .ok (.iconst 0, 1) := by decide +kernel
theorem dX5_counted_25 : decode cX5_counted 25 = .ok (.goto 4, 3) := by decide +kernel
theorem dX5_counted_28 : decode cX5_counted 28 = .ok (.iconst 2, 1) := by decide +kernel
theorem dX5_counted_29 : decode cX5_counted 29 = .ok (.invokevirtual 67, 3) := by decide +kernel
theorem dX5_counted_32 : decode cX5_counted 32 = .ok (.ifCond .eq 7, 3) := by decide +kernel
theorem dX5_counted_35 : decode cX5_counted 35 = .ok (.iconst 0, 1) := by decide +kernel
theorem dX5_counted_36 : decode cX5_counted 36 = .ok (.goto 12, 3) := by decide +kernel
theorem dX5_counted_39 : decode cX5_counted 39 = .ok (.aload_n 0, 1) := by decide +kernel
theorem dX5_counted_40 : decode cX5_counted 40 = .ok (.iload_n 3, 1) := by decide +kernel
theorem dX5_counted_41 : decode cX5_counted 41 = .ok (.aload_n 0, 1) := by decide +kernel
theorem dX5_counted_42 : decode cX5_counted 42 = .ok (.getfield 156, 3) := by decide +kernel
theorem dX5_counted_45 : decode cX5_counted 45 = .ok (.invokevirtual 118, 3) := by decide +kernel
theorem dX5_counted_48 : decode cX5_counted 48 = .ok (.ireturn, 1) := by decide +kernel
theorem dJ5_init_d00df_0 : decode cJ5_init_d00df 0 = .ok (.aload_n 0, 1) := by decide +kernel
theorem dJ5_init_d00df_1 : decode cJ5_init_d00df 1 = .ok (.invokespecial 3, 3) := by decide +kernel
theorem dJ5_init_d00df_4 : decode cJ5_init_d00df 4 = .ok (.getstatic 18, 3) := by decide +kernel
theorem dJ5_init_d00df_7 : decode cJ5_init_d00df 7 = .ok (.ifCond .eq 18, 3) := by decide +kernel
theorem dJ5_init_d00df_10 : decode cJ5_init_d00df 10 = .ok (.aload_n 0, 1) := by decide +kernel
theorem dJ5_init_d00df_11 : decode cJ5_init_d00df 11 = .ok (.iload_n 1, 1) := by decide +kernel
theorem dJ5_init_d00df_12 : decode cJ5_init_d00df 12 = .ok (.newarray .byte, 2) := by decide +kernel
theorem dJ5_init_d00df_14 : decode cJ5_init_d00df 14 = .ok (.putfield 15, 3) := by decide +kernel
theorem dJ5_init_d00df_17 : decode cJ5_init_d00df 17 = .ok (.aload_n 0, 1) := by decide +kernel
theorem dJ5_init_d00df_18 : decode cJ5_init_d00df 18 = .ok (.iconst 0, 1) := by decide +kernel
theorem dJ5_init_d00df_19 : decode cJ5_init_d00df 19 = .ok (.putfield 22, 3) := by decide +kernel
theorem dJ5_init_d00df_22 : decode cJ5_init_d00df 22 = .ok (.goto 16, 3) := by decide +kernel
theorem dJ5_init_d00df_25 : decode cJ5_init_d00df 25 = .ok (.aload_n 0, 1) := by decide +kernel
theorem dJ5_init_d00df_26 : decode cJ5_init_d00df 26 = .ok (.iload_n 1, 1) := by decide +kernel
theorem dJ5_init_d00df_27 : decode cJ5_init_d00df 27 = .ok (.invokestatic 26, 3) := by decide +kernel
theorem dJ5_init_d00df_30 : decode cJ5_init_d00df 30 = .ok (.putfield 15, 3) := by decide +kernel
theorem dJ5_init_d00df_33 : decode cJ5_init_d00df 33 = .ok (.aload_n 0, 1) := by decide +kernel
theorem dJ5_init_d00df_34 : decode cJ5_init_d00df 34 = .ok (.iconst 1, 1) := by decide +kernel
theorem dJ5_init_d00df_35 : decode cJ5_init_d00df 35 = .ok (.putfield 22, 3) := by decide +kernel
theorem dJ5_init_d00df_38 : decode cJ5_init_d00df 38 = .ok (.return_, 1) := by decide +kernel
theorem dJ5_length_8abf5_0 : decode cJ5_length_8abf5 0 = .ok (.aload_n 0, 1) := by decide +kernel
theorem dJ5_length_8abf5_1 : decode cJ5_length_8abf5 1 = .ok (.getfield 79, 3) := by decide +kernel
theorem dJ5_length_8abf5_4 : decode cJ5_length_8abf5 4 = .ok (.ireturn, 1) := by decide +kernel
theorem dJ5_ensureCapacityInternal_d00df_0 : decode cJ5_ensureCapacityInternal_d00df 0 = .ok (.aload_n 0, 1) := by decide +kernel
theorem dJ5_ensureCapacityInternal_d00df_1 : decode cJ5_ensureCapacityInternal_d00df 1 = .ok (.getfield 15, 3) := by decide +kernel
theorem dJ5_ensureCapacityInternal_d00df_4 : decode cJ5_ensureCapacityInternal_d00df 4 = .ok (.arraylength, 1) := by decide +kernel
theorem dJ5_ensureCapacityInternal_d00df_5 : decode cJ5_ensureCapacityInternal_d00df 5 = .ok (.aload_n 0, 1) := by decide +kernel
theorem dJ5_ensureCapacityInternal_d00df_6 : decode cJ5_ensureCapacityInternal_d00df 6 = .ok (.getfield 22, 3) := by decide +kernel
theorem dJ5_ensureCapacityInternal_d00df_9 : decode cJ5_ensureCapacityInternal_d00df 9 = .ok (.ishr, 1) := by decide +kernel
theorem dJ5_ensureCapacityInternal_d00df_10 : decode cJ5_ensureCapacityInternal_d00df 10 = .ok (.istore_n 2, 1) := by decide +kernel
theorem dJ5_ensureCapacityInternal_d00df_11 : decode cJ5_ensureCapacityInternal_d00df 11 = .ok (.iload_n 1, 1) := by decide +kernel
theorem dJ5_ensureCapacityInternal_d00df_12 : decode cJ5_ensureCapacityInternal_d00df 12 = .ok (.iload_n 2, 1) := by decide +kernel
theorem dJ5_ensureCapacityInternal_d00df_13 : decode cJ5_ensureCapacityInternal_d00df 13 = .ok (.isub, 1) := by decide +kernel
theorem dJ5_ensureCapacityInternal_d00df_14 : decode cJ5_ensureCapacityInternal_d00df 14 = .ok (.ifCond .le 24, 3) := by decide +kernel
theorem dJ5_ensureCapacityInternal_d00df_17 : decode cJ5_ensureCapacityInternal_d00df 17 = .ok (.aload_n 0, 1) := by decide +kernel
theorem dJ5_ensureCapacityInternal_d00df_18 : decode cJ5_ensureCapacityInternal_d00df 18 = .ok (.aload_n 0, 1) := by decide +kernel
theorem dJ5_ensureCapacityInternal_d00df_19 : decode cJ5_ensureCapacityInternal_d00df 19 = .ok (.getfield 15, 3) := by decide +kernel
theorem dJ5_ensureCapacityInternal_d00df_22 : decode cJ5_ensureCapacityInternal_d00df 22 = .ok (.aload_n 0, 1) := by decide +kernel
theorem dJ5_ensureCapacityInternal_d00df_23 : decode cJ5_ensureCapacityInternal_d00df 23 = .ok (.iload_n 1, 1) := by decide +kernel
theorem dJ5_ensureCapacityInternal_d00df_24 : decode cJ5_ensureCapacityInternal_d00df 24 = .ok (.invokevirtual 104, 3) := by decide +kernel
theorem dJ5_ensureCapacityInternal_d00df_27 : decode cJ5_ensureCapacityInternal_d00df 27 = .ok (.aload_n 0, 1) := by decide +kernel
theorem dJ5_ensureCapacityInternal_d00df_28 : decode cJ5_ensureCapacityInternal_d00df 28 = .ok (.getfield 22, 3) := by decide +kernel
theorem dJ5_ensureCapacityInternal_d00df_31 : decode cJ5_ensureCapacityInternal_d00df 31 = .ok (.ishl, 1) := by decide +kernel
theorem dJ5_ensureCapacityInternal_d00df_32 : decode cJ5_ensureCapacityInternal_d00df 32 = .ok (.invokestatic 108, 3) := by decide +kernel
theorem dJ5_ensureCapacityInternal_d00df_35 : decode cJ5_ensureCapacityInternal_d00df 35 = .ok (.putfield 15, 3) := by decide +kernel
theorem dJ5_ensureCapacityInternal_d00df_38 : decode cJ5_ensureCapacityInternal_d00df 38 = .ok (.return_, 1) := by decide +kernel
theorem dJ5_setLength_d00df_0 : decode cJ5_setLength_d00df 0 = .ok (.iload_n 1, 1) := by decide +kernel
theorem dJ5_setLength_d00df_1 : decode cJ5_setLength_d00df 1 = .ok (.ifCond .ge 12, 3) := by decide +kernel
theorem dJ5_setLength_d00df_4 : decode cJ5_setLength_d00df 4 = .ok (.new 129, 3) := by decide +kernel
theorem dJ5_setLength_d00df_7 : decode cJ5_setLength_d00df 7 = .ok (.dup, 1) := by decide +kernel
theorem dJ5_setLength_d00df_8 : decode cJ5_setLength_d00df 8 = .ok (.iload_n 1, 1) := by decide +kernel
theorem dJ5_setLength_d00df_9 : decode cJ5_setLength_d00df 9 = .ok (.invokespecial 131, 3) := by decide +kernel
theorem dJ5_setLength_d00df_12 : decode cJ5_setLength_d00df 12 = .ok (.athrow, 1) := by decide +kernel
theorem dJ5_setLength_d00df_13 : decode cJ5_setLength_d00df 13 = .ok (.aload_n 0, 1) := by decide +kernel
theorem dJ5_setLength_d00df_14 : decode cJ5_setLength_d00df 14 = .ok (.iload_n 1, 1) := by decide +kernel
theorem dJ5_setLength_d00df_15 : decode cJ5_setLength_d00df 15 = .ok (.invokevirtual 100, 3) := by decide +kernel
theorem dJ5_setLength_d00df_18 : decode cJ5_setLength_d00df 18 = .ok (.aload_n 0, 1) := by decide +kernel
theorem dJ5_setLength_d00df_19 : decode cJ5_setLength_d00df 19 = .ok (.getfield 79, 3) := by decide +kernel
theorem dJ5_setLength_d00df_22 : decode cJ5_setLength_d00df 22 = .ok (.iload_n 1, 1) := by decide +kernel
theorem dJ5_setLength_d00df_23 : decode cJ5_setLength_d00df 23 = .ok (.if_icmp .ge 40, 3) := by decide +kernel
theorem dJ5_setLength_d00df_26 : decode cJ5_setLength_d00df 26 = .ok (.aload_n 0, 1) := by decide +kernel
theorem dJ5_setLength_d00df_27 : decode cJ5_setLength_d00df 27 = .ok (.invokevirtual 83, 3) := by decide +kernel
theorem dJ5_setLength_d00df_30 : decode cJ5_setLength_d00df 30 = .ok (.ifCond .eq 18, 3) := by decide +kernel
theorem dJ5_setLength_d00df_33 : decode cJ5_setLength_d00df 33 = .ok (.aload_n 0, 1) := by decide +kernel
theorem dJ5_setLength_d00df_34 : decode cJ5_setLength_d00df 34 = .ok (.getfield 15, 3) := by decide +kernel
theorem dJ5_setLength_d00df_37 : decode cJ5_setLength_d00df 37 = .ok (.aload_n 0, 1) := by decide +kernel
theorem dJ5_setLength_d00df_38 : decode cJ5_setLength_d00df 38 = .ok (.getfield 79, 3) := by decide +kernel
theorem dJ5_setLength_d00df_41 : decode cJ5_setLength_d00df 41 = .ok (.iload_n 1, 1) := by decide +kernel
theorem dJ5_setLength_d00df_42 : decode cJ5_setLength_d00df 42 = .ok (.invokestatic 133, 3) := by decide +kernel
theorem dJ5_setLength_d00df_45 : decode cJ5_setLength_d00df 45 = .ok (.goto 31, 3) := by decide +kernel
theorem dJ5_setLength_d00df_48 : decode cJ5_setLength_d00df 48 = .ok (.aload_n 0, 1) := by decide +kernel
theorem dJ5_setLength_d00df_49 : decode cJ5_setLength_d00df 49 = .ok (.getfield 15, 3) := by decide +kernel
theorem dJ5_setLength_d00df_52 : decode cJ5_setLength_d00df 52 = .ok (.aload_n 0, 1) := by decide +kernel
theorem dJ5_setLength_d00df_53 : decode cJ5_setLength_d00df 53 = .ok (.getfield 79, 3) := by decide +kernel
theorem dJ5_setLength_d00df_56 : decode cJ5_setLength_d00df 56 = .ok (.iload_n 1, 1) := by decide +kernel
theorem dJ5_setLength_d00df_57 : decode cJ5_setLength_d00df 57 = .ok (.invokestatic 137, 3) := by decide +kernel
theorem dJ5_setLength_d00df_60 : decode cJ5_setLength_d00df 60 = .ok (.goto 16, 3) := by decide +kernel
theorem dJ5_setLength_d00df_63 : decode cJ5_setLength_d00df 63 = .ok (.aload_n 0, 1) := by decide +kernel
theorem dJ5_setLength_d00df_64 : decode cJ5_setLength_d00df 64 = .ok (.getfield 79, 3) := by decide +kernel
theorem dJ5_setLength_d00df_67 : decode cJ5_setLength_d00df 67 = .ok (.iload_n 1, 1) := by decide +kernel
theorem dJ5_setLength_d00df_68 : decode cJ5_setLength_d00df 68 = .ok (.if_icmp .le 8, 3) := by decide +kernel
theorem dJ5_setLength_d00df_71 : decode cJ5_setLength_d00df 71 = .ok (.aload_n 0, 1) := by decide +kernel
theorem dJ5_setLength_d00df_72 : decode cJ5_setLength_d00df 72 = .ok (.iconst 1, 1) := by decide +kernel
theorem dJ5_setLength_d00df_73 : decode cJ5_setLength_d00df 73 = .ok (.putfield 73, 3) := by decide +kernel
theorem dJ5_setLength_d00df_76 : decode cJ5_setLength_d00df 76 = .ok (.aload_n 0, 1) := by decide +kernel
theorem dJ5_setLength_d00df_77 : decode cJ5_setLength_d00df 77 = .ok (.iload_n 1, 1) := by decide +kernel
theorem dJ5_setLength_d00df_78 : decode cJ5_setLength_d00df 78 = .ok (.putfield 79, 3) := by decide +kernel
theorem dJ5_setLength_d00df_81 : decode cJ5_setLength_d00df 81 = .ok (.return_, 1) := by decide +kernel
theorem dJ5_charAt_5068e_0 : decode cJ5_charAt_5068e 0 = .ok (.aload_n 0, 1) := by decide +kernel
theorem dJ5_charAt_5068e_1 : decode cJ5_charAt_5068e 1 = .ok (.getfield 22, 3) := by decide +kernel
theorem dJ5_charAt_5068e_4 : decode cJ5_charAt_5068e 4 = .ok (.istore_n 2, 1) := by decide +kernel
theorem dJ5_charAt_5068e_5 : decode cJ5_charAt_5068e 5 = .ok (.aload_n 0, 1) := by decide +kernel
theorem dJ5_charAt_5068e_6 : decode cJ5_charAt_5068e 6 = .ok (.getfield 15, 3) := by decide +kernel
theorem dJ5_charAt_5068e_9 : decode cJ5_charAt_5068e 9 = .ok (.astore_n 3, 1) := by decide +kernel
theorem dJ5_charAt_5068e_10 : decode cJ5_charAt_5068e 10 = .ok (.aload_n 0, 1) := by decide +kernel
theorem dJ5_charAt_5068e_11 : decode cJ5_charAt_5068e 11 = .ok (.getfield 79, 3) := by decide +kernel
theorem dJ5_charAt_5068e_14 : decode cJ5_charAt_5068e 14 = .ok (.aload_n 3, 1) := by decide +kernel
theorem dJ5_charAt_5068e_15 : decode cJ5_charAt_5068e 15 = .ok (.arraylength, 1) := by decide +kernel
theorem dJ5_charAt_5068e_16 : decode cJ5_charAt_5068e 16 = .ok (.iload_n 2, 1) := by decide +kernel
theorem dJ5_charAt_5068e_17 : decode cJ5_charAt_5068e 17 = .ok (.ishr, 1) := by decide +kernel
theorem dJ5_charAt_5068e_18 : decode cJ5_charAt_5068e 18 = .ok (.invokestatic 138, 3) := by decide +kernel
theorem dJ5_charAt_5068e_21 : decode cJ5_charAt_5068e 21 = .ok (.istore 4, 2) := by decide +kernel
theorem dJ5_charAt_5068e_23 : decode cJ5_charAt_5068e 23 = .ok (.iload_n 1, 1) := by decide +kernel
theorem dJ5_charAt_5068e_24 : decode cJ5_charAt_5068e 24 = .ok (.iload 4, 2) := by decide +kernel
theorem dJ5_charAt_5068e_26 : decode cJ5_charAt_5068e 26 = .ok (.invokestatic 144, 3) := by decide +kernel
theorem dJ5_charAt_5068e_29 : decode cJ5_charAt_5068e 29 = .ok (.iload_n 2, 1) := by decide +kernel
theorem dJ5_charAt_5068e_30 : decode cJ5_charAt_5068e 30 = .ok (.ifCond .ne 12, 3) := by decide +kernel
theorem dJ5_charAt_5068e_33 : decode cJ5_charAt_5068e 33 = .ok (.aload_n 3, 1) := by decide +kernel
theorem dJ5_charAt_5068e_34 : decode cJ5_charAt_5068e 34 = .ok (.iload_n 1, 1) := by decide +kernel
theorem dJ5_charAt_5068e_35 : decode cJ5_charAt_5068e 35 = .ok (.baload, 1) := by decide +kernel
theorem dJ5_charAt_5068e_36 : decode cJ5_charAt_5068e 36 = .ok (.sipush 255, 3) := by decide +kernel
theorem dJ5_charAt_5068e_39 : decode cJ5_charAt_5068e 39 = .ok (.iand, 1) := by decide +kernel
theorem dJ5_charAt_5068e_40 : decode cJ5_charAt_5068e 40 = .ok (.i2c, 1) := by decide +kernel
theorem dJ5_charAt_5068e_41 : decode cJ5_charAt_5068e 41 = .ok (.ireturn, 1) := by decide +kernel
theorem dJ5_charAt_5068e_42 : decode cJ5_charAt_5068e 42 = .ok (.aload_n 3, 1) := by decide +kernel
theorem dJ5_charAt_5068e_43 : decode cJ5_charAt_5068e 43 = .ok (.iload_n 1, 1) := by decide +kernel
theorem dJ5_charAt_5068e_44 : decode cJ5_charAt_5068e 44 = .ok (.invokestatic 148, 3) := by decide +kernel
theorem dJ5_charAt_5068e_47 : decode cJ5_charAt_5068e 47 = .ok (.ireturn, 1) := by decide +kernel
theorem dJ5_append_3fe6f_0 : decode cJ5_append_3fe6f 0 = .ok (.aload_n 0, 1) := by decide +kernel
theorem dJ5_append_3fe6f_1 : decode cJ5_append_3fe6f 1 = .ok (.aload_n 0, 1) := by decide +kernel
theorem dJ5_append_3fe6f_2 : decode cJ5_append_3fe6f 2 = .ok (.getfield 79, 3) := by decide +kernel
theorem dJ5_append_3fe6f_5 : decode cJ5_append_3fe6f 5 = .ok (.iconst 1, 1) := by decide +kernel
theorem dJ5_append_3fe6f_6 : decode cJ5_append_3fe6f 6 = .ok (.iadd, 1) := by decide +kernel
theorem dJ5_append_3fe6f_7 : decode cJ5_append_3fe6f 7 = .ok (.invokevirtual 100, 3) := by decide +kernel
theorem dJ5_append_3fe6f_10 : decode cJ5_append_3fe6f 10 = .ok (.aload_n 0, 1) := by decide +kernel
theorem dJ5_append_3fe6f_11 : decode cJ5_append_3fe6f 11 = .ok (.invokevirtual 83, 3) := by decide +kernel
theorem dJ5_append_3fe6f_14 : decode cJ5_append_3fe6f 14 = .ok (.ifCond .eq 31, 3) := by decide +kernel
theorem dJ5_append_3fe6f_17 : decode cJ5_append_3fe6f 17 = .ok (.iload_n 1, 1) := by decide +kernel
theorem dJ5_append_3fe6f_18 : decode cJ5_append_3fe6f 18 = .ok (.invokestatic 191, 3) := by decide +kernel
theorem dJ5_append_3fe6f_21 : decode cJ5_append_3fe6f 21 = .ok (.ifCond .eq 24, 3) := by decide +kernel
theorem dJ5_append_3fe6f_24 : decode cJ5_append_3fe6f 24 = .ok (.aload_n 0, 1) := by decide +kernel
theorem dJ5_append_3fe6f_25 : decode cJ5_append_3fe6f 25 = .ok (.getfield 15, 3) := by decide +kernel
theorem dJ5_append_3fe6f_28 : decode cJ5_append_3fe6f 28 = .ok (.aload_n 0, 1) := by decide +kernel
theorem dJ5_append_3fe6f_29 : decode cJ5_append_3fe6f 29 = .ok (.dup, 1) := by decide +kernel
theorem dJ5_append_3fe6f_30 : decode cJ5_append_3fe6f 30 = .ok (.getfield 79, 3) := by decide +kernel
theorem dJ5_append_3fe6f_33 : decode cJ5_append_3fe6f 33 = .ok (.dup_x1, 1) := by decide +kernel
theorem dJ5_append_3fe6f_34 : decode cJ5_append_3fe6f 34 = .ok (.iconst 1, 1) := by decide +kernel
theorem dJ5_append_3fe6f_35 : decode cJ5_append_3fe6f 35 = .ok (.iadd, 1) := by decide +kernel
theorem dJ5_append_3fe6f_36 : decode cJ5_append_3fe6f 36 = .ok (.putfield 79, 3) := by decide +kernel
theorem dJ5_append_3fe6f_39 : decode cJ5_append_3fe6f 39 = .ok (.iload_n 1, 1) := by decide +kernel
theorem dJ5_append_3fe6f_40 : decode cJ5_append_3fe6f 40 = .ok (.i2b, 1) := by decide +kernel
theorem dJ5_append_3fe6f_41 : decode cJ5_append_3fe6f 41 = .ok (.bastore, 1) := by decide +kernel
theorem dJ5_append_3fe6f_42 : decode cJ5_append_3fe6f 42 = .ok (.goto 33, 3) := by decide +kernel
theorem dJ5_append_3fe6f_45 : decode cJ5_append_3fe6f 45 = .ok (.aload_n 0, 1) := by decide +kernel
theorem dJ5_append_3fe6f_46 : decode cJ5_append_3fe6f 46 = .ok (.invokevirtual 83, 3) := by decide +kernel
theorem dJ5_append_3fe6f_49 : decode cJ5_append_3fe6f 49 = .ok (.ifCond .eq 7, 3) := by decide +kernel
theorem dJ5_append_3fe6f_52 : decode cJ5_append_3fe6f 52 = .ok (.aload_n 0, 1) := by decide +kernel
theorem dJ5_append_3fe6f_53 : decode cJ5_append_3fe6f 53 = .ok (.invokevirtual 195, 3) := by decide +kernel
theorem dJ5_append_3fe6f_56 : decode cJ5_append_3fe6f 56 = .ok (.aload_n 0, 1) := by decide +kernel
theorem dJ5_append_3fe6f_57 : decode cJ5_append_3fe6f 57 = .ok (.getfield 15, 3) := by decide +kernel
theorem dJ5_append_3fe6f_60 : decode cJ5_append_3fe6f 60 = .ok (.aload_n 0, 1) := by decide +kernel
theorem dJ5_append_3fe6f_61 : decode cJ5_append_3fe6f 61 = .ok (.dup, 1) := by decide +kernel
theorem dJ5_append_3fe6f_62 : decode cJ5_append_3fe6f 62 = .ok (.getfield 79, 3) := by decide +kernel
theorem dJ5_append_3fe6f_65 : decode cJ5_append_3fe6f 65 = .ok (.dup_x1, 1) := by decide +kernel
theorem dJ5_append_3fe6f_66 : decode cJ5_append_3fe6f 66 = .ok (.iconst 1, 1) := by decide +kernel
theorem dJ5_append_3fe6f_67 : decode cJ5_append_3fe6f 67 = .ok (.iadd, 1) := by decide +kernel
theorem dJ5_append_3fe6f_68 : decode cJ5_append_3fe6f 68 = .ok (.putfield 79, 3) := by decide +kernel
theorem dJ5_append_3fe6f_71 : decode cJ5_append_3fe6f 71 = .ok (.iload_n 1, 1) := by decide +kernel
theorem dJ5_append_3fe6f_72 : decode cJ5_append_3fe6f 72 = .ok (.invokestatic 197, 3) := by decide +kernel
theorem dJ5_append_3fe6f_75 : decode cJ5_append_3fe6f 75 = .ok (.aload_n 0, 1) := by decide +kernel
theorem dJ5_append_3fe6f_76 : decode cJ5_append_3fe6f 76 = .ok (.areturn, 1) := by decide +kernel
theorem dJ5_isLatin1_aae02_0 : decode cJ5_isLatin1_aae02 0 = .ok (.getstatic 18, 3) := by decide +kernel
theorem dJ5_isLatin1_aae02_3 : decode cJ5_isLatin1_aae02 3 = .ok (.ifCond .eq 14, 3) := by decide +kernel
theorem dJ5_isLatin1_aae02_6 : decode cJ5_isLatin1_aae02 6 = .ok (.aload_n 0, 1) := by decide +kernel
theorem dJ5_isLatin1_aae02_7 : decode cJ5_isLatin1_aae02 7 = .ok (.getfield 22, 3) := by decide +kernel
theorem dJ5_isLatin1_aae02_10 : decode cJ5_isLatin1_aae02 10 = .ok (.ifCond .ne 7, 3) := by decide +kernel
theorem dJ5_isLatin1_aae02_13 : decode cJ5_isLatin1_aae02 13 = .ok (.iconst 1, 1) := by decide +kernel
theorem dJ5_isLatin1_aae02_14 : decode cJ5_isLatin1_aae02 14 = .ok (.goto 4, 3) := by decide +kernel
theorem dJ5_isLatin1_aae02_17 : decode cJ5_isLatin1_aae02 17 = .ok (.iconst 0, 1) := by decide +kernel
theorem dJ5_isLatin1_aae02_18 : decode cJ5_isLatin1_aae02 18 = .ok (.ireturn, 1) := by decide +kernel
theorem dJ9_max_7cf53_0 : decode cJ9_max_7cf53 0 = .ok (.iload_n 0, 1) := by decide +kernel
theorem dJ9_max_7cf53_1 : decode cJ9_max_7cf53 1 = .ok (.iload_n 1, 1) := by decide +kernel
theorem dJ9_max_7cf53_2 : decode cJ9_max_7cf53 2 = .ok (.if_icmp .lt 7, 3) := by decide +kernel
theorem dJ9_max_7cf53_5 : decode cJ9_max_7cf53 5 = .ok (.iload_n 0, 1) := by decide +kernel
theorem dJ9_max_7cf53_6 : decode cJ9_max_7cf53 6 = .ok (.goto 4, 3) := by decide +kernel
theorem dJ9_max_7cf53_9 : decode cJ9_max_7cf53 9 = .ok (.iload_n 1, 1) := by decide +kernel
theorem dJ9_max_7cf53_10 : decode cJ9_max_7cf53 10 = .ok (.ireturn, 1) := by decide +kernel
theorem dJ9_min_7cf53_0 : decode cJ9_min_7cf53 0 = .ok (.iload_n 0, 1) := by decide +kernel
theorem dJ9_min_7cf53_1 : decode cJ9_min_7cf53 1 = .ok (.iload_n 1, 1) := by decide +kernel
theorem dJ9_min_7cf53_2 : decode cJ9_min_7cf53 2 = .ok (.if_icmp .gt 7, 3) := by decide +kernel
theorem dJ9_min_7cf53_5 : decode cJ9_min_7cf53 5 = .ok (.iload_n 0, 1) := by decide +kernel
theorem dJ9_min_7cf53_6 : decode cJ9_min_7cf53 6 = .ok (.goto 4, 3) := by decide +kernel
theorem dJ9_min_7cf53_9 : decode cJ9_min_7cf53 9 = .ok (.iload_n 1, 1) := by decide +kernel
theorem dJ9_min_7cf53_10 : decode cJ9_min_7cf53 10 = .ok (.ireturn, 1) := by decide +kernel
theorem dJ0_checkIndex_df160_0 : decode cJ0_checkIndex_df160 0 = .ok (.iload_n 0, 1) := by decide +kernel
theorem dJ0_checkIndex_df160_1 : decode cJ0_checkIndex_df160 1 = .ok (.iload_n 1, 1) := by decide +kernel
theorem dJ0_checkIndex_df160_2 : decode cJ0_checkIndex_df160 2 = .ok (.getstatic 1053, 3) := by decide +kernel
theorem dJ0_checkIndex_df160_5 : decode cJ0_checkIndex_df160 5 = .ok (.invokestatic 1059, 3) := by decide +kernel
theorem dJ0_checkIndex_df160_8 : decode cJ0_checkIndex_df160 8 = .ok (.pop, 1) := by decide +kernel
theorem dJ0_checkIndex_df160_9 : decode cJ0_checkIndex_df160 9 = .ok (.return_, 1) := by decide +kernel
theorem dJ4_init_da8c8_0 : decode cJ4_init_da8c8 0 = .ok (.aload_n 0, 1) := by decide +kernel
theorem dJ4_init_da8c8_1 : decode cJ4_init_da8c8 1 = .ok (.bipush 16, 2) := by decide +kernel
theorem dJ4_init_da8c8_3 : decode cJ4_init_da8c8 3 = .ok (.invokespecial 1, 3) := by decide +kernel
theorem dJ4_init_da8c8_6 : decode cJ4_init_da8c8 6 = .ok (.return_, 1) := by decide +kernel
theorem dJ4_append_cf468_0 : decode cJ4_append_cf468 0 = .ok (.aload_n 0, 1) := by decide +kernel
theorem dJ4_append_cf468_1 : decode cJ4_append_cf468 1 = .ok (.iload_n 1, 1) := by decide +kernel
theorem dJ4_append_cf468_2 : decode cJ4_append_cf468 2 = .ok (.invokespecial 50, 3) := by decide +kernel
theorem dJ4_append_cf468_5 : decode cJ4_append_cf468 5 = .ok (.pop, 1) := by decide +kernel
theorem dJ4_append_cf468_6 : decode cJ4_append_cf468 6 = .ok (.aload_n 0, 1) := by decide +kernel
theorem dJ4_append_cf468_7 : decode cJ4_append_cf468 7 = .ok (.areturn, 1) := by decide +kernel
theorem dJ4_charAt_5068e_0 : decode cJ4_charAt_5068e 0 = .ok (.aload_n 0, 1) := by decide +kernel
theorem dJ4_charAt_5068e_1 : decode cJ4_charAt_5068e 1 = .ok (.iload_n 1, 1) := by decide +kernel
theorem dJ4_charAt_5068e_2 : decode cJ4_charAt_5068e 2 = .ok (.invokespecial 329, 3) := by decide +kernel
theorem dJ4_charAt_5068e_5 : decode cJ4_charAt_5068e 5 = .ok (.ireturn, 1) := by decide +kernel
theorem dJ4_setLength_d00df_0 : decode cJ4_setLength_d00df 0 = .ok (.aload_n 0, 1) := by decide +kernel
theorem dJ4_setLength_d00df_1 : decode cJ4_setLength_d00df 1 = .ok (.iload_n 1, 1) := by decide +kernel
theorem dJ4_setLength_d00df_2 : decode cJ4_setLength_d00df 2 = .ok (.invokespecial 333, 3) := by decide +kernel
theorem dJ4_setLength_d00df_5 : decode cJ4_setLength_d00df 5 = .ok (.return_, 1) := by decide +kernel
theorem dJ4_length_8abf5_0 : decode cJ4_length_8abf5 0 = .ok (.aload_n 0, 1) := by decide +kernel
theorem dJ4_length_8abf5_1 : decode cJ4_length_8abf5 1 = .ok (.invokespecial 343, 3) := by decide +kernel
theorem dJ4_length_8abf5_4 : decode cJ4_length_8abf5 4 = .ok (.ireturn, 1) := by decide +kernel
theorem dJ1_canEncode_fc78d_0 : decode cJ1_canEncode_fc78d 0 = .ok (.iload_n 0, 1) := by decide +kernel
theorem dJ1_canEncode_fc78d_1 : decode cJ1_canEncode_fc78d 1 = .ok (.sipush 255, 3) := by decide +kernel
theorem dJ1_canEncode_fc78d_4 : decode cJ1_canEncode_fc78d 4 = .ok (.if_icmp .gt 7, 3) := by decide +kernel
theorem dJ1_canEncode_fc78d_7 : decode cJ1_canEncode_fc78d 7 = .ok (.iconst 1, 1) := by decide +kernel
theorem dJ1_canEncode_fc78d_8 : decode cJ1_canEncode_fc78d 8 = .ok (.goto 4, 3) := by decide +kernel
theorem dJ1_canEncode_fc78d_11 : decode cJ1_canEncode_fc78d 11 = .ok (.iconst 0, 1) := by decide +kernel
theorem dJ1_canEncode_fc78d_12 : decode cJ1_canEncode_fc78d 12 = .ok (.ireturn, 1) := by decide +kernel
theorem dJxa1e45_init_da8c8_0 : decode cJxa1e45_init_da8c8 0 = .ok (.aload_n 0, 1) := by decide +kernel
theorem dJxa1e45_init_da8c8_1 : decode cJxa1e45_init_da8c8 1 = .ok (.invokespecial 1, 3) := by decide +kernel
theorem dJxa1e45_init_da8c8_4 : decode cJxa1e45_init_da8c8 4 = .ok (.return_, 1) := by decide +kernel
theorem dJxc12de_init_da8c8_0 : decode cJxc12de_init_da8c8 0 = .ok (.aload_n 0, 1) := by decide +kernel
theorem dJxc12de_init_da8c8_1 : decode cJxc12de_init_da8c8 1 = .ok (.invokespecial 1, 3) := by decide +kernel
theorem dJxc12de_init_da8c8_4 : decode cJxc12de_init_da8c8 4 = .ok (.aload_n 0, 1) := by decide +kernel
theorem dJxc12de_init_da8c8_5 : decode cJxc12de_init_da8c8 5 = .ok (.iconst 0, 1) := by decide +kernel
theorem dJxc12de_init_da8c8_6 : decode cJxc12de_init_da8c8 6 = .ok (.putfield 7, 3) := by decide +kernel
theorem dJxc12de_init_da8c8_9 : decode cJxc12de_init_da8c8 9 = .ok (.return_, 1) := by decide +kernel
theorem dJx4a65c_init_da8c8_0 : decode cJx4a65c_init_da8c8 0 = .ok (.aload_n 0, 1) := by decide +kernel
theorem dJx4a65c_init_da8c8_1 : decode cJx4a65c_init_da8c8 1 = .ok (.invokespecial 1, 3) := by decide +kernel
theorem dJx4a65c_init_da8c8_4 : decode cJx4a65c_init_da8c8 4 = .ok (.aload_n 0, 1) := by decide +kernel
theorem dJx4a65c_init_da8c8_5 : decode cJx4a65c_init_da8c8 5 = .ok (.getstatic 39, 3) := by decide +kernel
theorem dJx4a65c_init_da8c8_8 : decode cJx4a65c_init_da8c8 8 = .ok (.putfield 9, 3) := by decide +kernel
theorem dJx4a65c_init_da8c8_11 : decode cJx4a65c_init_da8c8 11 = .ok (.return_, 1) := by decide +kernel
theorem dJx4a65c_grow_92f84_0 : decode cJx4a65c_grow_92f84 0 = .ok (.aload_n 0, 1) := by decide +kernel
theorem dJx4a65c_grow_92f84_1 : decode cJx4a65c_grow_92f84 1 = .ok (.getfield 9, 3) := by decide +kernel
theorem dJx4a65c_grow_92f84_4 : decode cJx4a65c_grow_92f84 4 = .ok (.arraylength, 1) := by decide +kernel
theorem dJx4a65c_grow_92f84_5 : decode cJx4a65c_grow_92f84 5 = .ok (.istore_n 2, 1) := by decide +kernel
theorem dJx4a65c_grow_92f84_6 : decode cJx4a65c_grow_92f84 6 = .ok (.iload_n 2, 1) := by decide +kernel
theorem dJx4a65c_grow_92f84_7 : decode cJx4a65c_grow_92f84 7 = .ok (.ifCond .gt 13, 3) := by decide +kernel
theorem dJx4a65c_grow_92f84_10 : decode cJx4a65c_grow_92f84 10 = .ok (.aload_n 0, 1) := by decide +kernel
theorem dJx4a65c_grow_92f84_11 : decode cJx4a65c_grow_92f84 11 = .ok (.getfield 9, 3) := by decide +kernel
theorem dJx4a65c_grow_92f84_14 : decode cJx4a65c_grow_92f84 14 = .ok (.getstatic 39, 3) := by decide +kernel
theorem dJx4a65c_grow_92f84_17 : decode cJx4a65c_grow_92f84 17 = .ok (.if_acmp .eq 28, 3) := by decide +kernel
theorem dJx4a65c_grow_92f84_20 : decode cJx4a65c_grow_92f84 20 = .ok (.iload_n 2, 1) := by decide +kernel
theorem dJx4a65c_grow_92f84_21 : decode cJx4a65c_grow_92f84 21 = .ok (.iload_n 1, 1) := by decide +kernel
theorem dJx4a65c_grow_92f84_22 : decode cJx4a65c_grow_92f84 22 = .ok (.iload_n 2, 1) := by decide +kernel
theorem dJx4a65c_grow_92f84_23 : decode cJx4a65c_grow_92f84 23 = .ok (.isub, 1) := by decide +kernel
theorem dJx4a65c_grow_92f84_24 : decode cJx4a65c_grow_92f84 24 = .ok (.iload_n 2, 1) := by decide +kernel
theorem dJx4a65c_grow_92f84_25 : decode cJx4a65c_grow_92f84 25 = .ok (.iconst 1, 1) := by decide +kernel
theorem dJx4a65c_grow_92f84_26 : decode cJx4a65c_grow_92f84 26 = .ok (.ishr, 1) := by decide +kernel
theorem dJx4a65c_grow_92f84_27 : decode cJx4a65c_grow_92f84 27 = .ok (.invokestatic 73, 3) := by decide +kernel
theorem dJx4a65c_grow_92f84_30 : decode cJx4a65c_grow_92f84 30 = .ok (.istore_n 3, 1) := by decide +kernel
theorem dJx4a65c_grow_92f84_31 : decode cJx4a65c_grow_92f84 31 = .ok (.aload_n 0, 1) := by decide +kernel
theorem dJx4a65c_grow_92f84_32 : decode cJx4a65c_grow_92f84 32 = .ok (.aload_n 0, 1) := by decide +kernel
theorem dJx4a65c_grow_92f84_33 : decode cJx4a65c_grow_92f84 33 = .ok (.getfield 9, 3) := by decide +kernel
theorem dJx4a65c_grow_92f84_36 : decode cJx4a65c_grow_92f84 36 = .ok (.iload_n 3, 1) := by decide +kernel
theorem dJx4a65c_grow_92f84_37 : decode cJx4a65c_grow_92f84 37 = .ok (.invokestatic 66, 3) := by decide +kernel
theorem dJx4a65c_grow_92f84_40 : decode cJx4a65c_grow_92f84 40 = .ok (.dup_x1, 1) := by decide +kernel
theorem dJx4a65c_grow_92f84_41 : decode cJx4a65c_grow_92f84 41 = .ok (.putfield 9, 3) := by decide +kernel
theorem dJx4a65c_grow_92f84_44 : decode cJx4a65c_grow_92f84 44 = .ok (.areturn, 1) := by decide +kernel
theorem dJx4a65c_grow_92f84_45 : decode cJx4a65c_grow_92f84 45 = .ok (.aload_n 0, 1) := by decide +kernel
theorem dJx4a65c_grow_92f84_46 : decode cJx4a65c_grow_92f84 46 = .ok (.bipush 10, 2) := by decide +kernel
theorem dJx4a65c_grow_92f84_48 : decode cJx4a65c_grow_92f84 48 = .ok (.iload_n 1, 1) := by decide +kernel
theorem dJx4a65c_grow_92f84_49 : decode cJx4a65c_grow_92f84 49 = .ok (.invokestatic 79, 3) := by decide +kernel
theorem dJx4a65c_grow_92f84_52 : decode cJx4a65c_grow_92f84 52 = .ok (.anewarray 7, 3) := by decide +kernel
theorem dJx4a65c_grow_92f84_55 : decode cJx4a65c_grow_92f84 55 = .ok (.dup_x1, 1) := by decide +kernel
theorem dJx4a65c_grow_92f84_56 : decode cJx4a65c_grow_92f84 56 = .ok (.putfield 9, 3) := by decide +kernel
theorem dJx4a65c_grow_92f84_59 : decode cJx4a65c_grow_92f84 59 = .ok (.areturn, 1) := by decide +kernel
theorem dJx4a65c_grow_d5877_0 : decode cJx4a65c_grow_d5877 0 = .ok (.aload_n 0, 1) := by decide +kernel
theorem dJx4a65c_grow_d5877_1 : decode cJx4a65c_grow_d5877 1 = .ok (.aload_n 0, 1) := by decide +kernel
theorem dJx4a65c_grow_d5877_2 : decode cJx4a65c_grow_d5877 2 = .ok (.getfield 48, 3) := by decide +kernel
theorem dJx4a65c_grow_d5877_5 : decode cJx4a65c_grow_d5877 5 = .ok (.iconst 1, 1) := by decide +kernel
theorem dJx4a65c_grow_d5877_6 : decode cJx4a65c_grow_d5877 6 = .ok (.iadd, 1) := by decide +kernel
theorem dJx4a65c_grow_d5877_7 : decode cJx4a65c_grow_d5877 7 = .ok (.invokevirtual 69, 3) := by decide +kernel
theorem dJx4a65c_grow_d5877_10 : decode cJx4a65c_grow_d5877 10 = .ok (.areturn, 1) := by decide +kernel
theorem dJx4a65c_size_8abf5_0 : decode cJx4a65c_size_8abf5 0 = .ok (.aload_n 0, 1) := by decide +kernel
theorem dJx4a65c_size_8abf5_1 : decode cJx4a65c_size_8abf5 1 = .ok (.getfield 48, 3) := by decide +kernel
theorem dJx4a65c_size_8abf5_4 : decode cJx4a65c_size_8abf5 4 = .ok (.ireturn, 1) := by decide +kernel
theorem dJx4a65c_elementData_915e3_0 : decode cJx4a65c_elementData_915e3 0 = .ok (.aload_n 0, 1) := by decide +kernel
theorem dJx4a65c_elementData_915e3_1 : decode cJx4a65c_elementData_915e3 1 = .ok (.getfield 9, 3) := by decide +kernel
theorem dJx4a65c_elementData_915e3_4 : decode cJx4a65c_elementData_915e3 4 = .ok (.iload_n 1, 1) := by decide +kernel
theorem dJx4a65c_elementData_915e3_5 : decode cJx4a65c_elementData_915e3 5 = .ok (.aaload, 1) := by decide +kernel
theorem dJx4a65c_elementData_915e3_6 : decode cJx4a65c_elementData_915e3 6 = .ok (.areturn, 1) := by decide +kernel
theorem dJx4a65c_get_915e3_0 : decode cJx4a65c_get_915e3 0 = .ok (.iload_n 1, 1) := by decide +kernel
theorem dJx4a65c_get_915e3_1 : decode cJx4a65c_get_915e3 1 = .ok (.aload_n 0, 1) := by decide +kernel
theorem dJx4a65c_get_915e3_2 : decode cJx4a65c_get_915e3 2 = .ok (.getfield 48, 3) := by decide +kernel
theorem dJx4a65c_get_915e3_5 : decode cJx4a65c_get_915e3 5 = .ok (.invokestatic 118, 3) := by decide +kernel
theorem dJx4a65c_get_915e3_8 : decode cJx4a65c_get_915e3 8 = .ok (.pop, 1) := by decide +kernel
theorem dJx4a65c_get_915e3_9 : decode cJx4a65c_get_915e3 9 = .ok (.aload_n 0, 1) := by decide +kernel
theorem dJx4a65c_get_915e3_10 : decode cJx4a65c_get_915e3 10 = .ok (.iload_n 1, 1) := by decide +kernel
theorem dJx4a65c_get_915e3_11 : decode cJx4a65c_get_915e3 11 = .ok (.invokevirtual 123, 3) := by decide +kernel
theorem dJx4a65c_get_915e3_14 : decode cJx4a65c_get_915e3 14 = .ok (.areturn, 1) := by decide +kernel
theorem dJx4a65c_add_72be8_0 : decode cJx4a65c_add_72be8 0 = .ok (.iload_n 3, 1) := by decide +kernel
theorem dJx4a65c_add_72be8_1 : decode cJx4a65c_add_72be8 1 = .ok (.aload_n 2, 1) := by decide +kernel
theorem dJx4a65c_add_72be8_2 : decode cJx4a65c_add_72be8 2 = .ok (.arraylength, 1) := by decide +kernel
theorem dJx4a65c_add_72be8_3 : decode cJx4a65c_add_72be8 3 = .ok (.if_icmp .ne 8, 3) := by decide +kernel
theorem dJx4a65c_add_72be8_6 : decode cJx4a65c_add_72be8 6 = .ok (.aload_n 0, 1) := by decide +kernel
theorem dJx4a65c_add_72be8_7 : decode cJx4a65c_add_72be8 7 = .ok (.invokevirtual 129, 3) := by decide +kernel
theorem dJx4a65c_add_72be8_10 : decode cJx4a65c_add_72be8 10 = .ok (.astore_n 2, 1) := by decide +kernel
theorem dJx4a65c_add_72be8_11 : decode cJx4a65c_add_72be8 11 = .ok (.aload_n 2, 1) := by decide +kernel
theorem dJx4a65c_add_72be8_12 : decode cJx4a65c_add_72be8 12 = .ok (.iload_n 3, 1) := by decide +kernel
theorem dJx4a65c_add_72be8_13 : decode cJx4a65c_add_72be8 13 = .ok (.aload_n 1, 1) := by decide +kernel
theorem dJx4a65c_add_72be8_14 : decode cJx4a65c_add_72be8 14 = .ok (.aastore, 1) := by decide +kernel
theorem dJx4a65c_add_72be8_15 : decode cJx4a65c_add_72be8 15 = .ok (.aload_n 0, 1) := by decide +kernel
theorem dJx4a65c_add_72be8_16 : decode cJx4a65c_add_72be8 16 = .ok (.iload_n 3, 1) := by decide +kernel
theorem dJx4a65c_add_72be8_17 : decode cJx4a65c_add_72be8 17 = .ok (.iconst 1, 1) := by decide +kernel
theorem dJx4a65c_add_72be8_18 : decode cJx4a65c_add_72be8 18 = .ok (.iadd, 1) := by decide +kernel
theorem dJx4a65c_add_72be8_19 : decode cJx4a65c_add_72be8 19 = .ok (.putfield 48, 3) := by decide +kernel
theorem dJx4a65c_add_72be8_22 : decode cJx4a65c_add_72be8 22 = .ok (.return_, 1) := by decide +kernel
theorem dJx4a65c_add_9ea2d_0 : decode cJx4a65c_add_9ea2d 0 = .ok (.aload_n 0, 1) := by decide +kernel
theorem dJx4a65c_add_9ea2d_1 : decode cJx4a65c_add_9ea2d 1 = .ok (.dup, 1) := by decide +kernel
theorem dJx4a65c_add_9ea2d_2 : decode cJx4a65c_add_9ea2d 2 = .ok (.getfield 63, 3) := by decide +kernel
theorem dJx4a65c_add_9ea2d_5 : decode cJx4a65c_add_9ea2d 5 = .ok (.iconst 1, 1) := by decide +kernel
theorem dJx4a65c_add_9ea2d_6 : decode cJx4a65c_add_9ea2d 6 = .ok (.iadd, 1) := by decide +kernel
theorem dJx4a65c_add_9ea2d_7 : decode cJx4a65c_add_9ea2d 7 = .ok (.putfield 63, 3) := by decide +kernel
theorem dJx4a65c_add_9ea2d_10 : decode cJx4a65c_add_9ea2d 10 = .ok (.aload_n 0, 1) := by decide +kernel
theorem dJx4a65c_add_9ea2d_11 : decode cJx4a65c_add_9ea2d 11 = .ok (.aload_n 1, 1) := by decide +kernel
theorem dJx4a65c_add_9ea2d_12 : decode cJx4a65c_add_9ea2d 12 = .ok (.aload_n 0, 1) := by decide +kernel
theorem dJx4a65c_add_9ea2d_13 : decode cJx4a65c_add_9ea2d 13 = .ok (.getfield 9, 3) := by decide +kernel
theorem dJx4a65c_add_9ea2d_16 : decode cJx4a65c_add_9ea2d 16 = .ok (.aload_n 0, 1) := by decide +kernel
theorem dJx4a65c_add_9ea2d_17 : decode cJx4a65c_add_9ea2d 17 = .ok (.getfield 48, 3) := by decide +kernel
theorem dJx4a65c_add_9ea2d_20 : decode cJx4a65c_add_9ea2d 20 = .ok (.invokevirtual 131, 3) := by decide +kernel
theorem dJx4a65c_add_9ea2d_23 : decode cJx4a65c_add_9ea2d 23 = .ok (.iconst 1, 1) := by decide +kernel
theorem dJx4a65c_add_9ea2d_24 : decode cJx4a65c_add_9ea2d 24 = .ok (.ireturn, 1) := by decide +kernel
theorem dJx4a65c_clear_da8c8_0 : decode cJx4a65c_clear_da8c8 0 = .ok (.aload_n 0, 1) := by decide +kernel
theorem dJx4a65c_clear_da8c8_1 : decode cJx4a65c_clear_da8c8 1 = .ok (.dup, 1) := by decide +kernel
theorem dJx4a65c_clear_da8c8_2 : decode cJx4a65c_clear_da8c8 2 = .ok (.getfield 63, 3) := by decide +kernel
theorem dJx4a65c_clear_da8c8_5 : decode cJx4a65c_clear_da8c8 5 = .ok (.iconst 1, 1) := by decide +kernel
theorem dJx4a65c_clear_da8c8_6 : decode cJx4a65c_clear_da8c8 6 = .ok (.iadd, 1) := by decide +kernel
theorem dJx4a65c_clear_da8c8_7 : decode cJx4a65c_clear_da8c8 7 = .ok (.putfield 63, 3) := by decide +kernel
theorem dJx4a65c_clear_da8c8_10 : decode cJx4a65c_clear_da8c8 10 = .ok (.aload_n 0, 1) := by decide +kernel
theorem dJx4a65c_clear_da8c8_11 : decode cJx4a65c_clear_da8c8 11 = .ok (.getfield 9, 3) := by decide +kernel
theorem dJx4a65c_clear_da8c8_14 : decode cJx4a65c_clear_da8c8 14 = .ok (.astore_n 1, 1) := by decide +kernel
theorem dJx4a65c_clear_da8c8_15 : decode cJx4a65c_clear_da8c8 15 = .ok (.aload_n 0, 1) := by decide +kernel
theorem dJx4a65c_clear_da8c8_16 : decode cJx4a65c_clear_da8c8 16 = .ok (.getfield 48, 3) := by decide +kernel
theorem dJx4a65c_clear_da8c8_19 : decode cJx4a65c_clear_da8c8 19 = .ok (.istore_n 2, 1) := by decide +kernel
theorem dJx4a65c_clear_da8c8_20 : decode cJx4a65c_clear_da8c8 20 = .ok (.aload_n 0, 1) := by decide +kernel
theorem dJx4a65c_clear_da8c8_21 : decode cJx4a65c_clear_da8c8 21 = .ok (.iconst 0, 1) := by decide +kernel
theorem dJx4a65c_clear_da8c8_22 : decode cJx4a65c_clear_da8c8 22 = .ok (.dup_x1, 1) := by decide +kernel
theorem dJx4a65c_clear_da8c8_23 : decode cJx4a65c_clear_da8c8 23 = .ok (.putfield 48, 3) := by decide +kernel
theorem dJx4a65c_clear_da8c8_26 : decode cJx4a65c_clear_da8c8 26 = .ok (.istore_n 3, 1) := by decide +kernel
theorem dJx4a65c_clear_da8c8_27 : decode cJx4a65c_clear_da8c8 27 = .ok (.iload_n 3, 1) := by decide +kernel
theorem dJx4a65c_clear_da8c8_28 : decode cJx4a65c_clear_da8c8 28 = .ok (.iload_n 2, 1) := by decide +kernel
theorem dJx4a65c_clear_da8c8_29 : decode cJx4a65c_clear_da8c8 29 = .ok (.if_icmp .ge 13, 3) := by decide +kernel
theorem dJx4a65c_clear_da8c8_32 : decode cJx4a65c_clear_da8c8 32 = .ok (.aload_n 1, 1) := by decide +kernel
theorem dJx4a65c_clear_da8c8_33 : decode cJx4a65c_clear_da8c8 33 = .ok (.iload_n 3, 1) := by decide +kernel
theorem dJx4a65c_clear_da8c8_34 : decode cJx4a65c_clear_da8c8 34 = .ok (.aconst_null, 1) := by decide +kernel
theorem dJx4a65c_clear_da8c8_35 : decode cJx4a65c_clear_da8c8 35 = .ok (.aastore, 1) := by decide +kernel
theorem dJx4a65c_clear_da8c8_36 : decode cJx4a65c_clear_da8c8 36 = .ok (.iinc 3 1, 3) := by decide +kernel
theorem dJx4a65c_clear_da8c8_39 : decode cJx4a65c_clear_da8c8 39 = .ok (.goto (-12), 3) := by decide +kernel
theorem dJx4a65c_clear_da8c8_42 : decode cJx4a65c_clear_da8c8 42 = .ok (.return_, 1) := by decide +kernel
theorem dJ7_copyOf_1904c_0 : decode cJ7_copyOf_1904c 0 = .ok (.aload_n 0, 1) := by decide +kernel
theorem dJ7_copyOf_1904c_1 : decode cJ7_copyOf_1904c 1 = .ok (.iload_n 1, 1) := by decide +kernel
theorem dJ7_copyOf_1904c_2 : decode cJ7_copyOf_1904c 2 = .ok (.aload_n 0, 1) := by decide +kernel
theorem dJ7_copyOf_1904c_3 : decode cJ7_copyOf_1904c 3 = .ok (.invokevirtual 86, 3) := by decide +kernel
theorem dJ7_copyOf_1904c_6 : decode cJ7_copyOf_1904c 6 = .ok (.invokestatic 300, 3) := by decide +kernel
theorem dJ7_copyOf_1904c_9 : decode cJ7_copyOf_1904c 9 = .ok (.areturn, 1) := by decide +kernel
theorem dJ7_copyOf_6403c_0 : decode cJ7_copyOf_6403c 0 = .ok (.aload_n 2, 1) := by decide +kernel
theorem dJ7_copyOf_6403c_1 : decode cJ7_copyOf_6403c 1 = .ok (.ldc 110, 2) := by decide +kernel
theorem dJ7_copyOf_6403c_3 : decode cJ7_copyOf_6403c 3 = .ok (.if_acmp .ne 10, 3) := by decide +kernel
theorem dJ7_copyOf_6403c_6 : decode cJ7_copyOf_6403c 6 = .ok (.iload_n 1, 1) := by decide +kernel
theorem dJ7_copyOf_6403c_7 : decode cJ7_copyOf_6403c 7 = .ok (.anewarray 2, 3) := by decide +kernel
theorem dJ7_copyOf_6403c_10 : decode cJ7_copyOf_6403c 10 = .ok (.goto 14, 3) := by decide +kernel
theorem dJ7_copyOf_6403c_13 : decode cJ7_copyOf_6403c 13 = .ok (.aload_n 2, 1) := by decide +kernel
theorem dJ7_copyOf_6403c_14 : decode cJ7_copyOf_6403c 14 = .ok (.invokevirtual 90, 3) := by decide +kernel
theorem dJ7_copyOf_6403c_17 : decode cJ7_copyOf_6403c 17 = .ok (.iload_n 1, 1) := by decide +kernel
theorem dJ7_copyOf_6403c_18 : decode cJ7_copyOf_6403c 18 = .ok (.invokestatic 95, 3) := by decide +kernel
theorem dJ7_copyOf_6403c_21 : decode cJ7_copyOf_6403c 21 = .ok (.checkcast 110, 3) := by decide +kernel
theorem dJ7_copyOf_6403c_24 : decode cJ7_copyOf_6403c 24 = .ok (.astore_n 3, 1) := by decide +kernel
theorem dJ7_copyOf_6403c_25 : decode cJ7_copyOf_6403c 25 = .ok (.aload_n 0, 1) := by decide +kernel
theorem dJ7_copyOf_6403c_26 : decode cJ7_copyOf_6403c 26 = .ok (.iconst 0, 1) := by decide +kernel
theorem dJ7_copyOf_6403c_27 : decode cJ7_copyOf_6403c 27 = .ok (.aload_n 3, 1) := by decide +kernel
theorem dJ7_copyOf_6403c_28 : decode cJ7_copyOf_6403c 28 = .ok (.iconst 0, 1) := by decide +kernel
theorem dJ7_copyOf_6403c_29 : decode cJ7_copyOf_6403c 29 = .ok (.aload_n 0, 1) := by decide +kernel
theorem dJ7_copyOf_6403c_30 : decode cJ7_copyOf_6403c 30 = .ok (.arraylength, 1) := by decide +kernel
theorem dJ7_copyOf_6403c_31 : decode cJ7_copyOf_6403c 31 = .ok (.iload_n 1, 1) := by decide +kernel
theorem dJ7_copyOf_6403c_32 : decode cJ7_copyOf_6403c 32 = .ok (.invokestatic 304, 3) := by decide +kernel
theorem dJ7_copyOf_6403c_35 : decode cJ7_copyOf_6403c 35 = .ok (.invokestatic 150, 3) := by decide +kernel
theorem dJ7_copyOf_6403c_38 : decode cJ7_copyOf_6403c 38 = .ok (.aload_n 3, 1) := by decide +kernel
theorem dJ7_copyOf_6403c_39 : decode cJ7_copyOf_6403c 39 = .ok (.areturn, 1) := by decide +kernel
theorem dJ15_checkIndex_7cf53_0 : decode cJ15_checkIndex_7cf53 0 = .ok (.iload_n 0, 1) := by decide +kernel
theorem dJ15_checkIndex_7cf53_1 : decode cJ15_checkIndex_7cf53 1 = .ok (.iload_n 1, 1) := by decide +kernel
theorem dJ15_checkIndex_7cf53_2 : decode cJ15_checkIndex_7cf53 2 = .ok (.aconst_null, 1) := by decide +kernel
theorem dJ15_checkIndex_7cf53_3 : decode cJ15_checkIndex_7cf53 3 = .ok (.invokestatic 105, 3) := by decide +kernel
theorem dJ15_checkIndex_7cf53_6 : decode cJ15_checkIndex_7cf53 6 = .ok (.ireturn, 1) := by decide +kernel
theorem dJ8_newLength_cabcc_0 : decode cJ8_newLength_cabcc 0 = .ok (.iload_n 0, 1) := by decide +kernel
theorem dJ8_newLength_cabcc_1 : decode cJ8_newLength_cabcc 1 = .ok (.iload_n 1, 1) := by decide +kernel
theorem dJ8_newLength_cabcc_2 : decode cJ8_newLength_cabcc 2 = .ok (.iload_n 2, 1) := by decide +kernel
theorem dJ8_newLength_cabcc_3 : decode cJ8_newLength_cabcc 3 = .ok (.invokestatic 194, 3) := by decide +kernel
theorem dJ8_newLength_cabcc_6 : decode cJ8_newLength_cabcc 6 = .ok (.iadd, 1) := by decide +kernel
theorem dJ8_newLength_cabcc_7 : decode cJ8_newLength_cabcc 7 = .ok (.istore_n 3, 1) := by decide +kernel
theorem dJ8_newLength_cabcc_8 : decode cJ8_newLength_cabcc 8 = .ok (.iconst 0, 1) := by decide +kernel
theorem dJ8_newLength_cabcc_9 : decode cJ8_newLength_cabcc 9 = .ok (.iload_n 3, 1) := by decide +kernel
theorem dJ8_newLength_cabcc_10 : decode cJ8_newLength_cabcc 10 = .ok (.if_icmp .ge 11, 3) := by decide +kernel
theorem dJ8_newLength_cabcc_13 : decode cJ8_newLength_cabcc 13 = .ok (.iload_n 3, 1) := by decide +kernel
theorem dJ8_newLength_cabcc_14 : decode cJ8_newLength_cabcc 14 = .ok (.ldc 200, 2) := by decide +kernel
theorem dJ8_newLength_cabcc_16 : decode cJ8_newLength_cabcc 16 = .ok (.if_icmp .gt 5, 3) := by decide +kernel
theorem dJ8_newLength_cabcc_19 : decode cJ8_newLength_cabcc 19 = .ok (.iload_n 3, 1) := by decide +kernel
theorem dJ8_newLength_cabcc_20 : decode cJ8_newLength_cabcc 20 = .ok (.ireturn, 1) := by decide +kernel
theorem dJ8_newLength_cabcc_21 : decode cJ8_newLength_cabcc 21 = .ok (.iload_n 0, 1) := by decide +kernel
theorem dJ8_newLength_cabcc_22 : decode cJ8_newLength_cabcc 22 = .ok (.iload_n 1, 1) := by decide +kernel
theorem dJ8_newLength_cabcc_23 : decode cJ8_newLength_cabcc 23 = .ok (.invokestatic 201, 3) := by decide +kernel
theorem dJ8_newLength_cabcc_26 : decode cJ8_newLength_cabcc 26 = .ok (.ireturn, 1) := by decide +kernel
theorem dJ3_checkIndex_8e157_0 : decode cJ3_checkIndex_8e157 0 = .ok (.iload_n 0, 1) := by decide +kernel
theorem dJ3_checkIndex_8e157_1 : decode cJ3_checkIndex_8e157 1 = .ok (.ifCond .lt 8, 3) := by decide +kernel
theorem dJ3_checkIndex_8e157_4 : decode cJ3_checkIndex_8e157 4 = .ok (.iload_n 0, 1) := by decide +kernel
theorem dJ3_checkIndex_8e157_5 : decode cJ3_checkIndex_8e157 5 = .ok (.iload_n 1, 1) := by decide +kernel
theorem dJ3_checkIndex_8e157_6 : decode cJ3_checkIndex_8e157 6 = .ok (.if_icmp .lt 10, 3) := by decide +kernel
theorem dJ3_checkIndex_8e157_9 : decode cJ3_checkIndex_8e157 9 = .ok (.aload_n 2, 1) := by decide +kernel
theorem dJ3_checkIndex_8e157_10 : decode cJ3_checkIndex_8e157 10 = .ok (.iload_n 0, 1) := by decide +kernel
theorem dJ3_checkIndex_8e157_11 : decode cJ3_checkIndex_8e157 11 = .ok (.iload_n 1, 1) := by decide +kernel
theorem dJ3_checkIndex_8e157_12 : decode cJ3_checkIndex_8e157 12 = .ok (.invokestatic 95, 3) := by decide +kernel
theorem dJ3_checkIndex_8e157_15 : decode cJ3_checkIndex_8e157 15 = .ok (.athrow, 1) := by decide +kernel
theorem dJ3_checkIndex_8e157_16 : decode cJ3_checkIndex_8e157 16 = .ok (.iload_n 0, 1) := by decide +kernel
theorem dJ3_checkIndex_8e157_17 : decode cJ3_checkIndex_8e157 17 = .ok (.ireturn, 1) := by decide +kernel
theorem dL_type_0 : decode cL_type 0 = .ok (.aload_n 2, 1) := by decide +kernel
theorem dL_type_1 : decode cL_type 1 = .ok (.iconst 0, 1) := by decide +kernel
theorem dL_type_2 : decode cL_type 2 = .ok (.aload_n 0, 1) := by decide +kernel
theorem dL_type_3 : decode cL_type 3 = .ok (.iload_n 1, 1) := by decide +kernel
theorem dL_type_4 : decode cL_type 4 = .ok (.invokevirtual 7, 3) := by decide +kernel
theorem dL_type_7 : decode cL_type 7 = .ok (.i2l, 1) := by decide +kernel
theorem dL_type_8 : decode cL_type 8 = .ok (.lastore, 1) := by decide +kernel
theorem dL_type_9 : decode cL_type 9 = .ok (.goto 9, 3) := by decide +kernel
theorem dL_type_12 : decode cL_type 12 = .ok (.astore_n 3, 1) := by decide +kernel
theorem dL_type_13 : decode cL_type 13 = .ok (.iconst 1, 1) := by decide +kernel
theorem dL_type_14 : decode cL_type 14 = .ok (.ireturn, 1) := by decide +kernel
theorem dL_type_15 : decode cL_type 15 = .ok (.astore_n 3, 1) := by decide +kernel
theorem dL_type_16 : decode cL_type 16 = .ok (.iconst 2, 1) := by decide +kernel
theorem dL_type_17 : decode cL_type 17 = .ok (.ireturn, 1) := by decide +kernel
theorem dL_type_18 : decode cL_type 18 = .ok (.iconst 0, 1) := by decide +kernel
theorem dL_type_19 : decode cL_type 19 = .ok (.ireturn, 1) := by decide +kernel
theorem dL_back_0 : decode cL_back 0 = .ok (.aload_n 1, 1) := by decide +kernel
theorem dL_back_1 : decode cL_back 1 = .ok (.iconst 0, 1) := by decide +kernel
theorem dL_back_2 : decode cL_back 2 = .ok (.aload_n 0, 1) := by decide +kernel
theorem dL_back_3 : decode cL_back 3 = .ok (.invokevirtual 17, 3) := by decide +kernel
theorem dL_back_6 : decode cL_back 6 = .ok (.i2l, 1) := by decide +kernel
theorem dL_back_7 : decode cL_back 7 = .ok (.lastore, 1) := by decide +kernel
theorem dL_back_8 : decode cL_back 8 = .ok (.goto 6, 3) := by decide +kernel
theorem dL_back_11 : decode cL_back 11 = .ok (.astore_n 2, 1) := by decide +kernel
theorem dL_back_12 : decode cL_back 12 = .ok (.iconst 1, 1) := by decide +kernel
theorem dL_back_13 : decode cL_back 13 = .ok (.ireturn, 1) := by decide +kernel
theorem dL_back_14 : decode cL_back 14 = .ok (.iconst 0, 1) := by decide +kernel
theorem dL_back_15 : decode cL_back 15 = .ok (.ireturn, 1) := by decide +kernel
theorem dL_makeProject_0 : decode cL_makeProject 0 = .ok (.aload_n 1, 1) := by decide +kernel
theorem dL_makeProject_1 : decode cL_makeProject 1 = .ok (.iconst 0, 1) := by decide +kernel
theorem dL_makeProject_2 : decode cL_makeProject 2 = .ok (.aload_n 0, 1) := by decide +kernel
theorem dL_makeProject_3 : decode cL_makeProject 3 = .ok (.invokevirtual 21, 3) := by decide +kernel
theorem dL_makeProject_6 : decode cL_makeProject 6 = .ok (.i2l, 1) := by decide +kernel
theorem dL_makeProject_7 : decode cL_makeProject 7 = .ok (.lastore, 1) := by decide +kernel
theorem dL_makeProject_8 : decode cL_makeProject 8 = .ok (.goto 6, 3) := by decide +kernel
theorem dL_makeProject_11 : decode cL_makeProject 11 = .ok (.astore_n 2, 1) := by decide +kernel
theorem dL_makeProject_12 : decode cL_makeProject 12 = .ok (.iconst 1, 1) := by decide +kernel
theorem dL_makeProject_13 : decode cL_makeProject 13 = .ok (.ireturn, 1) := by decide +kernel
theorem dL_makeProject_14 : decode cL_makeProject 14 = .ok (.iconst 0, 1) := by decide +kernel
theorem dL_makeProject_15 : decode cL_makeProject 15 = .ok (.ireturn, 1) := by decide +kernel
theorem dL_moveProject_0 : decode cL_moveProject 0 = .ok (.aload_n 2, 1) := by decide +kernel
theorem dL_moveProject_1 : decode cL_moveProject 1 = .ok (.iconst 0, 1) := by decide +kernel
theorem dL_moveProject_2 : decode cL_moveProject 2 = .ok (.aload_n 0, 1) := by decide +kernel
theorem dL_moveProject_3 : decode cL_moveProject 3 = .ok (.iload_n 1, 1) := by decide +kernel
theorem dL_moveProject_4 : decode cL_moveProject 4 = .ok (.invokevirtual 24, 3) := by decide +kernel
theorem dL_moveProject_7 : decode cL_moveProject 7 = .ok (.i2l, 1) := by decide +kernel
theorem dL_moveProject_8 : decode cL_moveProject 8 = .ok (.lastore, 1) := by decide +kernel
theorem dL_moveProject_9 : decode cL_moveProject 9 = .ok (.goto 9, 3) := by decide +kernel
theorem dL_moveProject_12 : decode cL_moveProject 12 = .ok (.astore_n 3, 1) := by decide +kernel
theorem dL_moveProject_13 : decode cL_moveProject 13 = .ok (.iconst 1, 1) := by decide +kernel
theorem dL_moveProject_14 : decode cL_moveProject 14 = .ok (.ireturn, 1) := by decide +kernel
theorem dL_moveProject_15 : decode cL_moveProject 15 = .ok (.astore_n 3, 1) := by decide +kernel
theorem dL_moveProject_16 : decode cL_moveProject 16 = .ok (.iconst 2, 1) := by decide +kernel
theorem dL_moveProject_17 : decode cL_moveProject 17 = .ok (.ireturn, 1) := by decide +kernel
theorem dL_moveProject_18 : decode cL_moveProject 18 = .ok (.iconst 0, 1) := by decide +kernel
theorem dL_moveProject_19 : decode cL_moveProject 19 = .ok (.ireturn, 1) := by decide +kernel
theorem dL_letterAt_0 : decode cL_letterAt 0 = .ok (.aload_n 3, 1) := by decide +kernel
theorem dL_letterAt_1 : decode cL_letterAt 1 = .ok (.iconst 0, 1) := by decide +kernel
theorem dL_letterAt_2 : decode cL_letterAt 2 = .ok (.aload_n 0, 1) := by decide +kernel
theorem dL_letterAt_3 : decode cL_letterAt 3 = .ok (.iload_n 1, 1) := by decide +kernel
theorem dL_letterAt_4 : decode cL_letterAt 4 = .ok (.iload_n 2, 1) := by decide +kernel
theorem dL_letterAt_5 : decode cL_letterAt 5 = .ok (.invokevirtual 30, 3) := by decide +kernel
theorem dL_letterAt_8 : decode cL_letterAt 8 = .ok (.i2l, 1) := by decide +kernel
theorem dL_letterAt_9 : decode cL_letterAt 9 = .ok (.lastore, 1) := by decide +kernel
theorem dL_letterAt_10 : decode cL_letterAt 10 = .ok (.goto 7, 3) := by decide +kernel
theorem dL_letterAt_13 : decode cL_letterAt 13 = .ok (.astore 4, 2) := by decide +kernel
theorem dL_letterAt_15 : decode cL_letterAt 15 = .ok (.iconst 1, 1) := by decide +kernel
theorem dL_letterAt_16 : decode cL_letterAt 16 = .ok (.ireturn, 1) := by decide +kernel
theorem dL_letterAt_17 : decode cL_letterAt 17 = .ok (.iconst 0, 1) := by decide +kernel
theorem dL_letterAt_18 : decode cL_letterAt 18 = .ok (.ireturn, 1) := by decide +kernel
theorem dL_makeFile_0 : decode cL_makeFile 0 = .ok (.aload_n 3, 1) := by decide +kernel
theorem dL_makeFile_1 : decode cL_makeFile 1 = .ok (.iconst 0, 1) := by decide +kernel
theorem dL_makeFile_2 : decode cL_makeFile 2 = .ok (.aload_n 0, 1) := by decide +kernel
theorem dL_makeFile_3 : decode cL_makeFile 3 = .ok (.iload_n 1, 1) := by decide +kernel
theorem dL_makeFile_4 : decode cL_makeFile 4 = .ok (.iload_n 2, 1) := by decide +kernel
theorem dL_makeFile_5 : decode cL_makeFile 5 = .ok (.invokevirtual 34, 3) := by decide +kernel
theorem dL_makeFile_8 : decode cL_makeFile 8 = .ok (.i2l, 1) := by decide +kernel
theorem dL_makeFile_9 : decode cL_makeFile 9 = .ok (.lastore, 1) := by decide +kernel
theorem dL_makeFile_10 : decode cL_makeFile 10 = .ok (.goto 11, 3) := by decide +kernel
theorem dL_makeFile_13 : decode cL_makeFile 13 = .ok (.astore 4, 2) := by decide +kernel
theorem dL_makeFile_15 : decode cL_makeFile 15 = .ok (.iconst 1, 1) := by decide +kernel
theorem dL_makeFile_16 : decode cL_makeFile 16 = .ok (.ireturn, 1) := by decide +kernel
theorem dL_makeFile_17 : decode cL_makeFile 17 = .ok (.astore 4, 2) := by decide +kernel
theorem dL_makeFile_19 : decode cL_makeFile 19 = .ok (.iconst 2, 1) := by decide +kernel
theorem dL_makeFile_20 : decode cL_makeFile 20 = .ok (.ireturn, 1) := by decide +kernel
theorem dL_makeFile_21 : decode cL_makeFile 21 = .ok (.iconst 0, 1) := by decide +kernel
theorem dL_makeFile_22 : decode cL_makeFile 22 = .ok (.ireturn, 1) := by decide +kernel
theorem dL_write_0 : decode cL_write 0 = .ok (.aload_n 3, 1) := by decide +kernel
theorem dL_write_1 : decode cL_write 1 = .ok (.iconst 0, 1) := by decide +kernel
theorem dL_write_2 : decode cL_write 2 = .ok (.aload_n 0, 1) := by decide +kernel
theorem dL_write_3 : decode cL_write 3 = .ok (.iload_n 1, 1) := by decide +kernel
theorem dL_write_4 : decode cL_write 4 = .ok (.iload_n 2, 1) := by decide +kernel
theorem dL_write_5 : decode cL_write 5 = .ok (.invokevirtual 38, 3) := by decide +kernel
theorem dL_write_8 : decode cL_write 8 = .ok (.i2l, 1) := by decide +kernel
theorem dL_write_9 : decode cL_write 9 = .ok (.lastore, 1) := by decide +kernel
theorem dL_write_10 : decode cL_write 10 = .ok (.goto 11, 3) := by decide +kernel
theorem dL_write_13 : decode cL_write 13 = .ok (.astore 4, 2) := by decide +kernel
theorem dL_write_15 : decode cL_write 15 = .ok (.iconst 1, 1) := by decide +kernel
theorem dL_write_16 : decode cL_write 16 = .ok (.ireturn, 1) := by decide +kernel
theorem dL_write_17 : decode cL_write 17 = .ok (.astore 4, 2) := by decide +kernel
theorem dL_write_19 : decode cL_write 19 = .ok (.iconst 2, 1) := by decide +kernel
theorem dL_write_20 : decode cL_write 20 = .ok (.ireturn, 1) := by decide +kernel
theorem dL_write_21 : decode cL_write 21 = .ok (.iconst 0, 1) := by decide +kernel
theorem dL_write_22 : decode cL_write 22 = .ok (.ireturn, 1) := by decide +kernel
theorem dL_delete_0 : decode cL_delete 0 = .ok (.aload_n 2, 1) := by decide +kernel
theorem dL_delete_1 : decode cL_delete 1 = .ok (.iconst 0, 1) := by decide +kernel
theorem dL_delete_2 : decode cL_delete 2 = .ok (.aload_n 0, 1) := by decide +kernel
theorem dL_delete_3 : decode cL_delete 3 = .ok (.iload_n 1, 1) := by decide +kernel
theorem dL_delete_4 : decode cL_delete 4 = .ok (.invokevirtual 41, 3) := by decide +kernel
theorem dL_delete_7 : decode cL_delete 7 = .ok (.i2l, 1) := by decide +kernel
theorem dL_delete_8 : decode cL_delete 8 = .ok (.lastore, 1) := by decide +kernel
theorem dL_delete_9 : decode cL_delete 9 = .ok (.goto 6, 3) := by decide +kernel
theorem dL_delete_12 : decode cL_delete 12 = .ok (.astore_n 3, 1) := by decide +kernel
theorem dL_delete_13 : decode cL_delete 13 = .ok (.iconst 1, 1) := by decide +kernel
theorem dL_delete_14 : decode cL_delete 14 = .ok (.ireturn, 1) := by decide +kernel
theorem dL_delete_15 : decode cL_delete 15 = .ok (.iconst 0, 1) := by decide +kernel
theorem dL_delete_16 : decode cL_delete 16 = .ok (.ireturn, 1) := by decide +kernel
theorem dL_moveFile_0 : decode cL_moveFile 0 = .ok (.aload_n 3, 1) := by decide +kernel
theorem dL_moveFile_1 : decode cL_moveFile 1 = .ok (.iconst 0, 1) := by decide +kernel
theorem dL_moveFile_2 : decode cL_moveFile 2 = .ok (.aload_n 0, 1) := by decide +kernel
theorem dL_moveFile_3 : decode cL_moveFile 3 = .ok (.iload_n 1, 1) := by decide +kernel
theorem dL_moveFile_4 : decode cL_moveFile 4 = .ok (.iload_n 2, 1) := by decide +kernel
theorem dL_moveFile_5 : decode cL_moveFile 5 = .ok (.invokevirtual 44, 3) := by decide +kernel
theorem dL_moveFile_8 : decode cL_moveFile 8 = .ok (.i2l, 1) := by decide +kernel
theorem dL_moveFile_9 : decode cL_moveFile 9 = .ok (.lastore, 1) := by decide +kernel
theorem dL_moveFile_10 : decode cL_moveFile 10 = .ok (.goto 7, 3) := by decide +kernel
theorem dL_moveFile_13 : decode cL_moveFile 13 = .ok (.astore 4, 2) := by decide +kernel
theorem dL_moveFile_15 : decode cL_moveFile 15 = .ok (.iconst 1, 1) := by decide +kernel
theorem dL_moveFile_16 : decode cL_moveFile 16 = .ok (.ireturn, 1) := by decide +kernel
theorem dL_moveFile_17 : decode cL_moveFile 17 = .ok (.iconst 0, 1) := by decide +kernel
theorem dL_moveFile_18 : decode cL_moveFile 18 = .ok (.ireturn, 1) := by decide +kernel
theorem dL_reserve_0 : decode cL_reserve 0 = .ok (.aload_n 3, 1) := by decide +kernel
theorem dL_reserve_1 : decode cL_reserve 1 = .ok (.iconst 0, 1) := by decide +kernel
theorem dL_reserve_2 : decode cL_reserve 2 = .ok (.aload_n 0, 1) := by decide +kernel
theorem dL_reserve_3 : decode cL_reserve 3 = .ok (.iload_n 1, 1) := by decide +kernel
theorem dL_reserve_4 : decode cL_reserve 4 = .ok (.iload_n 2, 1) := by decide +kernel
theorem dL_reserve_5 : decode cL_reserve 5 = .ok (.invokevirtual 47, 3) := by decide +kernel
theorem dL_reserve_8 : decode cL_reserve 8 = .ok (.i2l, 1) := by decide +kernel
theorem dL_reserve_9 : decode cL_reserve 9 = .ok (.lastore, 1) := by decide +kernel
theorem dL_reserve_10 : decode cL_reserve 10 = .ok (.goto 15, 3) := by decide +kernel
theorem dL_reserve_13 : decode cL_reserve 13 = .ok (.astore 4, 2) := by decide +kernel
theorem dL_reserve_15 : decode cL_reserve 15 = .ok (.iconst 1, 1) := by decide +kernel
theorem dL_reserve_16 : decode cL_reserve 16 = .ok (.ireturn, 1) := by decide +kernel
theorem dL_reserve_17 : decode cL_reserve 17 = .ok (.astore 4, 2) := by decide +kernel
theorem dL_reserve_19 : decode cL_reserve 19 = .ok (.iconst 2, 1) := by decide +kernel
theorem dL_reserve_20 : decode cL_reserve 20 = .ok (.ireturn, 1) := by decide +kernel
theorem dL_reserve_21 : decode cL_reserve 21 = .ok (.astore 4, 2) := by decide +kernel
theorem dL_reserve_23 : decode cL_reserve 23 = .ok (.iconst 3, 1) := by decide +kernel
theorem dL_reserve_24 : decode cL_reserve 24 = .ok (.ireturn, 1) := by decide +kernel
theorem dL_reserve_25 : decode cL_reserve 25 = .ok (.iconst 0, 1) := by decide +kernel
theorem dL_reserve_26 : decode cL_reserve 26 = .ok (.ireturn, 1) := by decide +kernel
theorem dL_settle_0 : decode cL_settle 0 = .ok (.aload_n 3, 1) := by decide +kernel
theorem dL_settle_1 : decode cL_settle 1 = .ok (.iconst 0, 1) := by decide +kernel
theorem dL_settle_2 : decode cL_settle 2 = .ok (.aload_n 0, 1) := by decide +kernel
theorem dL_settle_3 : decode cL_settle 3 = .ok (.iload_n 1, 1) := by decide +kernel
theorem dL_settle_4 : decode cL_settle 4 = .ok (.iload_n 2, 1) := by decide +kernel
theorem dL_settle_5 : decode cL_settle 5 = .ok (.invokevirtual 50, 3) := by decide +kernel
theorem dL_settle_8 : decode cL_settle 8 = .ok (.i2l, 1) := by decide +kernel
theorem dL_settle_9 : decode cL_settle 9 = .ok (.lastore, 1) := by decide +kernel
theorem dL_settle_10 : decode cL_settle 10 = .ok (.goto 11, 3) := by decide +kernel
theorem dL_settle_13 : decode cL_settle 13 = .ok (.astore 4, 2) := by decide +kernel
theorem dL_settle_15 : decode cL_settle 15 = .ok (.iconst 1, 1) := by decide +kernel
theorem dL_settle_16 : decode cL_settle 16 = .ok (.ireturn, 1) := by decide +kernel
theorem dL_settle_17 : decode cL_settle 17 = .ok (.astore 4, 2) := by decide +kernel
theorem dL_settle_19 : decode cL_settle 19 = .ok (.iconst 2, 1) := by decide +kernel
theorem dL_settle_20 : decode cL_settle 20 = .ok (.ireturn, 1) := by decide +kernel
theorem dL_settle_21 : decode cL_settle 21 = .ok (.iconst 0, 1) := by decide +kernel
theorem dL_settle_22 : decode cL_settle 22 = .ok (.ireturn, 1) := by decide +kernel
theorem dL_setLimits_0 : decode cL_setLimits 0 = .ok (.aload_n 0, 1) := by decide +kernel
theorem dL_setLimits_1 : decode cL_setLimits 1 = .ok (.iload_n 1, 1) := by decide +kernel
theorem dL_setLimits_2 : decode cL_setLimits 2 = .ok (.iload_n 2, 1) := by decide +kernel
theorem dL_setLimits_3 : decode cL_setLimits 3 = .ok (.iload_n 3, 1) := by decide +kernel
theorem dL_setLimits_4 : decode cL_setLimits 4 = .ok (.iload 4, 2) := by decide +kernel
theorem dL_setLimits_6 : decode cL_setLimits 6 = .ok (.iload 5, 2) := by decide +kernel
theorem dL_setLimits_8 : decode cL_setLimits 8 = .ok (.invokevirtual 53, 3) := by decide +kernel
theorem dL_setLimits_11 : decode cL_setLimits 11 = .ok (.goto 11, 3) := by decide +kernel
theorem dL_setLimits_14 : decode cL_setLimits 14 = .ok (.astore 6, 2) := by decide +kernel
theorem dL_setLimits_16 : decode cL_setLimits 16 = .ok (.iconst 1, 1) := by decide +kernel
theorem dL_setLimits_17 : decode cL_setLimits 17 = .ok (.ireturn, 1) := by decide +kernel
theorem dL_setLimits_18 : decode cL_setLimits 18 = .ok (.astore 6, 2) := by decide +kernel
theorem dL_setLimits_20 : decode cL_setLimits 20 = .ok (.iconst 2, 1) := by decide +kernel
theorem dL_setLimits_21 : decode cL_setLimits 21 = .ok (.ireturn, 1) := by decide +kernel
theorem dL_setLimits_22 : decode cL_setLimits 22 = .ok (.iconst 0, 1) := by decide +kernel
theorem dL_setLimits_23 : decode cL_setLimits 23 = .ok (.ireturn, 1) := by decide +kernel
theorem dL_pass_0 : decode cL_pass 0 = .ok (.aload_n 2, 1) := by decide +kernel
theorem dL_pass_1 : decode cL_pass 1 = .ok (.iconst 0, 1) := by decide +kernel
theorem dL_pass_2 : decode cL_pass 2 = .ok (.aload_n 0, 1) := by decide +kernel
theorem dL_pass_3 : decode cL_pass 3 = .ok (.iload_n 1, 1) := by decide +kernel
theorem dL_pass_4 : decode cL_pass 4 = .ok (.invokevirtual 57, 3) := by decide +kernel
theorem dL_pass_7 : decode cL_pass 7 = .ok (.i2l, 1) := by decide +kernel
theorem dL_pass_8 : decode cL_pass 8 = .ok (.lastore, 1) := by decide +kernel
theorem dL_pass_9 : decode cL_pass 9 = .ok (.goto 9, 3) := by decide +kernel
theorem dL_pass_12 : decode cL_pass 12 = .ok (.astore_n 3, 1) := by decide +kernel
theorem dL_pass_13 : decode cL_pass 13 = .ok (.iconst 1, 1) := by decide +kernel
theorem dL_pass_14 : decode cL_pass 14 = .ok (.ireturn, 1) := by decide +kernel
theorem dL_pass_15 : decode cL_pass 15 = .ok (.astore_n 3, 1) := by decide +kernel
theorem dL_pass_16 : decode cL_pass 16 = .ok (.iconst 2, 1) := by decide +kernel
theorem dL_pass_17 : decode cL_pass 17 = .ok (.ireturn, 1) := by decide +kernel
theorem dL_pass_18 : decode cL_pass 18 = .ok (.iconst 0, 1) := by decide +kernel
theorem dL_pass_19 : decode cL_pass 19 = .ok (.ireturn, 1) := by decide +kernel
theorem dL_used_0 : decode cL_used 0 = .ok (.aload_n 3, 1) := by decide +kernel
theorem dL_used_1 : decode cL_used 1 = .ok (.iconst 0, 1) := by decide +kernel
theorem dL_used_2 : decode cL_used 2 = .ok (.aload_n 0, 1) := by decide +kernel
theorem dL_used_3 : decode cL_used 3 = .ok (.iload_n 1, 1) := by decide +kernel
theorem dL_used_4 : decode cL_used 4 = .ok (.iload_n 2, 1) := by decide +kernel
theorem dL_used_5 : decode cL_used 5 = .ok (.invokevirtual 60, 3) := by decide +kernel
theorem dL_used_8 : decode cL_used 8 = .ok (.i2l, 1) := by decide +kernel
theorem dL_used_9 : decode cL_used 9 = .ok (.lastore, 1) := by decide +kernel
theorem dL_used_10 : decode cL_used 10 = .ok (.goto 7, 3) := by decide +kernel
theorem dL_used_13 : decode cL_used 13 = .ok (.astore 4, 2) := by decide +kernel
theorem dL_used_15 : decode cL_used 15 = .ok (.iconst 1, 1) := by decide +kernel
theorem dL_used_16 : decode cL_used 16 = .ok (.ireturn, 1) := by decide +kernel
theorem dL_used_17 : decode cL_used 17 = .ok (.iconst 0, 1) := by decide +kernel
theorem dL_used_18 : decode cL_used 18 = .ok (.ireturn, 1) := by decide +kernel
theorem dL_filesOf_0 : decode cL_filesOf 0 = .ok (.aload_n 3, 1) := by decide +kernel
theorem dL_filesOf_1 : decode cL_filesOf 1 = .ok (.iconst 0, 1) := by decide +kernel
theorem dL_filesOf_2 : decode cL_filesOf 2 = .ok (.aload_n 0, 1) := by decide +kernel
theorem dL_filesOf_3 : decode cL_filesOf 3 = .ok (.iload_n 1, 1) := by decide +kernel
theorem dL_filesOf_4 : decode cL_filesOf 4 = .ok (.iload_n 2, 1) := by decide +kernel
theorem dL_filesOf_5 : decode cL_filesOf 5 = .ok (.invokevirtual 63, 3) := by decide +kernel
theorem dL_filesOf_8 : decode cL_filesOf 8 = .ok (.i2l, 1) := by decide +kernel
theorem dL_filesOf_9 : decode cL_filesOf 9 = .ok (.lastore, 1) := by decide +kernel
theorem dL_filesOf_10 : decode cL_filesOf 10 = .ok (.goto 7, 3) := by decide +kernel
theorem dL_filesOf_13 : decode cL_filesOf 13 = .ok (.astore 4, 2) := by decide +kernel
theorem dL_filesOf_15 : decode cL_filesOf 15 = .ok (.iconst 1, 1) := by decide +kernel
theorem dL_filesOf_16 : decode cL_filesOf 16 = .ok (.ireturn, 1) := by decide +kernel
theorem dL_filesOf_17 : decode cL_filesOf 17 = .ok (.iconst 0, 1) := by decide +kernel
theorem dL_filesOf_18 : decode cL_filesOf 18 = .ok (.ireturn, 1) := by decide +kernel
theorem dL_usedByFiles_0 : decode cL_usedByFiles 0 = .ok (.aload_n 3, 1) := by decide +kernel
theorem dL_usedByFiles_1 : decode cL_usedByFiles 1 = .ok (.iconst 0, 1) := by decide +kernel
theorem dL_usedByFiles_2 : decode cL_usedByFiles 2 = .ok (.aload_n 0, 1) := by decide +kernel
theorem dL_usedByFiles_3 : decode cL_usedByFiles 3 = .ok (.iload_n 1, 1) := by decide +kernel
theorem dL_usedByFiles_4 : decode cL_usedByFiles 4 = .ok (.iload_n 2, 1) := by decide +kernel
theorem dL_usedByFiles_5 : decode cL_usedByFiles 5 = .ok (.invokevirtual 66, 3) := by decide +kernel
theorem dL_usedByFiles_8 : decode cL_usedByFiles 8 = .ok (.i2l, 1) := by decide +kernel
theorem dL_usedByFiles_9 : decode cL_usedByFiles 9 = .ok (.lastore, 1) := by decide +kernel
theorem dL_usedByFiles_10 : decode cL_usedByFiles 10 = .ok (.goto 7, 3) := by decide +kernel
theorem dL_usedByFiles_13 : decode cL_usedByFiles 13 = .ok (.astore 4, 2) := by decide +kernel
theorem dL_usedByFiles_15 : decode cL_usedByFiles 15 = .ok (.iconst 1, 1) := by decide +kernel
theorem dL_usedByFiles_16 : decode cL_usedByFiles 16 = .ok (.ireturn, 1) := by decide +kernel
theorem dL_usedByFiles_17 : decode cL_usedByFiles 17 = .ok (.iconst 0, 1) := by decide +kernel
theorem dL_usedByFiles_18 : decode cL_usedByFiles 18 = .ok (.ireturn, 1) := by decide +kernel
theorem dL_grace_0 : decode cL_grace 0 = .ok (.aload_n 3, 1) := by decide +kernel
theorem dL_grace_1 : decode cL_grace 1 = .ok (.iconst 0, 1) := by decide +kernel
theorem dL_grace_2 : decode cL_grace 2 = .ok (.aload_n 0, 1) := by decide +kernel
theorem dL_grace_3 : decode cL_grace 3 = .ok (.iload_n 1, 1) := by decide +kernel
theorem dL_grace_4 : decode cL_grace 4 = .ok (.iload_n 2, 1) := by decide +kernel
theorem dL_grace_5 : decode cL_grace 5 = .ok (.invokevirtual 69, 3) := by decide +kernel
theorem dL_grace_8 : decode cL_grace 8 = .ok (.i2l, 1) := by decide +kernel
theorem dL_grace_9 : decode cL_grace 9 = .ok (.lastore, 1) := by decide +kernel
theorem dL_grace_10 : decode cL_grace 10 = .ok (.goto 7, 3) := by decide +kernel
theorem dL_grace_13 : decode cL_grace 13 = .ok (.astore 4, 2) := by decide +kernel
theorem dL_grace_15 : decode cL_grace 15 = .ok (.iconst 1, 1) := by decide +kernel
theorem dL_grace_16 : decode cL_grace 16 = .ok (.ireturn, 1) := by decide +kernel
theorem dL_grace_17 : decode cL_grace 17 = .ok (.iconst 0, 1) := by decide +kernel
theorem dL_grace_18 : decode cL_grace 18 = .ok (.ireturn, 1) := by decide +kernel
theorem dL_room_0 : decode cL_room 0 = .ok (.aload_n 2, 1) := by decide +kernel
theorem dL_room_1 : decode cL_room 1 = .ok (.iconst 0, 1) := by decide +kernel
theorem dL_room_2 : decode cL_room 2 = .ok (.aload_n 0, 1) := by decide +kernel
theorem dL_room_3 : decode cL_room 3 = .ok (.iload_n 1, 1) := by decide +kernel
theorem dL_room_4 : decode cL_room 4 = .ok (.invokevirtual 72, 3) := by decide +kernel
theorem dL_room_7 : decode cL_room 7 = .ok (.i2l, 1) := by decide +kernel
theorem dL_room_8 : decode cL_room 8 = .ok (.lastore, 1) := by decide +kernel
theorem dL_room_9 : decode cL_room 9 = .ok (.goto 6, 3) := by decide +kernel
theorem dL_room_12 : decode cL_room 12 = .ok (.astore_n 3, 1) := by decide +kernel
theorem dL_room_13 : decode cL_room 13 = .ok (.iconst 1, 1) := by decide +kernel
theorem dL_room_14 : decode cL_room 14 = .ok (.ireturn, 1) := by decide +kernel
theorem dL_room_15 : decode cL_room 15 = .ok (.iconst 0, 1) := by decide +kernel
theorem dL_room_16 : decode cL_room 16 = .ok (.ireturn, 1) := by decide +kernel
theorem dL_recount_0 : decode cL_recount 0 = .ok (.aload_n 2, 1) := by decide +kernel
theorem dL_recount_1 : decode cL_recount 1 = .ok (.iconst 0, 1) := by decide +kernel
theorem dL_recount_2 : decode cL_recount 2 = .ok (.aload_n 0, 1) := by decide +kernel
theorem dL_recount_3 : decode cL_recount 3 = .ok (.iload_n 1, 1) := by decide +kernel
theorem dL_recount_4 : decode cL_recount 4 = .ok (.invokevirtual 75, 3) := by decide +kernel
theorem dL_recount_7 : decode cL_recount 7 = .ok (.i2l, 1) := by decide +kernel
theorem dL_recount_8 : decode cL_recount 8 = .ok (.lastore, 1) := by decide +kernel
theorem dL_recount_9 : decode cL_recount 9 = .ok (.goto 9, 3) := by decide +kernel
theorem dL_recount_12 : decode cL_recount 12 = .ok (.astore_n 3, 1) := by decide +kernel
theorem dL_recount_13 : decode cL_recount 13 = .ok (.iconst 1, 1) := by decide +kernel
theorem dL_recount_14 : decode cL_recount 14 = .ok (.ireturn, 1) := by decide +kernel
theorem dL_recount_15 : decode cL_recount 15 = .ok (.astore_n 3, 1) := by decide +kernel
theorem dL_recount_16 : decode cL_recount 16 = .ok (.iconst 2, 1) := by decide +kernel
theorem dL_recount_17 : decode cL_recount 17 = .ok (.ireturn, 1) := by decide +kernel
theorem dL_recount_18 : decode cL_recount 18 = .ok (.iconst 0, 1) := by decide +kernel
theorem dL_recount_19 : decode cL_recount 19 = .ok (.ireturn, 1) := by decide +kernel
theorem dL_counted_0 : decode cL_counted 0 = .ok (.aload_n 3, 1) := by decide +kernel
theorem dL_counted_1 : decode cL_counted 1 = .ok (.iconst 0, 1) := by decide +kernel
theorem dL_counted_2 : decode cL_counted 2 = .ok (.aload_n 0, 1) := by decide +kernel
theorem dL_counted_3 : decode cL_counted 3 = .ok (.iload_n 1, 1) := by decide +kernel
theorem dL_counted_4 : decode cL_counted 4 = .ok (.iload_n 2, 1) := by decide +kernel
theorem dL_counted_5 : decode cL_counted 5 = .ok (.invokevirtual 78, 3) := by decide +kernel
theorem dL_counted_8 : decode cL_counted 8 = .ok (.i2l, 1) := by decide +kernel
theorem dL_counted_9 : decode cL_counted 9 = .ok (.lastore, 1) := by decide +kernel
theorem dL_counted_10 : decode cL_counted 10 = .ok (.goto 11, 3) := by decide +kernel
theorem dL_counted_13 : decode cL_counted 13 = .ok (.astore 4, 2) := by decide +kernel
theorem dL_counted_15 : decode cL_counted 15 = .ok (.iconst 1, 1) := by decide +kernel
theorem dL_counted_16 : decode cL_counted 16 = .ok (.ireturn, 1) := by decide +kernel
theorem dL_counted_17 : decode cL_counted 17 = .ok (.astore 4, 2) := by decide +kernel
theorem dL_counted_19 : decode cL_counted 19 = .ok (.iconst 2, 1) := by decide +kernel
theorem dL_counted_20 : decode cL_counted 20 = .ok (.ireturn, 1) := by decide +kernel
theorem dL_counted_21 : decode cL_counted 21 = .ok (.iconst 0, 1) := by decide +kernel
theorem dL_counted_22 : decode cL_counted 22 = .ok (.ireturn, 1) := by decide +kernel
theorem dL_law_0 : decode cL_law 0 = .ok (.new 8, 3) := by decide +kernel
theorem dL_law_3 : decode cL_law 3 = .ok (.dup, 1) := by decide +kernel
theorem dL_law_4 : decode cL_law 4 = .ok (.invokespecial 81, 3) := by decide +kernel
theorem dL_law_7 : decode cL_law 7 = .ok (.astore_n 1, 1) := by decide +kernel
theorem dL_law_8 : decode cL_law 8 = .ok (.new 82, 3) := by decide +kernel
theorem dL_law_11 : decode cL_law 11 = .ok (.dup, 1) := by decide +kernel
theorem dL_law_12 : decode cL_law 12 = .ok (.invokespecial 84, 3) := by decide +kernel
theorem dL_law_15 : decode cL_law 15 = .ok (.astore_n 2, 1) := by decide +kernel
theorem dL_law_16 : decode cL_law 16 = .ok (.iconst 1, 1) := by decide +kernel
theorem dL_law_17 : decode cL_law 17 = .ok (.newarray .long, 2) := by decide +kernel
theorem dL_law_19 : decode cL_law 19 = .ok (.astore_n 3, 1) := by decide +kernel
theorem dL_law_20 : decode cL_law 20 = .ok (.iconst 0, 1) := by decide +kernel
theorem dL_law_21 : decode cL_law 21 = .ok (.istore 4, 2) := by decide +kernel
theorem dL_law_23 : decode cL_law 23 = .ok (.iload 4, 2) := by decide +kernel
theorem dL_law_25 : decode cL_law 25 = .ok (.aload_n 0, 1) := by decide +kernel
theorem dL_law_26 : decode cL_law 26 = .ok (.arraylength, 1) := by decide +kernel
theorem dL_law_27 : decode cL_law 27 = .ok (.bipush 6, 2) := by decide +kernel
theorem dL_law_29 : decode cL_law 29 = .ok (.isub, 1) := by decide +kernel
theorem dL_law_30 : decode cL_law 30 = .ok (.if_icmp .gt 1438, 3) := by decide +kernel
theorem dL_law_33 : decode cL_law 33 = .ok (.aload_n 0, 1) := by decide +kernel
theorem dL_law_34 : decode cL_law 34 = .ok (.iload 4, 2) := by decide +kernel
theorem dL_law_36 : decode cL_law 36 = .ok (.iaload, 1) := by decide +kernel
theorem dL_law_37 : decode cL_law 37 = .ok (.bipush 31, 2) := by decide +kernel
theorem dL_law_39 : decode cL_law 39 = .ok (.iand, 1) := by decide +kernel
theorem dL_law_40 : decode cL_law 40 = .ok (.tableswitch 1422 0 23 #[112, 170, 214, 227, 271, 284, 340, 408, 421, 489, 557, 613, 681, 749, 817, 901, 957, 1025, 1093, 1161, 1229, 1285, 1298, 1354], 112) := by decide +kernel
theorem dL_law_152 : decode cL_law 152 = .ok (.aload_n 1, 1) := by decide +kernel
theorem dL_law_153 : decode cL_law 153 = .ok (.aload_n 0, 1) := by decide +kernel
theorem dL_law_154 : decode cL_law 154 = .ok (.iload 4, 2) := by decide +kernel
theorem dL_law_156 : decode cL_law 156 = .ok (.iconst 1, 1) := by decide +kernel
theorem dL_law_157 : decode cL_law 157 = .ok (.iadd, 1) := by decide +kernel
theorem dL_law_158 : decode cL_law 158 = .ok (.iaload, 1) := by decide +kernel
theorem dL_law_159 : decode cL_law 159 = .ok (.i2c, 1) := by decide +kernel
theorem dL_law_160 : decode cL_law 160 = .ok (.aload_n 3, 1) := by decide +kernel
theorem dL_law_161 : decode cL_law 161 = .ok (.invokestatic 85, 3) := by decide +kernel
theorem dL_law_164 : decode cL_law 164 = .ok (.istore 5, 2) := by decide +kernel
theorem dL_law_166 : decode cL_law 166 = .ok (.aload_n 2, 1) := by decide +kernel
theorem dL_law_167 : decode cL_law 167 = .ok (.aload_n 0, 1) := by decide +kernel
theorem dL_law_168 : decode cL_law 168 = .ok (.iload 4, 2) := by decide +kernel
theorem dL_law_170 : decode cL_law 170 = .ok (.iconst 1, 1) := by decide +kernel
theorem dL_law_171 : decode cL_law 171 = .ok (.iadd, 1) := by decide +kernel
theorem dL_law_172 : decode cL_law 172 = .ok (.iaload, 1) := by decide +kernel
theorem dL_law_173 : decode cL_law 173 = .ok (.i2c, 1) := by decide +kernel
theorem dL_law_174 : decode cL_law 174 = .ok (.invokevirtual 90, 3) := by decide +kernel
theorem dL_law_177 : decode cL_law 177 = .ok (.istore 6, 2) := by decide +kernel
theorem dL_law_179 : decode cL_law 179 = .ok (.aload_n 2, 1) := by decide +kernel
theorem dL_law_180 : decode cL_law 180 = .ok (.invokevirtual 91, 3) := by decide +kernel
theorem dL_law_183 : decode cL_law 183 = .ok (.iload 5, 2) := by decide +kernel
theorem dL_law_185 : decode cL_law 185 = .ok (.if_icmp .eq 5, 3) := by decide +kernel
theorem dL_law_188 : decode cL_law 188 = .ok (.iconst 0, 1) := by decide +kernel
theorem dL_law_189 : decode cL_law 189 = .ok (.ireturn, 1) := by decide +kernel
theorem dL_law_190 : decode cL_law 190 = .ok (.iload 5, 2) := by decide +kernel
theorem dL_law_192 : decode cL_law 192 = .ok (.ifCond .ne 15, 3) := by decide +kernel
theorem dL_law_195 : decode cL_law 195 = .ok (.aload_n 3, 1) := by decide +kernel
theorem dL_law_196 : decode cL_law 196 = .ok (.iconst 0, 1) := by decide +kernel
theorem dL_law_197 : decode cL_law 197 = .ok (.laload, 1) := by decide +kernel
theorem dL_law_198 : decode cL_law 198 = .ok (.iload 6, 2) := by decide +kernel
theorem dL_law_200 : decode cL_law 200 = .ok (.i2l, 1) := by decide +kernel
theorem dL_law_201 : decode cL_law 201 = .ok (.lcmp, 1) := by decide +kernel
theorem dL_law_202 : decode cL_law 202 = .ok (.ifCond .eq 5, 3) := by decide +kernel
theorem dL_law_205 : decode cL_law 205 = .ok (.iconst 0, 1) := by decide +kernel
theorem dL_law_206 : decode cL_law 206 = .ok (.ireturn, 1) := by decide +kernel
theorem dL_law_207 : decode cL_law 207 = .ok (.goto 1255, 3) := by decide +kernel
theorem dL_law_210 : decode cL_law 210 = .ok (.aload_n 1, 1) := by decide +kernel
theorem dL_law_211 : decode cL_law 211 = .ok (.aload_n 3, 1) := by decide +kernel
theorem dL_law_212 : decode cL_law 212 = .ok (.invokestatic 94, 3) := by decide +kernel
theorem dL_law_215 : decode cL_law 215 = .ok (.istore 5, 2) := by decide +kernel
theorem dL_law_217 : decode cL_law 217 = .ok (.aload_n 2, 1) := by decide +kernel
theorem dL_law_218 : decode cL_law 218 = .ok (.invokevirtual 97, 3) := by decide +kernel
theorem dL_law_221 : decode cL_law 221 = .ok (.istore 6, 2) := by decide +kernel
theorem dL_law_223 : decode cL_law 223 = .ok (.aload_n 2, 1) := by decide +kernel
theorem dL_law_224 : decode cL_law 224 = .ok (.invokevirtual 91, 3) := by decide +kernel
theorem dL_law_227 : decode cL_law 227 = .ok (.iload 5, 2) := by decide +kernel
theorem dL_law_229 : decode cL_law 229 = .ok (.if_icmp .eq 5, 3) := by decide +kernel
theorem dL_law_232 : decode cL_law 232 = .ok (.iconst 0, 1) := by decide +kernel
theorem dL_law_233 : decode cL_law 233 = .ok (.ireturn, 1) := by decide +kernel
theorem dL_law_234 : decode cL_law 234 = .ok (.iload 5, 2) := by decide +kernel
theorem dL_law_236 : decode cL_law 236 = .ok (.ifCond .ne 15, 3) := by decide +kernel
theorem dL_law_239 : decode cL_law 239 = .ok (.aload_n 3, 1) := by decide +kernel
theorem dL_law_240 : decode cL_law 240 = .ok (.iconst 0, 1) := by decide +kernel
theorem dL_law_241 : decode cL_law 241 = .ok (.laload, 1) := by decide +kernel
theorem dL_law_242 : decode cL_law 242 = .ok (.iload 6, 2) := by decide +kernel
theorem dL_law_244 : decode cL_law 244 = .ok (.i2l, 1) := by decide +kernel
theorem dL_law_245 : decode cL_law 245 = .ok (.lcmp, 1) := by decide +kernel
theorem dL_law_246 : decode cL_law 246 = .ok (.ifCond .eq 5, 3) := by decide +kernel
theorem dL_law_249 : decode cL_law 249 = .ok (.iconst 0, 1) := by decide +kernel
theorem dL_law_250 : decode cL_law 250 = .ok (.ireturn, 1) := by decide +kernel
theorem dL_law_251 : decode cL_law 251 = .ok (.goto 1211, 3) := by decide +kernel
theorem dL_law_254 : decode cL_law 254 = .ok (.aload_n 1, 1) := by decide +kernel
theorem dL_law_255 : decode cL_law 255 = .ok (.invokevirtual 98, 3) := by decide +kernel
theorem dL_law_258 : decode cL_law 258 = .ok (.aload_n 2, 1) := by decide +kernel
theorem dL_law_259 : decode cL_law 259 = .ok (.invokevirtual 101, 3) := by decide +kernel
theorem dL_law_262 : decode cL_law 262 = .ok (.if_icmp .eq 1200, 3) := by decide +kernel
theorem dL_law_265 : decode cL_law 265 = .ok (.iconst 0, 1) := by decide +kernel
theorem dL_law_266 : decode cL_law 266 = .ok (.ireturn, 1) := by decide +kernel
theorem dL_law_267 : decode cL_law 267 = .ok (.aload_n 1, 1) := by decide +kernel
theorem dL_law_268 : decode cL_law 268 = .ok (.aload_n 3, 1) := by decide +kernel
theorem dL_law_269 : decode cL_law 269 = .ok (.invokestatic 102, 3) := by decide +kernel
theorem dL_law_272 : decode cL_law 272 = .ok (.istore 5, 2) := by decide +kernel
theorem dL_law_274 : decode cL_law 274 = .ok (.aload_n 2, 1) := by decide +kernel
theorem dL_law_275 : decode cL_law 275 = .ok (.invokevirtual 104, 3) := by decide +kernel
theorem dL_law_278 : decode cL_law 278 = .ok (.istore 6, 2) := by decide +kernel
theorem dL_law_280 : decode cL_law 280 = .ok (.aload_n 2, 1) := by decide +kernel
theorem dL_law_281 : decode cL_law 281 = .ok (.invokevirtual 91, 3) := by decide +kernel
theorem dL_law_284 : decode cL_law 284 = .ok (.iload 5, 2) := by decide +kernel
theorem dL_law_286 : decode cL_law 286 = .ok (.if_icmp .eq 5, 3) := by decide +kernel
theorem dL_law_289 : decode cL_law 289 = .ok (.iconst 0, 1) := by decide +kernel
theorem dL_law_290 : decode cL_law 290 = .ok (.ireturn, 1) := by decide +kernel
theorem dL_law_291 : decode cL_law 291 = .ok (.iload 5, 2) := by decide +kernel
theorem dL_law_293 : decode cL_law 293 = .ok (.ifCond .ne 15, 3) := by decide +kernel
theorem dL_law_296 : decode cL_law 296 = .ok (.aload_n 3, 1) := by decide +kernel
theorem dL_law_297 : decode cL_law 297 = .ok (.iconst 0, 1) := by decide +kernel
theorem dL_law_298 : decode cL_law 298 = .ok (.laload, 1) := by decide +kernel
theorem dL_law_299 : decode cL_law 299 = .ok (.iload 6, 2) := by decide +kernel
theorem dL_law_301 : decode cL_law 301 = .ok (.i2l, 1) := by decide +kernel
theorem dL_law_302 : decode cL_law 302 = .ok (.lcmp, 1) := by decide +kernel
theorem dL_law_303 : decode cL_law 303 = .ok (.ifCond .eq 5, 3) := by decide +kernel
theorem dL_law_306 : decode cL_law 306 = .ok (.iconst 0, 1) := by decide +kernel
theorem dL_law_307 : decode cL_law 307 = .ok (.ireturn, 1) := by decide +kernel
theorem dL_law_308 : decode cL_law 308 = .ok (.goto 1154, 3) := by decide +kernel
theorem dL_law_311 : decode cL_law 311 = .ok (.aload_n 1, 1) := by decide +kernel
theorem dL_law_312 : decode cL_law 312 = .ok (.invokevirtual 105, 3) := by decide +kernel
theorem dL_law_315 : decode cL_law 315 = .ok (.aload_n 2, 1) := by decide +kernel
theorem dL_law_316 : decode cL_law 316 = .ok (.invokevirtual 108, 3) := by decide +kernel
theorem dL_law_319 : decode cL_law 319 = .ok (.if_icmp .eq 1143, 3) := by decide +kernel
theorem dL_law_322 : decode cL_law 322 = .ok (.iconst 0, 1) := by decide +kernel
theorem dL_law_323 : decode cL_law 323 = .ok (.ireturn, 1) := by decide +kernel
theorem dL_law_324 : decode cL_law 324 = .ok (.aload_n 1, 1) := by decide +kernel
theorem dL_law_325 : decode cL_law 325 = .ok (.aload_n 0, 1) := by decide +kernel
theorem dL_law_326 : decode cL_law 326 = .ok (.iload 4, 2) := by decide +kernel
theorem dL_law_328 : decode cL_law 328 = .ok (.iconst 1, 1) := by decide +kernel
theorem dL_law_329 : decode cL_law 329 = .ok (.iadd, 1) := by decide +kernel
theorem dL_law_330 : decode cL_law 330 = .ok (.iaload, 1) := by decide +kernel
theorem dL_law_331 : decode cL_law 331 = .ok (.aload_n 3, 1) := by decide +kernel
theorem dL_law_332 : decode cL_law 332 = .ok (.invokestatic 109, 3) := by decide +kernel
theorem dL_law_335 : decode cL_law 335 = .ok (.istore 5, 2) := by decide +kernel
theorem dL_law_337 : decode cL_law 337 = .ok (.aload_n 2, 1) := by decide +kernel
theorem dL_law_338 : decode cL_law 338 = .ok (.aload_n 0, 1) := by decide +kernel
theorem dL_law_339 : decode cL_law 339 = .ok (.iload 4, 2) := by decide +kernel
theorem dL_law_341 : decode cL_law 341 = .ok (.iconst 1, 1) := by decide +kernel
theorem dL_law_342 : decode cL_law 342 = .ok (.iadd, 1) := by decide +kernel
theorem dL_law_343 : decode cL_law 343 = .ok (.iaload, 1) := by decide +kernel
theorem dL_law_344 : decode cL_law 344 = .ok (.invokevirtual 112, 3) := by decide +kernel
theorem dL_law_347 : decode cL_law 347 = .ok (.istore 6, 2) := by decide +kernel
theorem dL_law_349 : decode cL_law 349 = .ok (.aload_n 2, 1) := by decide +kernel
theorem dL_law_350 : decode cL_law 350 = .ok (.invokevirtual 91, 3) := by decide +kernel
theorem dL_law_353 : decode cL_law 353 = .ok (.iload 5, 2) := by decide +kernel
theorem dL_law_355 : decode cL_law 355 = .ok (.if_icmp .eq 5, 3) := by decide +kernel
theorem dL_law_358 : decode cL_law 358 = .ok (.iconst 0, 1) := by decide +kernel
theorem dL_law_359 : decode cL_law 359 = .ok (.ireturn, 1) := by decide +kernel
theorem dL_law_360 : decode cL_law 360 = .ok (.iload 5, 2) := by decide +kernel
theorem dL_law_362 : decode cL_law 362 = .ok (.ifCond .ne 15, 3) := by decide +kernel
theorem dL_law_365 : decode cL_law 365 = .ok (.aload_n 3, 1) := by decide +kernel
theorem dL_law_366 : decode cL_law 366 = .ok (.iconst 0, 1) := by decide +kernel
theorem dL_law_367 : decode cL_law 367 = .ok (.laload, 1) := by decide +kernel
theorem dL_law_368 : decode cL_law 368 = .ok (.iload 6, 2) := by decide +kernel
theorem dL_law_370 : decode cL_law 370 = .ok (.i2l, 1) := by decide +kernel
theorem dL_law_371 : decode cL_law 371 = .ok (.lcmp, 1) := by decide +kernel
theorem dL_law_372 : decode cL_law 372 = .ok (.ifCond .eq 5, 3) := by decide +kernel
theorem dL_law_375 : decode cL_law 375 = .ok (.iconst 0, 1) := by decide +kernel
theorem dL_law_376 : decode cL_law 376 = .ok (.ireturn, 1) := by decide +kernel
theorem dL_law_377 : decode cL_law 377 = .ok (.goto 1085, 3) := by decide +kernel
theorem dL_law_380 : decode cL_law 380 = .ok (.aload_n 1, 1) := by decide +kernel
theorem dL_law_381 : decode cL_law 381 = .ok (.aload_n 0, 1) := by decide +kernel
theorem dL_law_382 : decode cL_law 382 = .ok (.iload 4, 2) := by decide +kernel
theorem dL_law_384 : decode cL_law 384 = .ok (.iconst 1, 1) := by decide +kernel
theorem dL_law_385 : decode cL_law 385 = .ok (.iadd, 1) := by decide +kernel
theorem dL_law_386 : decode cL_law 386 = .ok (.iaload, 1) := by decide +kernel
theorem dL_law_387 : decode cL_law 387 = .ok (.aload_n 0, 1) := by decide +kernel
theorem dL_law_388 : decode cL_law 388 = .ok (.iload 4, 2) := by decide +kernel
theorem dL_law_390 : decode cL_law 390 = .ok (.iconst 2, 1) := by decide +kernel
theorem dL_law_391 : decode cL_law 391 = .ok (.iadd, 1) := by decide +kernel
theorem dL_law_392 : decode cL_law 392 = .ok (.iaload, 1) := by decide +kernel
theorem dL_law_393 : decode cL_law 393 = .ok (.aload_n 3, 1) := by decide +kernel
theorem dL_law_394 : decode cL_law 394 = .ok (.invokestatic 113, 3) := by decide +kernel
theorem dL_law_397 : decode cL_law 397 = .ok (.istore 5, 2) := by decide +kernel
theorem dL_law_399 : decode cL_law 399 = .ok (.aload_n 2, 1) := by decide +kernel
theorem dL_law_400 : decode cL_law 400 = .ok (.aload_n 0, 1) := by decide +kernel
theorem dL_law_401 : decode cL_law 401 = .ok (.iload 4, 2) := by decide +kernel
theorem dL_law_403 : decode cL_law 403 = .ok (.iconst 1, 1) := by decide +kernel
theorem dL_law_404 : decode cL_law 404 = .ok (.iadd, 1) := by decide +kernel
theorem dL_law_405 : decode cL_law 405 = .ok (.iaload, 1) := by decide +kernel
theorem dL_law_406 : decode cL_law 406 = .ok (.aload_n 0, 1) := by decide +kernel
theorem dL_law_407 : decode cL_law 407 = .ok (.iload 4, 2) := by decide +kernel
theorem dL_law_409 : decode cL_law 409 = .ok (.iconst 2, 1) := by decide +kernel
theorem dL_law_410 : decode cL_law 410 = .ok (.iadd, 1) := by decide +kernel
theorem dL_law_411 : decode cL_law 411 = .ok (.iaload, 1) := by decide +kernel
theorem dL_law_412 : decode cL_law 412 = .ok (.invokevirtual 116, 3) := by decide +kernel
theorem dL_law_415 : decode cL_law 415 = .ok (.istore 6, 2) := by decide +kernel
theorem dL_law_417 : decode cL_law 417 = .ok (.aload_n 2, 1) := by decide +kernel
theorem dL_law_418 : decode cL_law 418 = .ok (.invokevirtual 91, 3) := by decide +kernel
theorem dL_law_421 : decode cL_law 421 = .ok (.iload 5, 2) := by decide +kernel
theorem dL_law_423 : decode cL_law 423 = .ok (.if_icmp .eq 5, 3) := by decide +kernel
theorem dL_law_426 : decode cL_law 426 = .ok (.iconst 0, 1) := by decide +kernel
theorem dL_law_427 : decode cL_law 427 = .ok (.ireturn, 1) := by decide +kernel
theorem dL_law_428 : decode cL_law 428 = .ok (.iload 5, 2) := by decide +kernel
theorem dL_law_430 : decode cL_law 430 = .ok (.ifCond .ne 15, 3) := by decide +kernel
theorem dL_law_433 : decode cL_law 433 = .ok (.aload_n 3, 1) := by decide +kernel
theorem dL_law_434 : decode cL_law 434 = .ok (.iconst 0, 1) := by decide +kernel
theorem dL_law_435 : decode cL_law 435 = .ok (.laload, 1) := by decide +kernel
theorem dL_law_436 : decode cL_law 436 = .ok (.iload 6, 2) := by decide +kernel
theorem dL_law_438 : decode cL_law 438 = .ok (.i2l, 1) := by decide +kernel
theorem dL_law_439 : decode cL_law 439 = .ok (.lcmp, 1) := by decide +kernel
theorem dL_law_440 : decode cL_law 440 = .ok (.ifCond .eq 5, 3) := by decide +kernel
theorem dL_law_443 : decode cL_law 443 = .ok (.iconst 0, 1) := by decide +kernel
theorem dL_law_444 : decode cL_law 444 = .ok (.ireturn, 1) := by decide +kernel
theorem dL_law_445 : decode cL_law 445 = .ok (.goto 1017, 3) := by decide +kernel
theorem dL_law_448 : decode cL_law 448 = .ok (.aload_n 1, 1) := by decide +kernel
theorem dL_law_449 : decode cL_law 449 = .ok (.invokevirtual 117, 3) := by decide +kernel
theorem dL_law_452 : decode cL_law 452 = .ok (.aload_n 2, 1) := by decide +kernel
theorem dL_law_453 : decode cL_law 453 = .ok (.invokevirtual 120, 3) := by decide +kernel
theorem dL_law_456 : decode cL_law 456 = .ok (.if_icmp .eq 1006, 3) := by decide +kernel
theorem dL_law_459 : decode cL_law 459 = .ok (.iconst 0, 1) := by decide +kernel
theorem dL_law_460 : decode cL_law 460 = .ok (.ireturn, 1) := by decide +kernel
theorem dL_law_461 : decode cL_law 461 = .ok (.aload_n 1, 1) := by decide +kernel
theorem dL_law_462 : decode cL_law 462 = .ok (.aload_n 0, 1) := by decide +kernel
theorem dL_law_463 : decode cL_law 463 = .ok (.iload 4, 2) := by decide +kernel
theorem dL_law_465 : decode cL_law 465 = .ok (.iconst 1, 1) := by decide +kernel
theorem dL_law_466 : decode cL_law 466 = .ok (.iadd, 1) := by decide +kernel
theorem dL_law_467 : decode cL_law 467 = .ok (.iaload, 1) := by decide +kernel
theorem dL_law_468 : decode cL_law 468 = .ok (.aload_n 0, 1) := by decide +kernel
theorem dL_law_469 : decode cL_law 469 = .ok (.iload 4, 2) := by decide +kernel
theorem dL_law_471 : decode cL_law 471 = .ok (.iconst 2, 1) := by decide +kernel
theorem dL_law_472 : decode cL_law 472 = .ok (.iadd, 1) := by decide +kernel
theorem dL_law_473 : decode cL_law 473 = .ok (.iaload, 1) := by decide +kernel
theorem dL_law_474 : decode cL_law 474 = .ok (.aload_n 3, 1) := by decide +kernel
theorem dL_law_475 : decode cL_law 475 = .ok (.invokestatic 121, 3) := by decide +kernel
theorem dL_law_478 : decode cL_law 478 = .ok (.istore 5, 2) := by decide +kernel
theorem dL_law_480 : decode cL_law 480 = .ok (.aload_n 2, 1) := by decide +kernel
theorem dL_law_481 : decode cL_law 481 = .ok (.aload_n 0, 1) := by decide +kernel
theorem dL_law_482 : decode cL_law 482 = .ok (.iload 4, 2) := by decide +kernel
theorem dL_law_484 : decode cL_law 484 = .ok (.iconst 1, 1) := by decide +kernel
theorem dL_law_485 : decode cL_law 485 = .ok (.iadd, 1) := by decide +kernel
theorem dL_law_486 : decode cL_law 486 = .ok (.iaload, 1) := by decide +kernel
theorem dL_law_487 : decode cL_law 487 = .ok (.aload_n 0, 1) := by decide +kernel
theorem dL_law_488 : decode cL_law 488 = .ok (.iload 4, 2) := by decide +kernel
theorem dL_law_490 : decode cL_law 490 = .ok (.iconst 2, 1) := by decide +kernel
theorem dL_law_491 : decode cL_law 491 = .ok (.iadd, 1) := by decide +kernel
theorem dL_law_492 : decode cL_law 492 = .ok (.iaload, 1) := by decide +kernel
theorem dL_law_493 : decode cL_law 493 = .ok (.invokevirtual 123, 3) := by decide +kernel
theorem dL_law_496 : decode cL_law 496 = .ok (.istore 6, 2) := by decide +kernel
theorem dL_law_498 : decode cL_law 498 = .ok (.aload_n 2, 1) := by decide +kernel
theorem dL_law_499 : decode cL_law 499 = .ok (.invokevirtual 91, 3) := by decide +kernel
theorem dL_law_502 : decode cL_law 502 = .ok (.iload 5, 2) := by decide +kernel
theorem dL_law_504 : decode cL_law 504 = .ok (.if_icmp .eq 5, 3) := by decide +kernel
theorem dL_law_507 : decode cL_law 507 = .ok (.iconst 0, 1) := by decide +kernel
theorem dL_law_508 : decode cL_law 508 = .ok (.ireturn, 1) := by decide +kernel
theorem dL_law_509 : decode cL_law 509 = .ok (.iload 5, 2) := by decide +kernel
theorem dL_law_511 : decode cL_law 511 = .ok (.ifCond .ne 15, 3) := by decide +kernel
theorem dL_law_514 : decode cL_law 514 = .ok (.aload_n 3, 1) := by decide +kernel
theorem dL_law_515 : decode cL_law 515 = .ok (.iconst 0, 1) := by decide +kernel
theorem dL_law_516 : decode cL_law 516 = .ok (.laload, 1) := by decide +kernel
theorem dL_law_517 : decode cL_law 517 = .ok (.iload 6, 2) := by decide +kernel
theorem dL_law_519 : decode cL_law 519 = .ok (.i2l, 1) := by decide +kernel
theorem dL_law_520 : decode cL_law 520 = .ok (.lcmp, 1) := by decide +kernel
theorem dL_law_521 : decode cL_law 521 = .ok (.ifCond .eq 5, 3) := by decide +kernel
theorem dL_law_524 : decode cL_law 524 = .ok (.iconst 0, 1) := by decide +kernel
theorem dL_law_525 : decode cL_law 525 = .ok (.ireturn, 1) := by decide +kernel
theorem dL_law_526 : decode cL_law 526 = .ok (.goto 936, 3) := by decide +kernel
theorem dL_law_529 : decode cL_law 529 = .ok (.aload_n 1, 1) := by decide +kernel
theorem dL_law_530 : decode cL_law 530 = .ok (.aload_n 0, 1) := by decide +kernel
theorem dL_law_531 : decode cL_law 531 = .ok (.iload 4, 2) := by decide +kernel
theorem dL_law_533 : decode cL_law 533 = .ok (.iconst 1, 1) := by decide +kernel
theorem dL_law_534 : decode cL_law 534 = .ok (.iadd, 1) := by decide +kernel
theorem dL_law_535 : decode cL_law 535 = .ok (.iaload, 1) := by decide +kernel
theorem dL_law_536 : decode cL_law 536 = .ok (.aload_n 0, 1) := by decide +kernel
theorem dL_law_537 : decode cL_law 537 = .ok (.iload 4, 2) := by decide +kernel
theorem dL_law_539 : decode cL_law 539 = .ok (.iconst 2, 1) := by decide +kernel
theorem dL_law_540 : decode cL_law 540 = .ok (.iadd, 1) := by decide +kernel
theorem dL_law_541 : decode cL_law 541 = .ok (.iaload, 1) := by decide +kernel
theorem dL_law_542 : decode cL_law 542 = .ok (.aload_n 3, 1) := by decide +kernel
theorem dL_law_543 : decode cL_law 543 = .ok (.invokestatic 124, 3) := by decide +kernel
theorem dL_law_546 : decode cL_law 546 = .ok (.istore 5, 2) := by decide +kernel
theorem dL_law_548 : decode cL_law 548 = .ok (.aload_n 2, 1) := by decide +kernel
theorem dL_law_549 : decode cL_law 549 = .ok (.aload_n 0, 1) := by decide +kernel
theorem dL_law_550 : decode cL_law 550 = .ok (.iload 4, 2) := by decide +kernel
theorem dL_law_552 : decode cL_law 552 = .ok (.iconst 1, 1) := by decide +kernel
theorem dL_law_553 : decode cL_law 553 = .ok (.iadd, 1) := by decide +kernel
theorem dL_law_554 : decode cL_law 554 = .ok (.iaload, 1) := by decide +kernel
theorem dL_law_555 : decode cL_law 555 = .ok (.aload_n 0, 1) := by decide +kernel
theorem dL_law_556 : decode cL_law 556 = .ok (.iload 4, 2) := by decide +kernel
theorem dL_law_558 : decode cL_law 558 = .ok (.iconst 2, 1) := by decide +kernel
theorem dL_law_559 : decode cL_law 559 = .ok (.iadd, 1) := by decide +kernel
theorem dL_law_560 : decode cL_law 560 = .ok (.iaload, 1) := by decide +kernel
theorem dL_law_561 : decode cL_law 561 = .ok (.invokevirtual 126, 3) := by decide +kernel
theorem dL_law_564 : decode cL_law 564 = .ok (.istore 6, 2) := by decide +kernel
theorem dL_law_566 : decode cL_law 566 = .ok (.aload_n 2, 1) := by decide +kernel
theorem dL_law_567 : decode cL_law 567 = .ok (.invokevirtual 91, 3) := by decide +kernel
theorem dL_law_570 : decode cL_law 570 = .ok (.iload 5, 2) := by decide +kernel
theorem dL_law_572 : decode cL_law 572 = .ok (.if_icmp .eq 5, 3) := by decide +kernel
theorem dL_law_575 : decode cL_law 575 = .ok (.iconst 0, 1) := by decide +kernel
theorem dL_law_576 : decode cL_law 576 = .ok (.ireturn, 1) := by decide +kernel
theorem dL_law_577 : decode cL_law 577 = .ok (.iload 5, 2) := by decide +kernel
theorem dL_law_579 : decode cL_law 579 = .ok (.ifCond .ne 15, 3) := by decide +kernel
theorem dL_law_582 : decode cL_law 582 = .ok (.aload_n 3, 1) := by decide +kernel
theorem dL_law_583 : decode cL_law 583 = .ok (.iconst 0, 1) := by decide +kernel
theorem dL_law_584 : decode cL_law 584 = .ok (.laload, 1) := by decide +kernel
theorem dL_law_585 : decode cL_law 585 = .ok (.iload 6, 2) := by decide +kernel
theorem dL_law_587 : decode cL_law 587 = .ok (.i2l, 1) := by decide +kernel
theorem dL_law_588 : decode cL_law 588 = .ok (.lcmp, 1) := by decide +kernel
theorem dL_law_589 : decode cL_law 589 = .ok (.ifCond .eq 5, 3) := by decide +kernel
theorem dL_law_592 : decode cL_law 592 = .ok (.iconst 0, 1) := by decide +kernel
theorem dL_law_593 : decode cL_law 593 = .ok (.ireturn, 1) := by decide +kernel
theorem dL_law_594 : decode cL_law 594 = .ok (.goto 868, 3) := by decide +kernel
theorem dL_law_597 : decode cL_law 597 = .ok (.aload_n 1, 1) := by decide +kernel
theorem dL_law_598 : decode cL_law 598 = .ok (.aload_n 0, 1) := by decide +kernel
theorem dL_law_599 : decode cL_law 599 = .ok (.iload 4, 2) := by decide +kernel
theorem dL_law_601 : decode cL_law 601 = .ok (.iconst 1, 1) := by decide +kernel
theorem dL_law_602 : decode cL_law 602 = .ok (.iadd, 1) := by decide +kernel
theorem dL_law_603 : decode cL_law 603 = .ok (.iaload, 1) := by decide +kernel
theorem dL_law_604 : decode cL_law 604 = .ok (.aload_n 3, 1) := by decide +kernel
theorem dL_law_605 : decode cL_law 605 = .ok (.invokestatic 127, 3) := by decide +kernel
theorem dL_law_608 : decode cL_law 608 = .ok (.istore 5, 2) := by decide +kernel
theorem dL_law_610 : decode cL_law 610 = .ok (.aload_n 2, 1) := by decide +kernel
theorem dL_law_611 : decode cL_law 611 = .ok (.aload_n 0, 1) := by decide +kernel
theorem dL_law_612 : decode cL_law 612 = .ok (.iload 4, 2) := by decide +kernel
theorem dL_law_614 : decode cL_law 614 = .ok (.iconst 1, 1) := by decide +kernel
theorem dL_law_615 : decode cL_law 615 = .ok (.iadd, 1) := by decide +kernel
theorem dL_law_616 : decode cL_law 616 = .ok (.iaload, 1) := by decide +kernel
theorem dL_law_617 : decode cL_law 617 = .ok (.invokevirtual 129, 3) := by decide +kernel
theorem dL_law_620 : decode cL_law 620 = .ok (.istore 6, 2) := by decide +kernel
theorem dL_law_622 : decode cL_law 622 = .ok (.aload_n 2, 1) := by decide +kernel
theorem dL_law_623 : decode cL_law 623 = .ok (.invokevirtual 91, 3) := by decide +kernel
theorem dL_law_626 : decode cL_law 626 = .ok (.iload 5, 2) := by decide +kernel
theorem dL_law_628 : decode cL_law 628 = .ok (.if_icmp .eq 5, 3) := by decide +kernel
theorem dL_law_631 : decode cL_law 631 = .ok (.iconst 0, 1) := by decide +kernel
theorem dL_law_632 : decode cL_law 632 = .ok (.ireturn, 1) := by decide +kernel
theorem dL_law_633 : decode cL_law 633 = .ok (.iload 5, 2) := by decide +kernel
theorem dL_law_635 : decode cL_law 635 = .ok (.ifCond .ne 15, 3) := by decide +kernel
theorem dL_law_638 : decode cL_law 638 = .ok (.aload_n 3, 1) := by decide +kernel
theorem dL_law_639 : decode cL_law 639 = .ok (.iconst 0, 1) := by decide +kernel
theorem dL_law_640 : decode cL_law 640 = .ok (.laload, 1) := by decide +kernel
theorem dL_law_641 : decode cL_law 641 = .ok (.iload 6, 2) := by decide +kernel
theorem dL_law_643 : decode cL_law 643 = .ok (.i2l, 1) := by decide +kernel
theorem dL_law_644 : decode cL_law 644 = .ok (.lcmp, 1) := by decide +kernel
theorem dL_law_645 : decode cL_law 645 = .ok (.ifCond .eq 5, 3) := by decide +kernel
theorem dL_law_648 : decode cL_law 648 = .ok (.iconst 0, 1) := by decide +kernel
theorem dL_law_649 : decode cL_law 649 = .ok (.ireturn, 1) := by decide +kernel
theorem dL_law_650 : decode cL_law 650 = .ok (.goto 812, 3) := by decide +kernel
theorem dL_law_653 : decode cL_law 653 = .ok (.aload_n 1, 1) := by decide +kernel
theorem dL_law_654 : decode cL_law 654 = .ok (.aload_n 0, 1) := by decide +kernel
theorem dL_law_655 : decode cL_law 655 = .ok (.iload 4, 2) := by decide +kernel
theorem dL_law_657 : decode cL_law 657 = .ok (.iconst 1, 1) := by decide +kernel
theorem dL_law_658 : decode cL_law 658 = .ok (.iadd, 1) := by decide +kernel
theorem dL_law_659 : decode cL_law 659 = .ok (.iaload, 1) := by decide +kernel
theorem dL_law_660 : decode cL_law 660 = .ok (.aload_n 0, 1) := by decide +kernel
theorem dL_law_661 : decode cL_law 661 = .ok (.iload 4, 2) := by decide +kernel
theorem dL_law_663 : decode cL_law 663 = .ok (.iconst 2, 1) := by decide +kernel
theorem dL_law_664 : decode cL_law 664 = .ok (.iadd, 1) := by decide +kernel
theorem dL_law_665 : decode cL_law 665 = .ok (.iaload, 1) := by decide +kernel
theorem dL_law_666 : decode cL_law 666 = .ok (.aload_n 3, 1) := by decide +kernel
theorem dL_law_667 : decode cL_law 667 = .ok (.invokestatic 130, 3) := by decide +kernel
theorem dL_law_670 : decode cL_law 670 = .ok (.istore 5, 2) := by decide +kernel
theorem dL_law_672 : decode cL_law 672 = .ok (.aload_n 2, 1) := by decide +kernel
theorem dL_law_673 : decode cL_law 673 = .ok (.aload_n 0, 1) := by decide +kernel
theorem dL_law_674 : decode cL_law 674 = .ok (.iload 4, 2) := by decide +kernel
theorem dL_law_676 : decode cL_law 676 = .ok (.iconst 1, 1) := by decide +kernel
theorem dL_law_677 : decode cL_law 677 = .ok (.iadd, 1) := by decide +kernel
theorem dL_law_678 : decode cL_law 678 = .ok (.iaload, 1) := by decide +kernel
theorem dL_law_679 : decode cL_law 679 = .ok (.aload_n 0, 1) := by decide +kernel
theorem dL_law_680 : decode cL_law 680 = .ok (.iload 4, 2) := by decide +kernel
theorem dL_law_682 : decode cL_law 682 = .ok (.iconst 2, 1) := by decide +kernel
theorem dL_law_683 : decode cL_law 683 = .ok (.iadd, 1) := by decide +kernel
theorem dL_law_684 : decode cL_law 684 = .ok (.iaload, 1) := by decide +kernel
theorem dL_law_685 : decode cL_law 685 = .ok (.invokevirtual 132, 3) := by decide +kernel
theorem dL_law_688 : decode cL_law 688 = .ok (.istore 6, 2) := by decide +kernel
theorem dL_law_690 : decode cL_law 690 = .ok (.aload_n 2, 1) := by decide +kernel
theorem dL_law_691 : decode cL_law 691 = .ok (.invokevirtual 91, 3) := by decide +kernel
theorem dL_law_694 : decode cL_law 694 = .ok (.iload 5, 2) := by decide +kernel
theorem dL_law_696 : decode cL_law 696 = .ok (.if_icmp .eq 5, 3) := by decide +kernel
theorem dL_law_699 : decode cL_law 699 = .ok (.iconst 0, 1) := by decide +kernel
theorem dL_law_700 : decode cL_law 700 = .ok (.ireturn, 1) := by decide +kernel
theorem dL_law_701 : decode cL_law 701 = .ok (.iload 5, 2) := by decide +kernel
theorem dL_law_703 : decode cL_law 703 = .ok (.ifCond .ne 15, 3) := by decide +kernel
theorem dL_law_706 : decode cL_law 706 = .ok (.aload_n 3, 1) := by decide +kernel
theorem dL_law_707 : decode cL_law 707 = .ok (.iconst 0, 1) := by decide +kernel
theorem dL_law_708 : decode cL_law 708 = .ok (.laload, 1) := by decide +kernel
theorem dL_law_709 : decode cL_law 709 = .ok (.iload 6, 2) := by decide +kernel
theorem dL_law_711 : decode cL_law 711 = .ok (.i2l, 1) := by decide +kernel
theorem dL_law_712 : decode cL_law 712 = .ok (.lcmp, 1) := by decide +kernel
theorem dL_law_713 : decode cL_law 713 = .ok (.ifCond .eq 5, 3) := by decide +kernel
theorem dL_law_716 : decode cL_law 716 = .ok (.iconst 0, 1) := by decide +kernel
theorem dL_law_717 : decode cL_law 717 = .ok (.ireturn, 1) := by decide +kernel
theorem dL_law_718 : decode cL_law 718 = .ok (.goto 744, 3) := by decide +kernel
theorem dL_law_721 : decode cL_law 721 = .ok (.aload_n 1, 1) := by decide +kernel
theorem dL_law_722 : decode cL_law 722 = .ok (.aload_n 0, 1) := by decide +kernel
theorem dL_law_723 : decode cL_law 723 = .ok (.iload 4, 2) := by decide +kernel
theorem dL_law_725 : decode cL_law 725 = .ok (.iconst 1, 1) := by decide +kernel
theorem dL_law_726 : decode cL_law 726 = .ok (.iadd, 1) := by decide +kernel
theorem dL_law_727 : decode cL_law 727 = .ok (.iaload, 1) := by decide +kernel
theorem dL_law_728 : decode cL_law 728 = .ok (.aload_n 0, 1) := by decide +kernel
theorem dL_law_729 : decode cL_law 729 = .ok (.iload 4, 2) := by decide +kernel
theorem dL_law_731 : decode cL_law 731 = .ok (.iconst 2, 1) := by decide +kernel
theorem dL_law_732 : decode cL_law 732 = .ok (.iadd, 1) := by decide +kernel
theorem dL_law_733 : decode cL_law 733 = .ok (.iaload, 1) := by decide +kernel
theorem dL_law_734 : decode cL_law 734 = .ok (.aload_n 3, 1) := by decide +kernel
theorem dL_law_735 : decode cL_law 735 = .ok (.invokestatic 133, 3) := by decide +kernel
theorem dL_law_738 : decode cL_law 738 = .ok (.istore 5, 2) := by decide +kernel
theorem dL_law_740 : decode cL_law 740 = .ok (.aload_n 2, 1) := by decide +kernel
theorem dL_law_741 : decode cL_law 741 = .ok (.aload_n 0, 1) := by decide +kernel
theorem dL_law_742 : decode cL_law 742 = .ok (.iload 4, 2) := by decide +kernel
theorem dL_law_744 : decode cL_law 744 = .ok (.iconst 1, 1) := by decide +kernel
theorem dL_law_745 : decode cL_law 745 = .ok (.iadd, 1) := by decide +kernel
theorem dL_law_746 : decode cL_law 746 = .ok (.iaload, 1) := by decide +kernel
theorem dL_law_747 : decode cL_law 747 = .ok (.aload_n 0, 1) := by decide +kernel
theorem dL_law_748 : decode cL_law 748 = .ok (.iload 4, 2) := by decide +kernel
theorem dL_law_750 : decode cL_law 750 = .ok (.iconst 2, 1) := by decide +kernel
theorem dL_law_751 : decode cL_law 751 = .ok (.iadd, 1) := by decide +kernel
theorem dL_law_752 : decode cL_law 752 = .ok (.iaload, 1) := by decide +kernel
theorem dL_law_753 : decode cL_law 753 = .ok (.invokevirtual 135, 3) := by decide +kernel
theorem dL_law_756 : decode cL_law 756 = .ok (.istore 6, 2) := by decide +kernel
theorem dL_law_758 : decode cL_law 758 = .ok (.aload_n 2, 1) := by decide +kernel
theorem dL_law_759 : decode cL_law 759 = .ok (.invokevirtual 91, 3) := by decide +kernel
theorem dL_law_762 : decode cL_law 762 = .ok (.iload 5, 2) := by decide +kernel
theorem dL_law_764 : decode cL_law 764 = .ok (.if_icmp .eq 5, 3) := by decide +kernel
theorem dL_law_767 : decode cL_law 767 = .ok (.iconst 0, 1) := by decide +kernel
theorem dL_law_768 : decode cL_law 768 = .ok (.ireturn, 1) := by decide +kernel
theorem dL_law_769 : decode cL_law 769 = .ok (.iload 5, 2) := by decide +kernel
theorem dL_law_771 : decode cL_law 771 = .ok (.ifCond .ne 15, 3) := by decide +kernel
theorem dL_law_774 : decode cL_law 774 = .ok (.aload_n 3, 1) := by decide +kernel
theorem dL_law_775 : decode cL_law 775 = .ok (.iconst 0, 1) := by decide +kernel
theorem dL_law_776 : decode cL_law 776 = .ok (.laload, 1) := by decide +kernel
theorem dL_law_777 : decode cL_law 777 = .ok (.iload 6, 2) := by decide +kernel
theorem dL_law_779 : decode cL_law 779 = .ok (.i2l, 1) := by decide +kernel
theorem dL_law_780 : decode cL_law 780 = .ok (.lcmp, 1) := by decide +kernel
theorem dL_law_781 : decode cL_law 781 = .ok (.ifCond .eq 5, 3) := by decide +kernel
theorem dL_law_784 : decode cL_law 784 = .ok (.iconst 0, 1) := by decide +kernel
theorem dL_law_785 : decode cL_law 785 = .ok (.ireturn, 1) := by decide +kernel
theorem dL_law_786 : decode cL_law 786 = .ok (.goto 676, 3) := by decide +kernel
theorem dL_law_789 : decode cL_law 789 = .ok (.aload_n 1, 1) := by decide +kernel
theorem dL_law_790 : decode cL_law 790 = .ok (.aload_n 0, 1) := by decide +kernel
theorem dL_law_791 : decode cL_law 791 = .ok (.iload 4, 2) := by decide +kernel
theorem dL_law_793 : decode cL_law 793 = .ok (.iconst 1, 1) := by decide +kernel
theorem dL_law_794 : decode cL_law 794 = .ok (.iadd, 1) := by decide +kernel
theorem dL_law_795 : decode cL_law 795 = .ok (.iaload, 1) := by decide +kernel
theorem dL_law_796 : decode cL_law 796 = .ok (.aload_n 0, 1) := by decide +kernel
theorem dL_law_797 : decode cL_law 797 = .ok (.iload 4, 2) := by decide +kernel
theorem dL_law_799 : decode cL_law 799 = .ok (.iconst 2, 1) := by decide +kernel
theorem dL_law_800 : decode cL_law 800 = .ok (.iadd, 1) := by decide +kernel
theorem dL_law_801 : decode cL_law 801 = .ok (.iaload, 1) := by decide +kernel
theorem dL_law_802 : decode cL_law 802 = .ok (.aload_n 3, 1) := by decide +kernel
theorem dL_law_803 : decode cL_law 803 = .ok (.invokestatic 136, 3) := by decide +kernel
theorem dL_law_806 : decode cL_law 806 = .ok (.istore 5, 2) := by decide +kernel
theorem dL_law_808 : decode cL_law 808 = .ok (.aload_n 2, 1) := by decide +kernel
theorem dL_law_809 : decode cL_law 809 = .ok (.aload_n 0, 1) := by decide +kernel
theorem dL_law_810 : decode cL_law 810 = .ok (.iload 4, 2) := by decide +kernel
theorem dL_law_812 : decode cL_law 812 = .ok (.iconst 1, 1) := by decide +kernel
theorem dL_law_813 : decode cL_law 813 = .ok (.iadd, 1) := by decide +kernel
theorem dL_law_814 : decode cL_law 814 = .ok (.iaload, 1) := by decide +kernel
theorem dL_law_815 : decode cL_law 815 = .ok (.aload_n 0, 1) := by decide +kernel
theorem dL_law_816 : decode cL_law 816 = .ok (.iload 4, 2) := by decide +kernel
theorem dL_law_818 : decode cL_law 818 = .ok (.iconst 2, 1) := by decide +kernel
theorem dL_law_819 : decode cL_law 819 = .ok (.iadd, 1) := by decide +kernel
theorem dL_law_820 : decode cL_law 820 = .ok (.iaload, 1) := by decide +kernel
theorem dL_law_821 : decode cL_law 821 = .ok (.invokevirtual 138, 3) := by decide +kernel
theorem dL_law_824 : decode cL_law 824 = .ok (.istore 6, 2) := by decide +kernel
theorem dL_law_826 : decode cL_law 826 = .ok (.aload_n 2, 1) := by decide +kernel
theorem dL_law_827 : decode cL_law 827 = .ok (.invokevirtual 91, 3) := by decide +kernel
theorem dL_law_830 : decode cL_law 830 = .ok (.iload 5, 2) := by decide +kernel
theorem dL_law_832 : decode cL_law 832 = .ok (.if_icmp .eq 5, 3) := by decide +kernel
theorem dL_law_835 : decode cL_law 835 = .ok (.iconst 0, 1) := by decide +kernel
theorem dL_law_836 : decode cL_law 836 = .ok (.ireturn, 1) := by decide +kernel
theorem dL_law_837 : decode cL_law 837 = .ok (.iload 5, 2) := by decide +kernel
theorem dL_law_839 : decode cL_law 839 = .ok (.ifCond .ne 15, 3) := by decide +kernel
theorem dL_law_842 : decode cL_law 842 = .ok (.aload_n 3, 1) := by decide +kernel
theorem dL_law_843 : decode cL_law 843 = .ok (.iconst 0, 1) := by decide +kernel
theorem dL_law_844 : decode cL_law 844 = .ok (.laload, 1) := by decide +kernel
theorem dL_law_845 : decode cL_law 845 = .ok (.iload 6, 2) := by decide +kernel
theorem dL_law_847 : decode cL_law 847 = .ok (.i2l, 1) := by decide +kernel
theorem dL_law_848 : decode cL_law 848 = .ok (.lcmp, 1) := by decide +kernel
theorem dL_law_849 : decode cL_law 849 = .ok (.ifCond .eq 5, 3) := by decide +kernel
theorem dL_law_852 : decode cL_law 852 = .ok (.iconst 0, 1) := by decide +kernel
theorem dL_law_853 : decode cL_law 853 = .ok (.ireturn, 1) := by decide +kernel
theorem dL_law_854 : decode cL_law 854 = .ok (.goto 608, 3) := by decide +kernel
theorem dL_law_857 : decode cL_law 857 = .ok (.aload_n 1, 1) := by decide +kernel
theorem dL_law_858 : decode cL_law 858 = .ok (.aload_n 0, 1) := by decide +kernel
theorem dL_law_859 : decode cL_law 859 = .ok (.iload 4, 2) := by decide +kernel
theorem dL_law_861 : decode cL_law 861 = .ok (.iconst 1, 1) := by decide +kernel
theorem dL_law_862 : decode cL_law 862 = .ok (.iadd, 1) := by decide +kernel
theorem dL_law_863 : decode cL_law 863 = .ok (.iaload, 1) := by decide +kernel
theorem dL_law_864 : decode cL_law 864 = .ok (.aload_n 0, 1) := by decide +kernel
theorem dL_law_865 : decode cL_law 865 = .ok (.iload 4, 2) := by decide +kernel
theorem dL_law_867 : decode cL_law 867 = .ok (.iconst 2, 1) := by decide +kernel
theorem dL_law_868 : decode cL_law 868 = .ok (.iadd, 1) := by decide +kernel
theorem dL_law_869 : decode cL_law 869 = .ok (.iaload, 1) := by decide +kernel
theorem dL_law_870 : decode cL_law 870 = .ok (.aload_n 0, 1) := by decide +kernel
theorem dL_law_871 : decode cL_law 871 = .ok (.iload 4, 2) := by decide +kernel
theorem dL_law_873 : decode cL_law 873 = .ok (.iconst 3, 1) := by decide +kernel
theorem dL_law_874 : decode cL_law 874 = .ok (.iadd, 1) := by decide +kernel
theorem dL_law_875 : decode cL_law 875 = .ok (.iaload, 1) := by decide +kernel
theorem dL_law_876 : decode cL_law 876 = .ok (.aload_n 0, 1) := by decide +kernel
theorem dL_law_877 : decode cL_law 877 = .ok (.iload 4, 2) := by decide +kernel
theorem dL_law_879 : decode cL_law 879 = .ok (.iconst 4, 1) := by decide +kernel
theorem dL_law_880 : decode cL_law 880 = .ok (.iadd, 1) := by decide +kernel
theorem dL_law_881 : decode cL_law 881 = .ok (.iaload, 1) := by decide +kernel
theorem dL_law_882 : decode cL_law 882 = .ok (.aload_n 0, 1) := by decide +kernel
theorem dL_law_883 : decode cL_law 883 = .ok (.iload 4, 2) := by decide +kernel
theorem dL_law_885 : decode cL_law 885 = .ok (.iconst 5, 1) := by decide +kernel
theorem dL_law_886 : decode cL_law 886 = .ok (.iadd, 1) := by decide +kernel
theorem dL_law_887 : decode cL_law 887 = .ok (.iaload, 1) := by decide +kernel
theorem dL_law_888 : decode cL_law 888 = .ok (.invokestatic 139, 3) := by decide +kernel
theorem dL_law_891 : decode cL_law 891 = .ok (.istore 5, 2) := by decide +kernel
theorem dL_law_893 : decode cL_law 893 = .ok (.aload_n 2, 1) := by decide +kernel
theorem dL_law_894 : decode cL_law 894 = .ok (.aload_n 0, 1) := by decide +kernel
theorem dL_law_895 : decode cL_law 895 = .ok (.iload 4, 2) := by decide +kernel
theorem dL_law_897 : decode cL_law 897 = .ok (.iconst 1, 1) := by decide +kernel
theorem dL_law_898 : decode cL_law 898 = .ok (.iadd, 1) := by decide +kernel
theorem dL_law_899 : decode cL_law 899 = .ok (.iaload, 1) := by decide +kernel
theorem dL_law_900 : decode cL_law 900 = .ok (.aload_n 0, 1) := by decide +kernel
theorem dL_law_901 : decode cL_law 901 = .ok (.iload 4, 2) := by decide +kernel
theorem dL_law_903 : decode cL_law 903 = .ok (.iconst 2, 1) := by decide +kernel
theorem dL_law_904 : decode cL_law 904 = .ok (.iadd, 1) := by decide +kernel
theorem dL_law_905 : decode cL_law 905 = .ok (.iaload, 1) := by decide +kernel
theorem dL_law_906 : decode cL_law 906 = .ok (.aload_n 0, 1) := by decide +kernel
theorem dL_law_907 : decode cL_law 907 = .ok (.iload 4, 2) := by decide +kernel
theorem dL_law_909 : decode cL_law 909 = .ok (.iconst 3, 1) := by decide +kernel
theorem dL_law_910 : decode cL_law 910 = .ok (.iadd, 1) := by decide +kernel
theorem dL_law_911 : decode cL_law 911 = .ok (.iaload, 1) := by decide +kernel
theorem dL_law_912 : decode cL_law 912 = .ok (.aload_n 0, 1) := by decide +kernel
theorem dL_law_913 : decode cL_law 913 = .ok (.iload 4, 2) := by decide +kernel
theorem dL_law_915 : decode cL_law 915 = .ok (.iconst 4, 1) := by decide +kernel
theorem dL_law_916 : decode cL_law 916 = .ok (.iadd, 1) := by decide +kernel
theorem dL_law_917 : decode cL_law 917 = .ok (.iaload, 1) := by decide +kernel
theorem dL_law_918 : decode cL_law 918 = .ok (.aload_n 0, 1) := by decide +kernel
theorem dL_law_919 : decode cL_law 919 = .ok (.iload 4, 2) := by decide +kernel
theorem dL_law_921 : decode cL_law 921 = .ok (.iconst 5, 1) := by decide +kernel
theorem dL_law_922 : decode cL_law 922 = .ok (.iadd, 1) := by decide +kernel
theorem dL_law_923 : decode cL_law 923 = .ok (.iaload, 1) := by decide +kernel
theorem dL_law_924 : decode cL_law 924 = .ok (.invokevirtual 142, 3) := by decide +kernel
theorem dL_law_927 : decode cL_law 927 = .ok (.aload_n 2, 1) := by decide +kernel
theorem dL_law_928 : decode cL_law 928 = .ok (.invokevirtual 91, 3) := by decide +kernel
theorem dL_law_931 : decode cL_law 931 = .ok (.iload 5, 2) := by decide +kernel
theorem dL_law_933 : decode cL_law 933 = .ok (.if_icmp .eq 5, 3) := by decide +kernel
theorem dL_law_936 : decode cL_law 936 = .ok (.iconst 0, 1) := by decide +kernel
theorem dL_law_937 : decode cL_law 937 = .ok (.ireturn, 1) := by decide +kernel
theorem dL_law_938 : decode cL_law 938 = .ok (.goto 524, 3) := by decide +kernel
theorem dL_law_941 : decode cL_law 941 = .ok (.aload_n 1, 1) := by decide +kernel
theorem dL_law_942 : decode cL_law 942 = .ok (.aload_n 0, 1) := by decide +kernel
theorem dL_law_943 : decode cL_law 943 = .ok (.iload 4, 2) := by decide +kernel
theorem dL_law_945 : decode cL_law 945 = .ok (.iconst 1, 1) := by decide +kernel
theorem dL_law_946 : decode cL_law 946 = .ok (.iadd, 1) := by decide +kernel
theorem dL_law_947 : decode cL_law 947 = .ok (.iaload, 1) := by decide +kernel
theorem dL_law_948 : decode cL_law 948 = .ok (.aload_n 3, 1) := by decide +kernel
theorem dL_law_949 : decode cL_law 949 = .ok (.invokestatic 143, 3) := by decide +kernel
theorem dL_law_952 : decode cL_law 952 = .ok (.istore 5, 2) := by decide +kernel
theorem dL_law_954 : decode cL_law 954 = .ok (.aload_n 2, 1) := by decide +kernel
theorem dL_law_955 : decode cL_law 955 = .ok (.aload_n 0, 1) := by decide +kernel
theorem dL_law_956 : decode cL_law 956 = .ok (.iload 4, 2) := by decide +kernel
theorem dL_law_958 : decode cL_law 958 = .ok (.iconst 1, 1) := by decide +kernel
theorem dL_law_959 : decode cL_law 959 = .ok (.iadd, 1) := by decide +kernel
theorem dL_law_960 : decode cL_law 960 = .ok (.iaload, 1) := by decide +kernel
theorem dL_law_961 : decode cL_law 961 = .ok (.invokevirtual 145, 3) := by decide +kernel
theorem dL_law_964 : decode cL_law 964 = .ok (.istore 6, 2) := by decide +kernel
theorem dL_law_966 : decode cL_law 966 = .ok (.aload_n 2, 1) := by decide +kernel
theorem dL_law_967 : decode cL_law 967 = .ok (.invokevirtual 91, 3) := by decide +kernel
theorem dL_law_970 : decode cL_law 970 = .ok (.iload 5, 2) := by decide +kernel
theorem dL_law_972 : decode cL_law 972 = .ok (.if_icmp .eq 5, 3) := by decide +kernel
theorem dL_law_975 : decode cL_law 975 = .ok (.iconst 0, 1) := by decide +kernel
theorem dL_law_976 : decode cL_law 976 = .ok (.ireturn, 1) := by decide +kernel
theorem dL_law_977 : decode cL_law 977 = .ok (.iload 5, 2) := by decide +kernel
theorem dL_law_979 : decode cL_law 979 = .ok (.ifCond .ne 15, 3) := by decide +kernel
theorem dL_law_982 : decode cL_law 982 = .ok (.aload_n 3, 1) := by decide +kernel
theorem dL_law_983 : decode cL_law 983 = .ok (.iconst 0, 1) := by decide +kernel
theorem dL_law_984 : decode cL_law 984 = .ok (.laload, 1) := by decide +kernel
theorem dL_law_985 : decode cL_law 985 = .ok (.iload 6, 2) := by decide +kernel
theorem dL_law_987 : decode cL_law 987 = .ok (.i2l, 1) := by decide +kernel
theorem dL_law_988 : decode cL_law 988 = .ok (.lcmp, 1) := by decide +kernel
theorem dL_law_989 : decode cL_law 989 = .ok (.ifCond .eq 5, 3) := by decide +kernel
theorem dL_law_992 : decode cL_law 992 = .ok (.iconst 0, 1) := by decide +kernel
theorem dL_law_993 : decode cL_law 993 = .ok (.ireturn, 1) := by decide +kernel
theorem dL_law_994 : decode cL_law 994 = .ok (.goto 468, 3) := by decide +kernel
theorem dL_law_997 : decode cL_law 997 = .ok (.aload_n 1, 1) := by decide +kernel
theorem dL_law_998 : decode cL_law 998 = .ok (.aload_n 0, 1) := by decide +kernel
theorem dL_law_999 : decode cL_law 999 = .ok (.iload 4, 2) := by decide +kernel
theorem dL_law_1001 : decode cL_law 1001 = .ok (.iconst 1, 1) := by decide +kernel
theorem dL_law_1002 : decode cL_law 1002 = .ok (.iadd, 1) := by decide +kernel
theorem dL_law_1003 : decode cL_law 1003 = .ok (.iaload, 1) := by decide +kernel
theorem dL_law_1004 : decode cL_law 1004 = .ok (.aload_n 0, 1) := by decide +kernel
theorem dL_law_1005 : decode cL_law 1005 = .ok (.iload 4, 2) := by decide +kernel
theorem dL_law_1007 : decode cL_law 1007 = .ok (.iconst 2, 1) := by decide +kernel
theorem dL_law_1008 : decode cL_law 1008 = .ok (.iadd, 1) := by decide +kernel
theorem dL_law_1009 : decode cL_law 1009 = .ok (.iaload, 1) := by decide +kernel
theorem dL_law_1010 : decode cL_law 1010 = .ok (.aload_n 3, 1) := by decide +kernel
theorem dL_law_1011 : decode cL_law 1011 = .ok (.invokestatic 146, 3) := by decide +kernel
theorem dL_law_1014 : decode cL_law 1014 = .ok (.istore 5, 2) := by decide +kernel
theorem dL_law_1016 : decode cL_law 1016 = .ok (.aload_n 2, 1) := by decide +kernel
theorem dL_law_1017 : decode cL_law 1017 = .ok (.aload_n 0, 1) := by decide +kernel
theorem dL_law_1018 : decode cL_law 1018 = .ok (.iload 4, 2) := by decide +kernel
theorem dL_law_1020 : decode cL_law 1020 = .ok (.iconst 1, 1) := by decide +kernel
theorem dL_law_1021 : decode cL_law 1021 = .ok (.iadd, 1) := by decide +kernel
theorem dL_law_1022 : decode cL_law 1022 = .ok (.iaload, 1) := by decide +kernel
theorem dL_law_1023 : decode cL_law 1023 = .ok (.aload_n 0, 1) := by decide +kernel
theorem dL_law_1024 : decode cL_law 1024 = .ok (.iload 4, 2) := by decide +kernel
theorem dL_law_1026 : decode cL_law 1026 = .ok (.iconst 2, 1) := by decide +kernel
theorem dL_law_1027 : decode cL_law 1027 = .ok (.iadd, 1) := by decide +kernel
theorem dL_law_1028 : decode cL_law 1028 = .ok (.iaload, 1) := by decide +kernel
theorem dL_law_1029 : decode cL_law 1029 = .ok (.invokevirtual 148, 3) := by decide +kernel
theorem dL_law_1032 : decode cL_law 1032 = .ok (.istore 6, 2) := by decide +kernel
theorem dL_law_1034 : decode cL_law 1034 = .ok (.aload_n 2, 1) := by decide +kernel
theorem dL_law_1035 : decode cL_law 1035 = .ok (.invokevirtual 91, 3) := by decide +kernel
theorem dL_law_1038 : decode cL_law 1038 = .ok (.iload 5, 2) := by decide +kernel
theorem dL_law_1040 : decode cL_law 1040 = .ok (.if_icmp .eq 5, 3) := by decide +kernel
theorem dL_law_1043 : decode cL_law 1043 = .ok (.iconst 0, 1) := by decide +kernel
theorem dL_law_1044 : decode cL_law 1044 = .ok (.ireturn, 1) := by decide +kernel
theorem dL_law_1045 : decode cL_law 1045 = .ok (.iload 5, 2) := by decide +kernel
theorem dL_law_1047 : decode cL_law 1047 = .ok (.ifCond .ne 15, 3) := by decide +kernel
theorem dL_law_1050 : decode cL_law 1050 = .ok (.aload_n 3, 1) := by decide +kernel
theorem dL_law_1051 : decode cL_law 1051 = .ok (.iconst 0, 1) := by decide +kernel
theorem dL_law_1052 : decode cL_law 1052 = .ok (.laload, 1) := by decide +kernel
theorem dL_law_1053 : decode cL_law 1053 = .ok (.iload 6, 2) := by decide +kernel
theorem dL_law_1055 : decode cL_law 1055 = .ok (.i2l, 1) := by decide +kernel
theorem dL_law_1056 : decode cL_law 1056 = .ok (.lcmp, 1) := by decide +kernel
theorem dL_law_1057 : decode cL_law 1057 = .ok (.ifCond .eq 5, 3) := by decide +kernel
theorem dL_law_1060 : decode cL_law 1060 = .ok (.iconst 0, 1) := by decide +kernel
theorem dL_law_1061 : decode cL_law 1061 = .ok (.ireturn, 1) := by decide +kernel
theorem dL_law_1062 : decode cL_law 1062 = .ok (.goto 400, 3) := by decide +kernel
theorem dL_law_1065 : decode cL_law 1065 = .ok (.aload_n 1, 1) := by decide +kernel
theorem dL_law_1066 : decode cL_law 1066 = .ok (.aload_n 0, 1) := by decide +kernel
theorem dL_law_1067 : decode cL_law 1067 = .ok (.iload 4, 2) := by decide +kernel
theorem dL_law_1069 : decode cL_law 1069 = .ok (.iconst 1, 1) := by decide +kernel
theorem dL_law_1070 : decode cL_law 1070 = .ok (.iadd, 1) := by decide +kernel
theorem dL_law_1071 : decode cL_law 1071 = .ok (.iaload, 1) := by decide +kernel
theorem dL_law_1072 : decode cL_law 1072 = .ok (.aload_n 0, 1) := by decide +kernel
theorem dL_law_1073 : decode cL_law 1073 = .ok (.iload 4, 2) := by decide +kernel
theorem dL_law_1075 : decode cL_law 1075 = .ok (.iconst 2, 1) := by decide +kernel
theorem dL_law_1076 : decode cL_law 1076 = .ok (.iadd, 1) := by decide +kernel
theorem dL_law_1077 : decode cL_law 1077 = .ok (.iaload, 1) := by decide +kernel
theorem dL_law_1078 : decode cL_law 1078 = .ok (.aload_n 3, 1) := by decide +kernel
theorem dL_law_1079 : decode cL_law 1079 = .ok (.invokestatic 149, 3) := by decide +kernel
theorem dL_law_1082 : decode cL_law 1082 = .ok (.istore 5, 2) := by decide +kernel
theorem dL_law_1084 : decode cL_law 1084 = .ok (.aload_n 2, 1) := by decide +kernel
theorem dL_law_1085 : decode cL_law 1085 = .ok (.aload_n 0, 1) := by decide +kernel
theorem dL_law_1086 : decode cL_law 1086 = .ok (.iload 4, 2) := by decide +kernel
theorem dL_law_1088 : decode cL_law 1088 = .ok (.iconst 1, 1) := by decide +kernel
theorem dL_law_1089 : decode cL_law 1089 = .ok (.iadd, 1) := by decide +kernel
theorem dL_law_1090 : decode cL_law 1090 = .ok (.iaload, 1) := by decide +kernel
theorem dL_law_1091 : decode cL_law 1091 = .ok (.aload_n 0, 1) := by decide +kernel
theorem dL_law_1092 : decode cL_law 1092 = .ok (.iload 4, 2) := by decide +kernel
theorem dL_law_1094 : decode cL_law 1094 = .ok (.iconst 2, 1) := by decide +kernel
theorem dL_law_1095 : decode cL_law 1095 = .ok (.iadd, 1) := by decide +kernel
theorem dL_law_1096 : decode cL_law 1096 = .ok (.iaload, 1) := by decide +kernel
theorem dL_law_1097 : decode cL_law 1097 = .ok (.invokevirtual 151, 3) := by decide +kernel
theorem dL_law_1100 : decode cL_law 1100 = .ok (.istore 6, 2) := by decide +kernel
theorem dL_law_1102 : decode cL_law 1102 = .ok (.aload_n 2, 1) := by decide +kernel
theorem dL_law_1103 : decode cL_law 1103 = .ok (.invokevirtual 91, 3) := by decide +kernel
theorem dL_law_1106 : decode cL_law 1106 = .ok (.iload 5, 2) := by decide +kernel
theorem dL_law_1108 : decode cL_law 1108 = .ok (.if_icmp .eq 5, 3) := by decide +kernel
theorem dL_law_1111 : decode cL_law 1111 = .ok (.iconst 0, 1) := by decide +kernel
theorem dL_law_1112 : decode cL_law 1112 = .ok (.ireturn, 1) := by decide +kernel
theorem dL_law_1113 : decode cL_law 1113 = .ok (.iload 5, 2) := by decide +kernel
theorem dL_law_1115 : decode cL_law 1115 = .ok (.ifCond .ne 15, 3) := by decide +kernel
theorem dL_law_1118 : decode cL_law 1118 = .ok (.aload_n 3, 1) := by decide +kernel
theorem dL_law_1119 : decode cL_law 1119 = .ok (.iconst 0, 1) := by decide +kernel
theorem dL_law_1120 : decode cL_law 1120 = .ok (.laload, 1) := by decide +kernel
theorem dL_law_1121 : decode cL_law 1121 = .ok (.iload 6, 2) := by decide +kernel
theorem dL_law_1123 : decode cL_law 1123 = .ok (.i2l, 1) := by decide +kernel
theorem dL_law_1124 : decode cL_law 1124 = .ok (.lcmp, 1) := by decide +kernel
theorem dL_law_1125 : decode cL_law 1125 = .ok (.ifCond .eq 5, 3) := by decide +kernel
theorem dL_law_1128 : decode cL_law 1128 = .ok (.iconst 0, 1) := by decide +kernel
theorem dL_law_1129 : decode cL_law 1129 = .ok (.ireturn, 1) := by decide +kernel
theorem dL_law_1130 : decode cL_law 1130 = .ok (.goto 332, 3) := by decide +kernel
theorem dL_law_1133 : decode cL_law 1133 = .ok (.aload_n 1, 1) := by decide +kernel
theorem dL_law_1134 : decode cL_law 1134 = .ok (.aload_n 0, 1) := by decide +kernel
theorem dL_law_1135 : decode cL_law 1135 = .ok (.iload 4, 2) := by decide +kernel
theorem dL_law_1137 : decode cL_law 1137 = .ok (.iconst 1, 1) := by decide +kernel
theorem dL_law_1138 : decode cL_law 1138 = .ok (.iadd, 1) := by decide +kernel
theorem dL_law_1139 : decode cL_law 1139 = .ok (.iaload, 1) := by decide +kernel
theorem dL_law_1140 : decode cL_law 1140 = .ok (.aload_n 0, 1) := by decide +kernel
theorem dL_law_1141 : decode cL_law 1141 = .ok (.iload 4, 2) := by decide +kernel
theorem dL_law_1143 : decode cL_law 1143 = .ok (.iconst 2, 1) := by decide +kernel
theorem dL_law_1144 : decode cL_law 1144 = .ok (.iadd, 1) := by decide +kernel
theorem dL_law_1145 : decode cL_law 1145 = .ok (.iaload, 1) := by decide +kernel
theorem dL_law_1146 : decode cL_law 1146 = .ok (.aload_n 3, 1) := by decide +kernel
theorem dL_law_1147 : decode cL_law 1147 = .ok (.invokestatic 152, 3) := by decide +kernel
theorem dL_law_1150 : decode cL_law 1150 = .ok (.istore 5, 2) := by decide +kernel
theorem dL_law_1152 : decode cL_law 1152 = .ok (.aload_n 2, 1) := by decide +kernel
theorem dL_law_1153 : decode cL_law 1153 = .ok (.aload_n 0, 1) := by decide +kernel
theorem dL_law_1154 : decode cL_law 1154 = .ok (.iload 4, 2) := by decide +kernel
theorem dL_law_1156 : decode cL_law 1156 = .ok (.iconst 1, 1) := by decide +kernel
theorem dL_law_1157 : decode cL_law 1157 = .ok (.iadd, 1) := by decide +kernel
theorem dL_law_1158 : decode cL_law 1158 = .ok (.iaload, 1) := by decide +kernel
theorem dL_law_1159 : decode cL_law 1159 = .ok (.aload_n 0, 1) := by decide +kernel
theorem dL_law_1160 : decode cL_law 1160 = .ok (.iload 4, 2) := by decide +kernel
theorem dL_law_1162 : decode cL_law 1162 = .ok (.iconst 2, 1) := by decide +kernel
theorem dL_law_1163 : decode cL_law 1163 = .ok (.iadd, 1) := by decide +kernel
theorem dL_law_1164 : decode cL_law 1164 = .ok (.iaload, 1) := by decide +kernel
theorem dL_law_1165 : decode cL_law 1165 = .ok (.invokevirtual 154, 3) := by decide +kernel
theorem dL_law_1168 : decode cL_law 1168 = .ok (.istore 6, 2) := by decide +kernel
theorem dL_law_1170 : decode cL_law 1170 = .ok (.aload_n 2, 1) := by decide +kernel
theorem dL_law_1171 : decode cL_law 1171 = .ok (.invokevirtual 91, 3) := by decide +kernel
theorem dL_law_1174 : decode cL_law 1174 = .ok (.iload 5, 2) := by decide +kernel
theorem dL_law_1176 : decode cL_law 1176 = .ok (.if_icmp .eq 5, 3) := by decide +kernel
theorem dL_law_1179 : decode cL_law 1179 = .ok (.iconst 0, 1) := by decide +kernel
theorem dL_law_1180 : decode cL_law 1180 = .ok (.ireturn, 1) := by decide +kernel
theorem dL_law_1181 : decode cL_law 1181 = .ok (.iload 5, 2) := by decide +kernel
theorem dL_law_1183 : decode cL_law 1183 = .ok (.ifCond .ne 15, 3) := by decide +kernel
theorem dL_law_1186 : decode cL_law 1186 = .ok (.aload_n 3, 1) := by decide +kernel
theorem dL_law_1187 : decode cL_law 1187 = .ok (.iconst 0, 1) := by decide +kernel
theorem dL_law_1188 : decode cL_law 1188 = .ok (.laload, 1) := by decide +kernel
theorem dL_law_1189 : decode cL_law 1189 = .ok (.iload 6, 2) := by decide +kernel
theorem dL_law_1191 : decode cL_law 1191 = .ok (.i2l, 1) := by decide +kernel
theorem dL_law_1192 : decode cL_law 1192 = .ok (.lcmp, 1) := by decide +kernel
theorem dL_law_1193 : decode cL_law 1193 = .ok (.ifCond .eq 5, 3) := by decide +kernel
theorem dL_law_1196 : decode cL_law 1196 = .ok (.iconst 0, 1) := by decide +kernel
theorem dL_law_1197 : decode cL_law 1197 = .ok (.ireturn, 1) := by decide +kernel
theorem dL_law_1198 : decode cL_law 1198 = .ok (.goto 264, 3) := by decide +kernel
theorem dL_law_1201 : decode cL_law 1201 = .ok (.aload_n 1, 1) := by decide +kernel
theorem dL_law_1202 : decode cL_law 1202 = .ok (.aload_n 0, 1) := by decide +kernel
theorem dL_law_1203 : decode cL_law 1203 = .ok (.iload 4, 2) := by decide +kernel
theorem dL_law_1205 : decode cL_law 1205 = .ok (.iconst 1, 1) := by decide +kernel
theorem dL_law_1206 : decode cL_law 1206 = .ok (.iadd, 1) := by decide +kernel
theorem dL_law_1207 : decode cL_law 1207 = .ok (.iaload, 1) := by decide +kernel
theorem dL_law_1208 : decode cL_law 1208 = .ok (.aload_n 0, 1) := by decide +kernel
theorem dL_law_1209 : decode cL_law 1209 = .ok (.iload 4, 2) := by decide +kernel
theorem dL_law_1211 : decode cL_law 1211 = .ok (.iconst 2, 1) := by decide +kernel
theorem dL_law_1212 : decode cL_law 1212 = .ok (.iadd, 1) := by decide +kernel
theorem dL_law_1213 : decode cL_law 1213 = .ok (.iaload, 1) := by decide +kernel
theorem dL_law_1214 : decode cL_law 1214 = .ok (.aload_n 3, 1) := by decide +kernel
theorem dL_law_1215 : decode cL_law 1215 = .ok (.invokestatic 155, 3) := by decide +kernel
theorem dL_law_1218 : decode cL_law 1218 = .ok (.istore 5, 2) := by decide +kernel
theorem dL_law_1220 : decode cL_law 1220 = .ok (.aload_n 2, 1) := by decide +kernel
theorem dL_law_1221 : decode cL_law 1221 = .ok (.aload_n 0, 1) := by decide +kernel
theorem dL_law_1222 : decode cL_law 1222 = .ok (.iload 4, 2) := by decide +kernel
theorem dL_law_1224 : decode cL_law 1224 = .ok (.iconst 1, 1) := by decide +kernel
theorem dL_law_1225 : decode cL_law 1225 = .ok (.iadd, 1) := by decide +kernel
theorem dL_law_1226 : decode cL_law 1226 = .ok (.iaload, 1) := by decide +kernel
theorem dL_law_1227 : decode cL_law 1227 = .ok (.aload_n 0, 1) := by decide +kernel
theorem dL_law_1228 : decode cL_law 1228 = .ok (.iload 4, 2) := by decide +kernel
theorem dL_law_1230 : decode cL_law 1230 = .ok (.iconst 2, 1) := by decide +kernel
theorem dL_law_1231 : decode cL_law 1231 = .ok (.iadd, 1) := by decide +kernel
theorem dL_law_1232 : decode cL_law 1232 = .ok (.iaload, 1) := by decide +kernel
theorem dL_law_1233 : decode cL_law 1233 = .ok (.invokevirtual 157, 3) := by decide +kernel
theorem dL_law_1236 : decode cL_law 1236 = .ok (.istore 6, 2) := by decide +kernel
theorem dL_law_1238 : decode cL_law 1238 = .ok (.aload_n 2, 1) := by decide +kernel
theorem dL_law_1239 : decode cL_law 1239 = .ok (.invokevirtual 91, 3) := by decide +kernel
theorem dL_law_1242 : decode cL_law 1242 = .ok (.iload 5, 2) := by decide +kernel
theorem dL_law_1244 : decode cL_law 1244 = .ok (.if_icmp .eq 5, 3) := by decide +kernel
theorem dL_law_1247 : decode cL_law 1247 = .ok (.iconst 0, 1) := by decide +kernel
theorem dL_law_1248 : decode cL_law 1248 = .ok (.ireturn, 1) := by decide +kernel
theorem dL_law_1249 : decode cL_law 1249 = .ok (.iload 5, 2) := by decide +kernel
theorem dL_law_1251 : decode cL_law 1251 = .ok (.ifCond .ne 15, 3) := by decide +kernel
theorem dL_law_1254 : decode cL_law 1254 = .ok (.aload_n 3, 1) := by decide +kernel
theorem dL_law_1255 : decode cL_law 1255 = .ok (.iconst 0, 1) := by decide +kernel
theorem dL_law_1256 : decode cL_law 1256 = .ok (.laload, 1) := by decide +kernel
theorem dL_law_1257 : decode cL_law 1257 = .ok (.iload 6, 2) := by decide +kernel
theorem dL_law_1259 : decode cL_law 1259 = .ok (.i2l, 1) := by decide +kernel
theorem dL_law_1260 : decode cL_law 1260 = .ok (.lcmp, 1) := by decide +kernel
theorem dL_law_1261 : decode cL_law 1261 = .ok (.ifCond .eq 5, 3) := by decide +kernel
theorem dL_law_1264 : decode cL_law 1264 = .ok (.iconst 0, 1) := by decide +kernel
theorem dL_law_1265 : decode cL_law 1265 = .ok (.ireturn, 1) := by decide +kernel
theorem dL_law_1266 : decode cL_law 1266 = .ok (.goto 196, 3) := by decide +kernel
theorem dL_law_1269 : decode cL_law 1269 = .ok (.aload_n 1, 1) := by decide +kernel
theorem dL_law_1270 : decode cL_law 1270 = .ok (.aload_n 0, 1) := by decide +kernel
theorem dL_law_1271 : decode cL_law 1271 = .ok (.iload 4, 2) := by decide +kernel
theorem dL_law_1273 : decode cL_law 1273 = .ok (.iconst 1, 1) := by decide +kernel
theorem dL_law_1274 : decode cL_law 1274 = .ok (.iadd, 1) := by decide +kernel
theorem dL_law_1275 : decode cL_law 1275 = .ok (.iaload, 1) := by decide +kernel
theorem dL_law_1276 : decode cL_law 1276 = .ok (.aload_n 3, 1) := by decide +kernel
theorem dL_law_1277 : decode cL_law 1277 = .ok (.invokestatic 158, 3) := by decide +kernel
theorem dL_law_1280 : decode cL_law 1280 = .ok (.istore 5, 2) := by decide +kernel
theorem dL_law_1282 : decode cL_law 1282 = .ok (.aload_n 2, 1) := by decide +kernel
theorem dL_law_1283 : decode cL_law 1283 = .ok (.aload_n 0, 1) := by decide +kernel
theorem dL_law_1284 : decode cL_law 1284 = .ok (.iload 4, 2) := by decide +kernel
theorem dL_law_1286 : decode cL_law 1286 = .ok (.iconst 1, 1) := by decide +kernel
theorem dL_law_1287 : decode cL_law 1287 = .ok (.iadd, 1) := by decide +kernel
theorem dL_law_1288 : decode cL_law 1288 = .ok (.iaload, 1) := by decide +kernel
theorem dL_law_1289 : decode cL_law 1289 = .ok (.invokevirtual 160, 3) := by decide +kernel
theorem dL_law_1292 : decode cL_law 1292 = .ok (.istore 6, 2) := by decide +kernel
theorem dL_law_1294 : decode cL_law 1294 = .ok (.aload_n 2, 1) := by decide +kernel
theorem dL_law_1295 : decode cL_law 1295 = .ok (.invokevirtual 91, 3) := by decide +kernel
theorem dL_law_1298 : decode cL_law 1298 = .ok (.iload 5, 2) := by decide +kernel
theorem dL_law_1300 : decode cL_law 1300 = .ok (.if_icmp .eq 5, 3) := by decide +kernel
theorem dL_law_1303 : decode cL_law 1303 = .ok (.iconst 0, 1) := by decide +kernel
theorem dL_law_1304 : decode cL_law 1304 = .ok (.ireturn, 1) := by decide +kernel
theorem dL_law_1305 : decode cL_law 1305 = .ok (.iload 5, 2) := by decide +kernel
theorem dL_law_1307 : decode cL_law 1307 = .ok (.ifCond .ne 15, 3) := by decide +kernel
theorem dL_law_1310 : decode cL_law 1310 = .ok (.aload_n 3, 1) := by decide +kernel
theorem dL_law_1311 : decode cL_law 1311 = .ok (.iconst 0, 1) := by decide +kernel
theorem dL_law_1312 : decode cL_law 1312 = .ok (.laload, 1) := by decide +kernel
theorem dL_law_1313 : decode cL_law 1313 = .ok (.iload 6, 2) := by decide +kernel
theorem dL_law_1315 : decode cL_law 1315 = .ok (.i2l, 1) := by decide +kernel
theorem dL_law_1316 : decode cL_law 1316 = .ok (.lcmp, 1) := by decide +kernel
theorem dL_law_1317 : decode cL_law 1317 = .ok (.ifCond .eq 5, 3) := by decide +kernel
theorem dL_law_1320 : decode cL_law 1320 = .ok (.iconst 0, 1) := by decide +kernel
theorem dL_law_1321 : decode cL_law 1321 = .ok (.ireturn, 1) := by decide +kernel
theorem dL_law_1322 : decode cL_law 1322 = .ok (.goto 140, 3) := by decide +kernel
theorem dL_law_1325 : decode cL_law 1325 = .ok (.aload_n 1, 1) := by decide +kernel
theorem dL_law_1326 : decode cL_law 1326 = .ok (.invokevirtual 161, 3) := by decide +kernel
theorem dL_law_1329 : decode cL_law 1329 = .ok (.aload_n 2, 1) := by decide +kernel
theorem dL_law_1330 : decode cL_law 1330 = .ok (.invokevirtual 164, 3) := by decide +kernel
theorem dL_law_1333 : decode cL_law 1333 = .ok (.if_icmp .eq 129, 3) := by decide +kernel
theorem dL_law_1336 : decode cL_law 1336 = .ok (.iconst 0, 1) := by decide +kernel
theorem dL_law_1337 : decode cL_law 1337 = .ok (.ireturn, 1) := by decide +kernel
theorem dL_law_1338 : decode cL_law 1338 = .ok (.aload_n 1, 1) := by decide +kernel
theorem dL_law_1339 : decode cL_law 1339 = .ok (.aload_n 0, 1) := by decide +kernel
theorem dL_law_1340 : decode cL_law 1340 = .ok (.iload 4, 2) := by decide +kernel
theorem dL_law_1342 : decode cL_law 1342 = .ok (.iconst 1, 1) := by decide +kernel
theorem dL_law_1343 : decode cL_law 1343 = .ok (.iadd, 1) := by decide +kernel
theorem dL_law_1344 : decode cL_law 1344 = .ok (.iaload, 1) := by decide +kernel
theorem dL_law_1345 : decode cL_law 1345 = .ok (.aload_n 3, 1) := by decide +kernel
theorem dL_law_1346 : decode cL_law 1346 = .ok (.invokestatic 165, 3) := by decide +kernel
theorem dL_law_1349 : decode cL_law 1349 = .ok (.istore 5, 2) := by decide +kernel
theorem dL_law_1351 : decode cL_law 1351 = .ok (.aload_n 2, 1) := by decide +kernel
theorem dL_law_1352 : decode cL_law 1352 = .ok (.aload_n 0, 1) := by decide +kernel
theorem dL_law_1353 : decode cL_law 1353 = .ok (.iload 4, 2) := by decide +kernel
theorem dL_law_1355 : decode cL_law 1355 = .ok (.iconst 1, 1) := by decide +kernel
theorem dL_law_1356 : decode cL_law 1356 = .ok (.iadd, 1) := by decide +kernel
theorem dL_law_1357 : decode cL_law 1357 = .ok (.iaload, 1) := by decide +kernel
theorem dL_law_1358 : decode cL_law 1358 = .ok (.invokevirtual 167, 3) := by decide +kernel
theorem dL_law_1361 : decode cL_law 1361 = .ok (.istore 6, 2) := by decide +kernel
theorem dL_law_1363 : decode cL_law 1363 = .ok (.aload_n 2, 1) := by decide +kernel
theorem dL_law_1364 : decode cL_law 1364 = .ok (.invokevirtual 91, 3) := by decide +kernel
theorem dL_law_1367 : decode cL_law 1367 = .ok (.iload 5, 2) := by decide +kernel
theorem dL_law_1369 : decode cL_law 1369 = .ok (.if_icmp .eq 5, 3) := by decide +kernel
theorem dL_law_1372 : decode cL_law 1372 = .ok (.iconst 0, 1) := by decide +kernel
theorem dL_law_1373 : decode cL_law 1373 = .ok (.ireturn, 1) := by decide +kernel
theorem dL_law_1374 : decode cL_law 1374 = .ok (.iload 5, 2) := by decide +kernel
theorem dL_law_1376 : decode cL_law 1376 = .ok (.ifCond .ne 15, 3) := by decide +kernel
theorem dL_law_1379 : decode cL_law 1379 = .ok (.aload_n 3, 1) := by decide +kernel
theorem dL_law_1380 : decode cL_law 1380 = .ok (.iconst 0, 1) := by decide +kernel
theorem dL_law_1381 : decode cL_law 1381 = .ok (.laload, 1) := by decide +kernel
theorem dL_law_1382 : decode cL_law 1382 = .ok (.iload 6, 2) := by decide +kernel
theorem dL_law_1384 : decode cL_law 1384 = .ok (.i2l, 1) := by decide +kernel
theorem dL_law_1385 : decode cL_law 1385 = .ok (.lcmp, 1) := by decide +kernel
theorem dL_law_1386 : decode cL_law 1386 = .ok (.ifCond .eq 5, 3) := by decide +kernel
theorem dL_law_1389 : decode cL_law 1389 = .ok (.iconst 0, 1) := by decide +kernel
theorem dL_law_1390 : decode cL_law 1390 = .ok (.ireturn, 1) := by decide +kernel
theorem dL_law_1391 : decode cL_law 1391 = .ok (.goto 71, 3) := by decide +kernel
theorem dL_law_1394 : decode cL_law 1394 = .ok (.aload_n 1, 1) := by decide +kernel
theorem dL_law_1395 : decode cL_law 1395 = .ok (.aload_n 0, 1) := by decide +kernel
theorem dL_law_1396 : decode cL_law 1396 = .ok (.iload 4, 2) := by decide +kernel
theorem dL_law_1398 : decode cL_law 1398 = .ok (.iconst 1, 1) := by decide +kernel
theorem dL_law_1399 : decode cL_law 1399 = .ok (.iadd, 1) := by decide +kernel
theorem dL_law_1400 : decode cL_law 1400 = .ok (.iaload, 1) := by decide +kernel
theorem dL_law_1401 : decode cL_law 1401 = .ok (.aload_n 0, 1) := by decide +kernel
theorem dL_law_1402 : decode cL_law 1402 = .ok (.iload 4, 2) := by decide +kernel
theorem dL_law_1404 : decode cL_law 1404 = .ok (.iconst 2, 1) := by decide +kernel
theorem dL_law_1405 : decode cL_law 1405 = .ok (.iadd, 1) := by decide +kernel
theorem dL_law_1406 : decode cL_law 1406 = .ok (.iaload, 1) := by decide +kernel
theorem dL_law_1407 : decode cL_law 1407 = .ok (.aload_n 3, 1) := by decide +kernel
theorem dL_law_1408 : decode cL_law 1408 = .ok (.invokestatic 168, 3) := by decide +kernel
theorem dL_law_1411 : decode cL_law 1411 = .ok (.istore 5, 2) := by decide +kernel
theorem dL_law_1413 : decode cL_law 1413 = .ok (.aload_n 2, 1) := by decide +kernel
theorem dL_law_1414 : decode cL_law 1414 = .ok (.aload_n 0, 1) := by decide +kernel
theorem dL_law_1415 : decode cL_law 1415 = .ok (.iload 4, 2) := by decide +kernel
theorem dL_law_1417 : decode cL_law 1417 = .ok (.iconst 1, 1) := by decide +kernel
theorem dL_law_1418 : decode cL_law 1418 = .ok (.iadd, 1) := by decide +kernel
theorem dL_law_1419 : decode cL_law 1419 = .ok (.iaload, 1) := by decide +kernel
theorem dL_law_1420 : decode cL_law 1420 = .ok (.aload_n 0, 1) := by decide +kernel
theorem dL_law_1421 : decode cL_law 1421 = .ok (.iload 4, 2) := by decide +kernel
theorem dL_law_1423 : decode cL_law 1423 = .ok (.iconst 2, 1) := by decide +kernel
theorem dL_law_1424 : decode cL_law 1424 = .ok (.iadd, 1) := by decide +kernel
theorem dL_law_1425 : decode cL_law 1425 = .ok (.iaload, 1) := by decide +kernel
theorem dL_law_1426 : decode cL_law 1426 = .ok (.invokevirtual 170, 3) := by decide +kernel
theorem dL_law_1429 : decode cL_law 1429 = .ok (.istore 6, 2) := by decide +kernel
theorem dL_law_1431 : decode cL_law 1431 = .ok (.aload_n 2, 1) := by decide +kernel
theorem dL_law_1432 : decode cL_law 1432 = .ok (.invokevirtual 91, 3) := by decide +kernel
theorem dL_law_1435 : decode cL_law 1435 = .ok (.iload 5, 2) := by decide +kernel
theorem dL_law_1437 : decode cL_law 1437 = .ok (.if_icmp .eq 5, 3) := by decide +kernel
theorem dL_law_1440 : decode cL_law 1440 = .ok (.iconst 0, 1) := by decide +kernel
theorem dL_law_1441 : decode cL_law 1441 = .ok (.ireturn, 1) := by decide +kernel
theorem dL_law_1442 : decode cL_law 1442 = .ok (.iload 5, 2) := by decide +kernel
theorem dL_law_1444 : decode cL_law 1444 = .ok (.ifCond .ne 15, 3) := by decide +kernel
theorem dL_law_1447 : decode cL_law 1447 = .ok (.aload_n 3, 1) := by decide +kernel
theorem dL_law_1448 : decode cL_law 1448 = .ok (.iconst 0, 1) := by decide +kernel
theorem dL_law_1449 : decode cL_law 1449 = .ok (.laload, 1) := by decide +kernel
theorem dL_law_1450 : decode cL_law 1450 = .ok (.iload 6, 2) := by decide +kernel
theorem dL_law_1452 : decode cL_law 1452 = .ok (.i2l, 1) := by decide +kernel
theorem dL_law_1453 : decode cL_law 1453 = .ok (.lcmp, 1) := by decide +kernel
theorem dL_law_1454 : decode cL_law 1454 = .ok (.ifCond .eq 5, 3) := by decide +kernel
theorem dL_law_1457 : decode cL_law 1457 = .ok (.iconst 0, 1) := by decide +kernel
theorem dL_law_1458 : decode cL_law 1458 = .ok (.ireturn, 1) := by decide +kernel
theorem dL_law_1459 : decode cL_law 1459 = .ok (.goto 3, 3) := by decide +kernel
theorem dL_law_1462 : decode cL_law 1462 = .ok (.iinc 4 6, 3) := by decide +kernel
theorem dL_law_1465 : decode cL_law 1465 = .ok (.goto (-1442), 3) := by decide +kernel
theorem dL_law_1468 : decode cL_law 1468 = .ok (.iconst 1, 1) := by decide +kernel
theorem dL_law_1469 : decode cL_law 1469 = .ok (.ireturn, 1) := by decide +kernel
end
section
/-! ===== the heap as a map; a walk over it (G); a contract over it (Con) ===== -/
abbrev gS : Type := Nat → Option va_E
/-- what stays the same in all of the claim: class numbers and slots, the array classes' numbers (byte, char, int, boolean, long, Object), where our own cells begin, the empty array of java.util.ArrayList -/
abbrev gMT : Type := va_G × (Nat → ClassId) × Nat × Nat
def gD (M : gMT) : va_G := M.1
def gk (M : gMT) : Nat → ClassId := M.2.1
def gb (M : gMT) : Nat := M.2.2.1
def gE (M : gMT) : Nat := M.2.2.2
def gA (M : gMT) : Nat → Prop := fun q => gb M ≤ q
def gTys (M : gMT) : List (ClassId × FieldType) := [(gk M 0, .byte), (gk M 1, .char), (gk M 2, .int), (gk M 3, .boolean), (gk M 4, .long), (gk M 5, .object "java/lang/Object")]
abbrev gCl : List vw_C := [(RX0, TX0, 8), (RX1, TX1, 4), (RX2, TX2, 3), (RX3, TX3, 6), (RX4, TX4, 11), (RX5, TX5, 23), (RJx4a65c, TJx4a65c, 3), (RJ4, TJ4, 4)]
def gUp (σ : gS) (a : Nat) (e : va_E) : gS := fun b => if b = a then some e else σ b
theorem gUp_self (σ : gS) (a : Nat) (e : va_E) : gUp σ a e a = some e := if_pos rfl
theorem gUp_ne (σ : gS) {a b : Nat} (e : va_E) (h : b ≠ a) : gUp σ a e b = σ b := if_neg h
theorem gUp_up (σ : gS) (a : Nat) (e e2 : va_E) : gUp (gUp σ a e) a e2 = gUp σ a e2 := by
  funext b
  by_cases h : b = a <;> simp [gUp, h]
def aI (M : gMT) (t n : Nat) (f : Nat → Int32) : va_E := .inl (gk M t, n, .inl f)
def aL (M : gMT) (n : Nat) (f : Nat → Int64) : va_E := .inl (gk M 4, n, .inr (.inl f))
def aQ (M : gMT) (n : Nat) (f : Nat → Option Nat) : va_E := .inl (gk M 5, n, .inr (.inr (.inr (.inr f))))
abbrev oB (ci : Nat) (fs : List Value) : va_E := .inr (ci, fs)
def gRep (M : gMT) (σ : gS) (H : Heap) : Prop := ∀ (a : Nat) (e : va_E), σ a = some e → va_at (gD M) gCl (a, e) H ∧ gb M ≤ a
theorem gRep.lt {M : gMT} {σ : gS} {H : Heap} (h : gRep M σ H) {a : Nat} {e : va_E} (ha : σ a = some e) : a < H.size := (h a e ha).1.lt
theorem gRep.fresh {M : gMT} {σ : gS} {H : Heap} (h : gRep M σ H) : σ H.size = none := by
  cases hs : σ H.size with
  | none => rfl
  | some e => exact absurd (h.lt hs) (Nat.lt_irrefl _)
/-- one cell changed -/
theorem gRep.up {M : gMT} {σ : gS} {H H1 : Heap} (h : gRep M σ H) {a : Nat} {e : va_E} (he : va_at (gD M) gCl (a, e) H1) (hb : gb M ≤ a) (oq : ∀ q : Nat, q ≠ a → q < H.size → H1[q]? = H[q]?) : gRep M (gUp σ a e) H1 := by
  intro b e' hb'
  by_cases hba : b = a
  · subst hba
    rw [gUp_self] at hb'
    cases hb'
    exact ⟨he, hb⟩
  · rw [gUp_ne _ _ hba] at hb'
    obtain ⟨h1, h2⟩ := h b e' hb'
    exact ⟨h1.kept (oq b hba h1.lt), h2⟩
theorem gRep.kept {M : gMT} {σ : gS} {H H1 : Heap} (h : gRep M σ H) (oq : ∀ q : Nat, q < H.size → H1[q]? = H[q]?) : gRep M σ H1 := fun a e ha => ⟨(h a e ha).1.kept (oq a (h.lt ha)), (h a e ha).2⟩
/-- the world of one cell -/
theorem gRep.one {M : gMT} {σ : gS} {H : Heap} (h : gRep M σ H) {a : Nat} {e : va_E} (ha : σ a = some e) : va_P (gD M) gCl [(a, e)] H := fun k q hk => by
  match k, hk with
  | 0, hk => cases hk; exact (h a e ha).1
  | k + 1, hk => simp at hk
/-! ===== words ===== -/
/-- a private method of a class above is selected of an object below -/
theorem g_selP {C : String} {n : Nat} {y : MethodName} {s : State} {args : Array Value} (hy : y.cls ≠ "java/lang/invoke/MethodHandle" ∧ y.cls ≠ "java/lang/invoke/VarHandle") (hins : (Cond.instantiable C n).before args s = true) (hpriv : (Cond.privateMethod y).before args s = true) (hinst : (Cond.instanceMethod y).before args s = true) (hsm : (Cond.sameMethod y.cls y.cls y.name y.desc).before args s = true) : (Cond.selects C y y).before args s = true := by
  obtain ⟨c, k, hc, hk, -, -, -, -⟩ := Cond.instantiable_spec hins
  obtain ⟨mk, methM, hnamed, hmethM, -, -⟩ := Cond.instanceMethod_spec hinst
  have hfound : s.methodFound? y.cls y.name y.desc = some mk := State.methodFound?_of_named hnamed hy
  have hsel : selectMethod {} s.vm c mk = .method mk := selectMethod_private hmethM (Cond.privateMethod_at hpriv mk methM hnamed hmethM)
  obtain ⟨-, k2, hk2, hni⟩ := Cond.sameMethod_spec (findClass_of_methodNamed hnamed) hfound hsm
  simp only [Cond.before, Cond.holds, Cond.value, hc, hfound, hnamed, hsel, hk2]
  simp; exact hni
def gExt : List Cond := [.selects RJ4 yJ5_ensureCapacityInternal_d00df yJ5_ensureCapacityInternal_d00df]
def wG : List Cond := (lw_tbl ++ gExt).filter goodWord
theorem wG_in {w : Cond} (h : w ∈ lw_tbl) (hg : goodWord w = true) : w ∈ wG := List.mem_filter.mpr ⟨List.mem_append_left _ h, hg⟩
theorem wG_ext {w : Cond} (h : w ∈ gExt) (hg : goodWord w = true) : w ∈ wG := List.mem_filter.mpr ⟨List.mem_append_right _ h, hg⟩
theorem wG_good {w : Cond} (h : w ∈ wG) : (w.onTables && w.keeps) = true ∨ ∃ ty, w = .arrayClass ty := good_of_word (List.mem_filter.mp h).2
theorem wG_pay {args : Array Value} {s : State} (hts : ∀ w ∈ wG, w.before args s = true) {cw : Cond} (hcw : cw ∈ wG) : ∀ w ∈ cw :: wG, ∀ (a' : Array Value) (U : State), s.WarmedH U.vm → w.before a' U = true := by
  intro w hw a' U hW
  have h : w ∈ wG := by
    rcases List.mem_cons.mp hw with rfl | h
    · exact hcw
    · exact h
  exact word_at hW (wG_good h) (hts w h)
/-- texts of exceptions (place in the pool of AllotmentLedger), castable words, pairs not castable, declared methods, nest links: words that are no good words -/
def gStr : List (Nat × String) := [(67, "the letter is not one of a to z"), (78, "the path has all its letters"), (85, "the path is empty"), (95, "the project is there"), (97, "the parent is not there"), (102, "there are all the projects that can be"), (268, "no such project"), (118, "the project cannot be moved there"), (136, "the place is below 0"), (276, "no such account"), (150, "there are all the files that can be"), (274, "no such file"), (177, "blocks is out of range"), (202, "there are all the reservations that can be"), (207, "no such open reservation"), (215, "a limit is out of range"), (229, "hours is out of range"), (231, "the clock would be beyond its last hour"), (260, "files is out of range"), (262, "no recount was begun")]
def eA : String := "java/lang/IllegalArgumentException"
def eS : String := "java/lang/IllegalStateException"
def eI : String := "java/lang/IndexOutOfBoundsException"
def gCast : List (String × String) := [(RX0, "java/lang/Object"), (RX1, "java/lang/Object"), (RX2, "java/lang/Object"), (RX3, "java/lang/Object"), (eA, eA), (eS, eS), (eI, eI)]
def gNcs : List (String × String) := [(eS, eA), (eS, eI), (eA, eI)]
def yGetClass : MethodName := ⟨"java/lang/Object", "getClass", "()Ljava/lang/Class;"⟩
def gDecl : List MethodName := [⟨"java/lang/RuntimeException", "<init>", "(Ljava/lang/String;)V"⟩, ⟨"java/lang/Exception", "<init>", "(Ljava/lang/String;)V"⟩, ⟨"java/lang/Throwable", "<init>", "(Ljava/lang/String;)V"⟩, yGetClass]
def gNest : List (String × Nat × MethodName × String) := [(RX4, 51, yX0_init, "AllotmentLedger"), (RX1, 9, yX0_init, "AllotmentLedger")]
/-- what the surroundings are, at a state's tables and a heap -/
def gAmb (M : gMT) (U : State) (H : Heap) : Prop :=
  va_K (gD M) gCl (gTys M) U ∧ (H[gE M]? = some (vp_cell (gk M 5) (0, .inr (.inr (.inr (.inr (fun _ => none)))))) ∧ gE M < gb M) ∧
  va_Z "java/util/ArrayList" "DEFAULTCAPACITY_EMPTY_ELEMENTDATA" "[Ljava/lang/Object;" (.ref (gE M)) (gA M) U H ∧
  va_Z "java/lang/String" "COMPACT_STRINGS" "Z" (.int 1) (gA M) U H ∧
  vx_Zq Bundle.tN "UNASSIGNED_STACK" Bundle.steD (gA M) U H ∧ vx_Zq Bundle.tN "SUPPRESSED_SENTINEL" Bundle.listD (gA M) U H ∧
  va_AO "java/lang/Object" U ∧ (∀ q ∈ gStr, ∃ a, vk_R RX4 q.1 q.2 a U) ∧ (∀ q ∈ gCast, va_Nw (.castable q.1 q.2) U) ∧ (∀ q ∈ gNcs, va_Nc q.1 q.2 U) ∧
  (∀ y ∈ gDecl, va_Nw (.declares y) U) ∧ (∀ q ∈ gNest, va_Nw (.methodLinkNest q.1 q.2.1 q.2.2.1 q.2.2.2) U) ∧ (∃ mi, va_Mi "[Ljava/lang/Object;" mi U) ∧
  va_Zq "jdk/internal/util/Preconditions" "SIOOBE_FORMATTER" "Ljava/util/function/BiFunction;" (gA M) U H
theorem gAmb.warm {M : gMT} {s U : State} {H : Heap} (hW : s.WarmedH U.vm) (h : gAmb M s H) : gAmb M U H := by
  obtain ⟨h1, h2, h3, h4, h5, h6, h7, h8, h9, h10, h11, h12, h13, h14⟩ := h
  have hv := hW.alike
  exact ⟨va_K.moved hv h1, h2, va_Z.moved hv h3, va_Z.moved hv h4, vx_Zq.moved hv h5, vx_Zq.moved hv h6, va_AO.moved hv h7, fun q hq => (h8 q hq).imp fun a ha => vk_R.warm hW ha, fun q hq => va_Nw.warmC hW (h9 q hq), fun q hq => va_Nc.moved hv (h10 q hq), fun y hy => va_Nw.warmD hW (h11 y hy), fun q hq => va_Nw.warmM hW (h12 q hq), h13.imp fun mi hm => va_Mi.moved hv hm, va_Zq.moved hv h14⟩
theorem gAmb.kept {M : gMT} {U : State} {H H1 : Heap} (h : gAmb M U H) (hq : ∀ a : Nat, a < H.size → ¬ gA M a → H1[a]? = H[a]?) : gAmb M U H1 := by
  obtain ⟨h1, ⟨h2, h2'⟩, h3, h4, h5, h6, h7, h8, h9, h10, h11, h12, h13, h14⟩ := h
  exact ⟨h1, ⟨by rw [hq _ (Array.getElem?_eq_some_iff.mp h2).1 (Nat.not_le.mpr h2')]; exact h2, h2'⟩, va_Z.kept h3 hq, va_Z.kept h4 hq, vx_Zq.kept h5 hq, vx_Zq.kept h6 hq, h7, h8, h9, h10, h11, h12, h13, va_Zq.kept h14 hq⟩
/-! ===== locals: a list of (place, value), the newest first ===== -/
def gL : List (Nat × Value) → Nat → Option Value
  | [], _ => none
  | q :: r, i => bif Nat.beq q.1 i then some q.2 else gL r i
def lOk (ls : Array Slot) (nL : Nat) (lv : List (Nat × Value)) : Prop := ls.size = nL ∧ lv_wf ls ∧ ∀ (i : Nat) (v : Value), gL lv i = some v → ls[i]? = some (.val v) ∧ v.category = 1
theorem lOk.get {ls : Array Slot} {nL : Nat} {lv : List (Nat × Value)} (h : lOk ls nL lv) {i : Nat} {v : Value} (hv : gL lv i = some v) : ls[i]? = some (.val v) := (h.2.2 i v hv).1
def gAll (lv : List (Nat × Value)) : List (Nat × Value) → Prop
  | [] => True
  | q :: r => gL lv q.1 = some q.2 ∧ gAll lv r
theorem gAll.mem {lv lv0 : List (Nat × Value)} (h : gAll lv lv0) {i : Nat} {v : Value} (hv : gL lv0 i = some v) : gL lv i = some v := by
  induction lv0 with
  | nil => cases hv
  | cons q r ih =>
    obtain ⟨h1, h2⟩ := h
    unfold gL at hv
    cases hb : Nat.beq q.1 i with
    | true =>
      rw [hb] at hv
      have e : q.1 = i := Nat.eq_of_beq_eq_true hb
      subst e
      exact h1.trans hv
    | false =>
      rw [hb] at hv
      exact ih h2 hv
theorem lOk.sub {ls : Array Slot} {nL : Nat} {lv lv0 : List (Nat × Value)} (h : lOk ls nL lv) (ha : gAll lv lv0) : lOk ls nL lv0 := ⟨h.1, h.2.1, fun i v hv => h.2.2 i v (ha.mem hv)⟩
theorem gL_lt {lv : List (Nat × Value)} {ls : Array Slot} {nL : Nat} (h : lOk ls nL lv) {i : Nat} {v : Value} (hv : gL lv i = some v) : i < nL := by
  have h1 := (Array.getElem?_eq_some_iff.mp (h.get hv)).1
  rw [h.1] at h1
  exact h1
def gEnt (lv : List (Nat × Value)) (nL : Nat) : List (Nat × Value) := (List.range nL).filterMap (fun i => (gL lv i).map (fun v => (i, v)))
theorem gEnt_mem {lv : List (Nat × Value)} {nL : Nat} {q : Nat × Value} : q ∈ gEnt lv nL ↔ q.1 < nL ∧ gL lv q.1 = some q.2 := by
  constructor
  · intro h
    obtain ⟨i, hi, he⟩ := List.mem_filterMap.mp h
    cases hg : gL lv i with
    | none => rw [hg] at he; cases he
    | some v => rw [hg] at he; cases he; exact ⟨List.mem_range.mp hi, hg⟩
  · intro ⟨h1, h2⟩
    exact List.mem_filterMap.mpr ⟨q.1, List.mem_range.mpr h1, by rw [h2]; rfl⟩
theorem lOk.has {ls : Array Slot} {nL : Nat} {lv : List (Nat × Value)} (h : lOk ls nL lv) : lv_has ls nL (gEnt lv nL) := ⟨h.1, h.2.1, fun q hq => (h.2.2 _ _ (gEnt_mem.mp hq).2).1⟩
/-- behind a store of one word -/
theorem lOk.stored {ls ls' : Array Slot} {nL i : Nat} {v : Value} {lv : List (Nat × Value)} (h : lOk ls nL lv) (hc : v.category = 1) (h' : lv_has ls' nL ((i, v) :: (gEnt lv nL).filter (fun q => !(q.1 == i) && !(q.1 + 1 == i && q.2.category == 2)))) : lOk ls' nL ((i, v) :: lv) := by
  refine ⟨h'.1, h'.2.1, fun j w hw => ?_⟩
  unfold gL at hw
  cases hb : Nat.beq i j with
  | true =>
    rw [hb] at hw
    have e : i = j := Nat.eq_of_beq_eq_true hb
    subst e
    cases hw
    exact ⟨h'.2.2 (i, v) List.mem_cons_self, hc⟩
  | false =>
    rw [hb] at hw
    have hw : gL lv j = some w := hw
    have hne : i ≠ j := fun e => by subst e; simp at hb
    have hcat := (h.2.2 j w hw).2
    refine ⟨h'.2.2 (j, w) (List.mem_cons_of_mem _ (List.mem_filter.mpr ⟨gEnt_mem.mpr ⟨gL_lt h hw, hw⟩, ?_⟩)), hcat⟩
    have h1 : (j == i) = false := beq_eq_false_iff_ne.mpr (Ne.symm hne)
    simp [h1, hcat]
theorem gL_of_has {ls : Array Slot} {nL : Nat} {lv : List (Nat × Value)} (h : lv_has ls nL lv) (hc : lv.all (fun q => q.2.category == 1) = true) : lOk ls nL lv := by
  refine ⟨h.1, h.2.1, fun i v hv => ?_⟩
  have hm : (i, v) ∈ lv := by
    clear h hc
    induction lv with
    | nil => cases hv
    | cons q r ih =>
      unfold gL at hv
      cases hb : Nat.beq q.1 i with
      | true =>
        rw [hb] at hv
        have e : q.1 = i := Nat.eq_of_beq_eq_true hb
        cases hv
        rw [← e]
        exact List.mem_cons_self
      | false => rw [hb] at hv; exact List.mem_cons_of_mem _ (ih hv)
  exact ⟨h.2.2 (i, v) hm, by simpa using List.all_eq_true.mp hc (i, v) hm⟩
/-! ===== the walk ===== -/
abbrev gX : Type := Program × Launch × Env × Room × State × MethodId × Array Value × List Frame × Method × Code
abbrev xp (X : gX) : Program := X.1
abbrev xl (X : gX) : Launch := X.2.1
abbrev xe (X : gX) : Env := X.2.2.1
abbrev xR (X : gX) : Room := X.2.2.2.1
abbrev xs (X : gX) : State := X.2.2.2.2.1
abbrev xm (X : gX) : MethodId := X.2.2.2.2.2.1
abbrev xa (X : gX) : Array Value := X.2.2.2.2.2.2.1
abbrev xbl (X : gX) : List Frame := X.2.2.2.2.2.2.2.1
abbrev xmt (X : gX) : Method := X.2.2.2.2.2.2.2.2.1
abbrev xc (X : gX) : Code := X.2.2.2.2.2.2.2.2.2
abbrev gW (X : gX) (H : Heap) (locs : List Loc) (k n : Nat) (Q : State → Prop) (g : JFrame) : Prop := W (xp X) (xl X) (xe X) (xR X) (xs X) (xm X) (xa X) (xbl X) (xmt X) (xc X) H locs k n Q g
def G (X : gX) (M : gMT) (nL : Nat) (Q : State → Prop) (k n : Nat) (σ : gS) (pc : Nat) (lv : List (Nat × Value)) (st : List Value) : Prop :=
  ∀ (H : Heap) (locs : List Loc) (ls : Array Slot), gRep M σ H → va_S (gA M) (xs X).heap H locs → lOk ls nL lv → gW X H locs k n Q (F0 (xm X) pc ls st)
/-- an exception of class E thrown over the frame at pc -/
def GX (X : gX) (M : gMT) (nL : Nat) (Q : State → Prop) (k n : Nat) (σ : gS) (pc : Nat) (lv : List (Nat × Value)) (E : String) : Prop :=
  ∀ (H : Heap) (locs : List Loc) (ls : Array Slot) (rest : List Value) (q : Addr) (ce : Cell), gRep M σ H → va_S (gA M) (xs X).heap H locs → lOk ls nL lv → H[q]? = some ce → ce.vm = .none → (xs X).vm.findClass E = some ce.cls →
    vx_W (xp X) (xl X) (xe X) (xR X) (xs X) (xm X) (xa X) (xbl X) (xmt X) (xc X) H locs k n Q (F0 (xm X) pc ls rest) q
/-- the method's frame: its machine, code, class, words, surroundings and room -/
def gOk (X : gX) (M : gMT) (own : String) (cc : ByteArray) (nL d mc ms : Nat) : Prop :=
  (xp X).tables.exec = Jvm.exec ∧ (xc X).code = cc ∧ (xc X).maxLocals = nL ∧ (xs X).vm.findClass own = some (xm X).cls ∧ (∀ w ∈ wG, w.before (xa X) (xs X) = true) ∧ gAmb M (xs X) (xs X).heap ∧
  d ≤ (xR X).frames ∧ 64 * d ≤ (xR X).locals ∧ mc ≤ (xR X).cells ∧ ms ≤ (xR X).slots ∧ gb M ≤ (xs X).heap.size ∧ (xl X).stackTraces = false
section GB
variable {X : gX} {M : gMT} {own : String} {cc : ByteArray} {nL d mc ms : Nat}
theorem gOk.x (h : gOk X M own cc nL d mc ms) : (xp X).tables.exec = Jvm.exec := h.1
theorem gOk.b (h : gOk X M own cc nL d mc ms) : (xc X).code = cc := h.2.1
theorem gOk.nl (h : gOk X M own cc nL d mc ms) : (xc X).maxLocals = nL := h.2.2.1
theorem gOk.ow (h : gOk X M own cc nL d mc ms) : (xs X).vm.findClass own = some (xm X).cls := h.2.2.2.1
theorem gOk.ts (h : gOk X M own cc nL d mc ms) {w : Cond} (hw : w ∈ wG) : w.before (xa X) (xs X) = true := h.2.2.2.2.1 w hw
theorem gOk.amb (h : gOk X M own cc nL d mc ms) : gAmb M (xs X) (xs X).heap := h.2.2.2.2.2.1
theorem gOk.k (h : gOk X M own cc nL d mc ms) : va_K (gD M) gCl (gTys M) (xs X) := h.2.2.2.2.2.1.1
theorem gOk.base (h : gOk X M own cc nL d mc ms) : gb M ≤ (xs X).heap.size := h.2.2.2.2.2.2.2.2.2.2.1
theorem gOk.fix (h : gOk X M own cc nL d mc ms) : CallFix (xp X) (xm X) (xc X) cc nL (xs X) (xa X) wG own := ⟨h.x, h.b, h.nl, h.ow, h.2.2.2.2.1⟩
/-- the surroundings at any later heap of the walk -/
theorem gOk.at (h : gOk X M own cc nL d mc ms) {H : Heap} {locs : List Loc} (hS : va_S (gA M) (xs X).heap H locs) : gAmb M (xs X) H := h.amb.kept hS.2.1
theorem gA_new (h : gOk X M own cc nL d mc ms) : ∀ q, (xs X).heap.size ≤ q → gA M q := fun q hq => Nat.le_trans h.base hq
end GB
/-! ===== a contract ===== -/
def gPc (M : gMT) (av : List Value) (σ : gS) : Array Value → State → Prop := va_Pc av (fun U => gAmb M U U.heap ∧ gRep M σ U.heap ∧ gb M ≤ U.heap.size)
def gQc (M : gMT) (P : Option Value → gS → Prop) : Array Value → State → Outcome → State → Prop := fun _ st o t => ∃ (v : Option Value) (σ : gS), o = .returned v ∧ P v σ ∧ gRep M σ t.heap ∧ va_F (gA M) st t
def gXC (M : gMT) (PX : String → gS → Prop) : String → State → State → Prop := fun E st t => ∃ σ : gS, PX E σ ∧ gRep M σ t.heap ∧ va_F (gA M) st t
def gRoom (d mc ms : Nat) : Room := { frames := d, cells := mc, slots := ms, locals := 64 * d }
def Con (l : Launch) (M : gMT) (y : MethodName) (cw : Cond) (d mc ms : Nat) (av : List Value) (σ : gS) (P : Option Value → gS → Prop) (PX : String → gS → Prop) : Prop :=
  vx_Met l y (cw :: wG) (gRoom d mc ms) (gPc M av σ) (gQc M P) (gXC M PX) mc ms (gA M)
def gQ (X : gX) (M : gMT) (mc ms : Nat) (P : Option Value → gS → Prop) (PX : String → gS → Prop) : State → Prop := vx_MQ (xbl X) (gQc M P) (gXC M PX) (xa X) (xs X) mc ms (gA M)
/-- what a method's ends ask -/
def gRet (X : gX) (ret : Option FieldType) (nm : String) : Prop := (xmt X).sig.returnType = ret ∧ (xmt X).locks = false ∧ (xmt X).name = nm
theorem gPc_blind {M : gMT} {av : List Value} {σ : gS} : FrameBlind (gPc M av σ) := fun a U g mk q => by
  obtain ⟨q0, q1, q2, q3⟩ := q
  exact ⟨q0, gAmb.warm (s := U) (U := U.calling g mk a) (State.WarmedH.refl U) q1, q2, q3⟩
theorem g_con {l : Launch} {M : gMT} {y : MethodName} {cc : ByteArray} {maxL : Nat} {ret : Option FieldType} {d mc ms : Nat} {av : List Value} {σ : gS} {P : Option Value → gS → Prop} {PX : String → gS → Prop} {lv : List (Nat × Value)} (hfl : l.stackTraces = false)
    (hy : plainName y.cls = true) (hlv : lv_args 0 av = lv) (hcat : lv.all (fun q => q.2.category == 1) = true) (hn : (lg_sl av).length ≤ maxL)
    (body : ∀ X : gX, xl X = l → gOk X M y.cls cc maxL d mc ms → gRet X ret y.name → (∀ x ∈ (xc X).exceptionTable.toList, False) → G X M maxL (gQ X M mc ms P PX) 0 0 σ 0 lv []) : Con l M y (.code y cc maxL ret) d mc ms av σ P PX := by
  refine vx_ofW (cc := cc) (maxL := maxL) (ret := ret) hy rfl ?_
  intro p e s m args below meth c s₁ B hml ht hv
  obtain ⟨rfl, hA, hP, hbs⟩ := hv
  have hts := atoms_spec (ws := .code y cc maxL ret :: wG) B.pre
  have hlocks := B.notSynchronized
  have h := body (p, l, e, gRoom d mc ms, s, m, av.toArray, below, meth, c) rfl ⟨B.exec, B.bytes, hml, findClass_of_methodNamed B.named, fun w hw => hts w (List.mem_cons_of_mem _ hw), hA, Nat.le_refl _, Nat.le_refl _, Nat.le_refl _, Nat.le_refl _, hbs, hfl⟩ ⟨B.returns, hlocks, (name_of_methodNamed B.named B.method).1⟩ ht
  rw [lg_entry_eq]
  have hl := lv_entry av (n := maxL) hn
  rw [hlv] at hl
  exact h s.heap [] _ hP va_S.rf (gL_of_has hl hcat)
end
section
/-! ===== rows of the walk ===== -/
section GR
variable {X : gX} {M : gMT} {own : String} {cc : ByteArray} {nL d mc ms : Nat} {Q : State → Prop} {k n : Nat} {σ : gS} {pc q : Nat} {lv : List (Nat × Value)} {st : List Value}
theorem g_iconst (hC : gOk X M own cc nL d mc ms) {z : Int} {v : Int32} (hdg : decode cc pc = .ok (.iconst z, 1)) (hv : Int32.ofInt z = v) (hq : pc + 1 = q) (kk : G X M nL Q k n σ q lv (.int v :: st)) : G X M nL Q k n σ pc lv st := by
  subst hq
  exact fun H locs ls hP hS hl => lv_iconst hC.x hC.b hdg hv (kk H locs ls hP hS hl)
theorem g_bipush (hC : gOk X M own cc nL d mc ms) {z : Int} {v : Int32} (hdg : decode cc pc = .ok (.bipush z, 2)) (hv : (Int8.ofInt z).toInt32 = v) (hq : pc + 2 = q) (kk : G X M nL Q k n σ q lv (.int v :: st)) : G X M nL Q k n σ pc lv st := by
  subst hq
  exact fun H locs ls hP hS hl => lv_bipush hC.x hC.b hdg hv (kk H locs ls hP hS hl)
theorem g_sipush (hC : gOk X M own cc nL d mc ms) {z : Int} {v : Int32} (hdg : decode cc pc = .ok (.sipush z, 3)) (hv : (Int16.ofInt z).toInt32 = v) (hq : pc + 3 = q) (kk : G X M nL Q k n σ q lv (.int v :: st)) : G X M nL Q k n σ pc lv st := by
  subst hq
  exact fun H locs ls hP hS hl => lv_sipush hC.x hC.b hdg hv (kk H locs ls hP hS hl)
theorem g_null (hC : gOk X M own cc nL d mc ms)  (hdg : decode cc pc = .ok (.aconst_null, 1))  (hq : pc + 1 = q) (kk : G X M nL Q k n σ q lv (.null :: st)) : G X M nL Q k n σ pc lv st := by
  subst hq
  exact fun H locs ls hP hS hl => lv_null hC.x hC.b hdg  (kk H locs ls hP hS hl)
theorem g_ldc (hC : gOk X M own cc nL d mc ms) {index : Nat} {v : Int32} (hk : Cond.constant own index v ∈ wG) (hdg : decode cc pc = .ok (.ldc index, 2)) (hq : pc + 2 = q) (kk : G X M nL Q k n σ q lv (.int v :: st)) : G X M nL Q k n σ pc lv st := by
  subst hq
  exact fun H locs ls hP hS hl => lv_ldc hC.x hC.b hC.ow (hC.ts hk) hdg (kk H locs ls hP hS hl)
theorem g_iload_n (hC : gOk X M own cc nL d mc ms) {x : Int32} {i : Nat} {k4 : Fin 4} (hdg : decode cc pc = .ok (.iload_n k4, 1)) (hi : (k4 : Nat) = i) (hv : gL lv i = some (.int x)) (hq : pc + 1 = q) (kk : G X M nL Q k n σ q lv (.int x :: st)) : G X M nL Q k n σ pc lv st := by
  subst hq
  exact fun H locs ls hP hS hl => lv_iload_n hC.x hC.b hdg hi (hl.get hv) (kk H locs ls hP hS hl)
theorem g_iload (hC : gOk X M own cc nL d mc ms) {x : Int32} {i : Nat} (hdg : decode cc pc = .ok (.iload i, 2)) (hv : gL lv i = some (.int x)) (hq : pc + 2 = q) (kk : G X M nL Q k n σ q lv (.int x :: st)) : G X M nL Q k n σ pc lv st := by
  subst hq
  exact fun H locs ls hP hS hl => lv_iload hC.x hC.b hdg (hl.get hv) (kk H locs ls hP hS hl)
theorem g_aload_n (hC : gOk X M own cc nL d mc ms) {x : Nat} {i : Nat} {k4 : Fin 4} (hdg : decode cc pc = .ok (.aload_n k4, 1)) (hi : (k4 : Nat) = i) (hv : gL lv i = some (.ref x)) (hq : pc + 1 = q) (kk : G X M nL Q k n σ q lv (.ref x :: st)) : G X M nL Q k n σ pc lv st := by
  subst hq
  exact fun H locs ls hP hS hl => lv_aload_n hC.x hC.b hdg hi (hl.get hv) (kk H locs ls hP hS hl)
theorem g_aload (hC : gOk X M own cc nL d mc ms) {x : Nat} {i : Nat} (hdg : decode cc pc = .ok (.aload i, 2)) (hv : gL lv i = some (.ref x)) (hq : pc + 2 = q) (kk : G X M nL Q k n σ q lv (.ref x :: st)) : G X M nL Q k n σ pc lv st := by
  subst hq
  exact fun H locs ls hP hS hl => lv_aload hC.x hC.b hdg (hl.get hv) (kk H locs ls hP hS hl)
theorem g_aload_nN (hC : gOk X M own cc nL d mc ms) {i : Nat} {k4 : Fin 4} (hdg : decode cc pc = .ok (.aload_n k4, 1)) (hi : (k4 : Nat) = i) (hv : gL lv i = some .null) (hq : pc + 1 = q) (kk : G X M nL Q k n σ q lv (.null :: st)) : G X M nL Q k n σ pc lv st := by
  subst hq
  exact fun H locs ls hP hS hl => lv_aload_nN hC.x hC.b hdg hi (hl.get hv) (kk H locs ls hP hS hl)
theorem g_aloadN (hC : gOk X M own cc nL d mc ms) {i : Nat} (hdg : decode cc pc = .ok (.aload i, 2)) (hv : gL lv i = some .null) (hq : pc + 2 = q) (kk : G X M nL Q k n σ q lv (.null :: st)) : G X M nL Q k n σ pc lv st := by
  subst hq
  exact fun H locs ls hP hS hl => lv_aloadN hC.x hC.b hdg (hl.get hv) (kk H locs ls hP hS hl)
theorem g_aload_nQ (hC : gOk X M own cc nL d mc ms) {o : Option Nat} {i : Nat} {k4 : Fin 4} (hdg : decode cc pc = .ok (.aload_n k4, 1)) (hi : (k4 : Nat) = i) (hv : gL lv i = some (va_rf o)) (hq : pc + 1 = q) (kk : G X M nL Q k n σ q lv (va_rf o :: st)) : G X M nL Q k n σ pc lv st := by
  cases o with
  | none => exact g_aload_nN hC hdg hi hv hq kk
  | some a => exact g_aload_n hC hdg hi hv hq kk
theorem g_aloadQ (hC : gOk X M own cc nL d mc ms) {o : Option Nat} {i : Nat} (hdg : decode cc pc = .ok (.aload i, 2)) (hv : gL lv i = some (va_rf o)) (hq : pc + 2 = q) (kk : G X M nL Q k n σ q lv (va_rf o :: st)) : G X M nL Q k n σ pc lv st := by
  cases o with
  | none => exact g_aloadN hC hdg hv hq kk
  | some a => exact g_aload hC hdg hv hq kk
theorem g_istore_n (hC : gOk X M own cc nL d mc ms) {x : Int32} {i : Nat} {k4 : Fin 4} (hdg : decode cc pc = .ok (.istore_n k4, 1)) (hi : (k4 : Nat) = i) (hn : i < nL) (hq : pc + 1 = q) (kk : G X M nL Q k n σ q ((i, .int x) :: lv) st) : G X M nL Q k n σ pc lv (.int x :: st) := by
  subst hq
  exact fun H locs ls hP hS hl => lv_istore_n hC.x hC.b hdg hi hl.has hn rfl (fun ls2 hl2 => kk H locs ls2 hP hS (hl.stored rfl hl2))
theorem g_istore (hC : gOk X M own cc nL d mc ms) {x : Int32} {i : Nat} (hdg : decode cc pc = .ok (.istore i, 2)) (hn : i < nL) (hq : pc + 2 = q) (kk : G X M nL Q k n σ q ((i, .int x) :: lv) st) : G X M nL Q k n σ pc lv (.int x :: st) := by
  subst hq
  exact fun H locs ls hP hS hl => lv_istore hC.x hC.b hdg hl.has hn rfl (fun ls2 hl2 => kk H locs ls2 hP hS (hl.stored rfl hl2))
theorem g_astore_n (hC : gOk X M own cc nL d mc ms) {x : Nat} {i : Nat} {k4 : Fin 4} (hdg : decode cc pc = .ok (.astore_n k4, 1)) (hi : (k4 : Nat) = i) (hn : i < nL) (hq : pc + 1 = q) (kk : G X M nL Q k n σ q ((i, .ref x) :: lv) st) : G X M nL Q k n σ pc lv (.ref x :: st) := by
  subst hq
  exact fun H locs ls hP hS hl => lv_astore_n hC.x hC.b hdg hi hl.has hn rfl (fun ls2 hl2 => kk H locs ls2 hP hS (hl.stored rfl hl2))
theorem g_astore (hC : gOk X M own cc nL d mc ms) {x : Nat} {i : Nat} (hdg : decode cc pc = .ok (.astore i, 2)) (hn : i < nL) (hq : pc + 2 = q) (kk : G X M nL Q k n σ q ((i, .ref x) :: lv) st) : G X M nL Q k n σ pc lv (.ref x :: st) := by
  subst hq
  exact fun H locs ls hP hS hl => lv_astore hC.x hC.b hdg hl.has hn rfl (fun ls2 hl2 => kk H locs ls2 hP hS (hl.stored rfl hl2))
theorem g_astore_nN (hC : gOk X M own cc nL d mc ms)  {i : Nat} {k4 : Fin 4} (hdg : decode cc pc = .ok (.astore_n k4, 1)) (hi : (k4 : Nat) = i) (hn : i < nL) (hq : pc + 1 = q) (kk : G X M nL Q k n σ q ((i, .null) :: lv) st) : G X M nL Q k n σ pc lv (.null :: st) := by
  subst hq
  exact fun H locs ls hP hS hl => lv_astore_nN hC.x hC.b hdg hi hl.has hn rfl (fun ls2 hl2 => kk H locs ls2 hP hS (hl.stored rfl hl2))
theorem g_astoreN (hC : gOk X M own cc nL d mc ms)  {i : Nat} (hdg : decode cc pc = .ok (.astore i, 2)) (hn : i < nL) (hq : pc + 2 = q) (kk : G X M nL Q k n σ q ((i, .null) :: lv) st) : G X M nL Q k n σ pc lv (.null :: st) := by
  subst hq
  exact fun H locs ls hP hS hl => lv_astoreN hC.x hC.b hdg hl.has hn rfl (fun ls2 hl2 => kk H locs ls2 hP hS (hl.stored rfl hl2))
theorem g_astore_nQ (hC : gOk X M own cc nL d mc ms) {o : Option Nat} {i : Nat} {k4 : Fin 4} (hdg : decode cc pc = .ok (.astore_n k4, 1)) (hi : (k4 : Nat) = i) (hn : i < nL) (hq : pc + 1 = q) (kk : G X M nL Q k n σ q ((i, va_rf o) :: lv) st) : G X M nL Q k n σ pc lv (va_rf o :: st) := by
  cases o with
  | none => exact g_astore_nN hC hdg hi hn hq kk
  | some a => exact g_astore_n hC hdg hi hn hq kk
theorem g_astoreQ (hC : gOk X M own cc nL d mc ms) {o : Option Nat} {i : Nat} (hdg : decode cc pc = .ok (.astore i, 2)) (hn : i < nL) (hq : pc + 2 = q) (kk : G X M nL Q k n σ q ((i, va_rf o) :: lv) st) : G X M nL Q k n σ pc lv (va_rf o :: st) := by
  cases o with
  | none => exact g_astoreN hC hdg hn hq kk
  | some a => exact g_astore hC hdg hn hq kk
theorem g_iinc (hC : gOk X M own cc nL d mc ms) {x v : Int32} {i : Nat} {z : Int} (hdg : decode cc pc = .ok (.iinc i z, 3)) (hx : gL lv i = some (.int x)) (hv : x + Int32.ofInt z = v) (hq : pc + 3 = q) (kk : G X M nL Q k n σ q ((i, .int v) :: lv) st) : G X M nL Q k n σ pc lv st := by
  subst hq
  intro H locs ls hP hS hl
  obtain ⟨k9, hk9⟩ := List.getElem?_of_mem (gEnt_mem.mpr ⟨gL_lt hl hx, hx⟩ : (i, Value.int x) ∈ gEnt lv nL)
  exact lv_iinc hC.x hC.b hdg hl.has hk9 hv (gL_lt hl hx) rfl (fun ls2 hl2 => kk H locs ls2 hP hS (hl.stored rfl hl2))
theorem g_iadd (hC : gOk X M own cc nL d mc ms) {x y v : Int32} (hdg : decode cc pc = .ok (.iadd, 1)) (hv : x + y = v) (hq : pc + 1 = q) (kk : G X M nL Q k n σ q lv (.int v :: st)) : G X M nL Q k n σ pc lv (.int y :: .int x :: st) := by
  subst hq
  subst hv
  exact fun H locs ls hP hS hl => lv_iadd hC.x hC.b hdg (kk H locs ls hP hS hl)
theorem g_isub (hC : gOk X M own cc nL d mc ms) {x y v : Int32} (hdg : decode cc pc = .ok (.isub, 1)) (hv : x - y = v) (hq : pc + 1 = q) (kk : G X M nL Q k n σ q lv (.int v :: st)) : G X M nL Q k n σ pc lv (.int y :: .int x :: st) := by
  subst hq
  subst hv
  exact fun H locs ls hP hS hl => lv_isub hC.x hC.b hdg (kk H locs ls hP hS hl)
theorem g_imul (hC : gOk X M own cc nL d mc ms) {x y v : Int32} (hdg : decode cc pc = .ok (.imul, 1)) (hv : x * y = v) (hq : pc + 1 = q) (kk : G X M nL Q k n σ q lv (.int v :: st)) : G X M nL Q k n σ pc lv (.int y :: .int x :: st) := by
  subst hq
  subst hv
  exact fun H locs ls hP hS hl => lv_imul hC.x hC.b hdg (kk H locs ls hP hS hl)
theorem g_iand (hC : gOk X M own cc nL d mc ms) {x y v : Int32} (hdg : decode cc pc = .ok (.iand, 1)) (hv : x &&& y = v) (hq : pc + 1 = q) (kk : G X M nL Q k n σ q lv (.int v :: st)) : G X M nL Q k n σ pc lv (.int y :: .int x :: st) := by
  subst hq
  subst hv
  exact fun H locs ls hP hS hl => lv_iand hC.x hC.b hdg (kk H locs ls hP hS hl)
theorem g_ior (hC : gOk X M own cc nL d mc ms) {x y v : Int32} (hdg : decode cc pc = .ok (.ior, 1)) (hv : x ||| y = v) (hq : pc + 1 = q) (kk : G X M nL Q k n σ q lv (.int v :: st)) : G X M nL Q k n σ pc lv (.int y :: .int x :: st) := by
  subst hq
  subst hv
  exact fun H locs ls hP hS hl => lv_ior hC.x hC.b hdg (kk H locs ls hP hS hl)
theorem g_ishl (hC : gOk X M own cc nL d mc ms) {x y v : Int32} (hdg : decode cc pc = .ok (.ishl, 1)) (hv : x <<< (y &&& 31) = v) (hq : pc + 1 = q) (kk : G X M nL Q k n σ q lv (.int v :: st)) : G X M nL Q k n σ pc lv (.int y :: .int x :: st) := by
  subst hq
  subst hv
  exact fun H locs ls hP hS hl => lv_ishl hC.x hC.b hdg (kk H locs ls hP hS hl)
theorem g_ishr (hC : gOk X M own cc nL d mc ms) {x y v : Int32} (hdg : decode cc pc = .ok (.ishr, 1)) (hv : x >>> (y &&& 31) = v) (hq : pc + 1 = q) (kk : G X M nL Q k n σ q lv (.int v :: st)) : G X M nL Q k n σ pc lv (.int y :: .int x :: st) := by
  subst hq
  subst hv
  exact fun H locs ls hP hS hl => lv_ishr hC.x hC.b hdg (kk H locs ls hP hS hl)
theorem g_irem (hC : gOk X M own cc nL d mc ms) {x y v : Int32} (hdg : decode cc pc = .ok (.irem, 1)) (hne : ¬ y = 0) (hv : x - x / y * y = v) (hq : pc + 1 = q) (kk : G X M nL Q k n σ q lv (.int v :: st)) : G X M nL Q k n σ pc lv (.int y :: .int x :: st) := by
  subst hq
  subst hv
  exact fun H locs ls hP hS hl => lv_irem hC.x hC.b hdg hne (kk H locs ls hP hS hl)
theorem g_ineg (hC : gOk X M own cc nL d mc ms) {x v : Int32} (hdg : decode cc pc = .ok (.ineg, 1)) (hv : -x = v) (hq : pc + 1 = q) (kk : G X M nL Q k n σ q lv (.int v :: st)) : G X M nL Q k n σ pc lv (.int x :: st) := by
  subst hq
  subst hv
  exact fun H locs ls hP hS hl => lv_ineg hC.x hC.b hdg (kk H locs ls hP hS hl)
theorem g_i2l (hC : gOk X M own cc nL d mc ms) {x : Int32} {v : Int64} (hdg : decode cc pc = .ok (.i2l, 1)) (hv : x.toInt64 = v) (hq : pc + 1 = q) (kk : G X M nL Q k n σ q lv (.long v :: st)) : G X M nL Q k n σ pc lv (.int x :: st) := by
  subst hq
  exact fun H locs ls hP hS hl => lv_i2l hC.x hC.b hdg hv (kk H locs ls hP hS hl)
theorem g_i2b (hC : gOk X M own cc nL d mc ms) {x v : Int32} (hdg : decode cc pc = .ok (.i2b, 1)) (hv : x.toInt8.toInt32 = v) (hq : pc + 1 = q) (kk : G X M nL Q k n σ q lv (.int v :: st)) : G X M nL Q k n σ pc lv (.int x :: st) := by
  subst hq
  exact fun H locs ls hP hS hl => lv_i2b hC.x hC.b hdg hv (kk H locs ls hP hS hl)
theorem g_i2c (hC : gOk X M own cc nL d mc ms) {x v : Int32} (hdg : decode cc pc = .ok (.i2c, 1)) (hv : (x.toUInt32 % 65536).toInt32 = v) (hq : pc + 1 = q) (kk : G X M nL Q k n σ q lv (.int v :: st)) : G X M nL Q k n σ pc lv (.int x :: st) := by
  subst hq
  exact fun H locs ls hP hS hl => lv_i2c hC.x hC.b hdg hv (kk H locs ls hP hS hl)
theorem g_ladd (hC : gOk X M own cc nL d mc ms) {x y v : Int64} (hdg : decode cc pc = .ok (.ladd, 1)) (hv : x + y = v) (hq : pc + 1 = q) (kk : G X M nL Q k n σ q lv (.long v :: st)) : G X M nL Q k n σ pc lv (.long y :: .long x :: st) := by
  subst hq
  subst hv
  exact fun H locs ls hP hS hl => lv_ladd hC.x hC.b hdg (kk H locs ls hP hS hl)
theorem g_lcmp (hC : gOk X M own cc nL d mc ms) {x y : Int64} {v : Int32} (hdg : decode cc pc = .ok (.lcmp, 1)) (hv : lg_cmp x y = v) (hq : pc + 1 = q) (kk : G X M nL Q k n σ q lv (.int v :: st)) : G X M nL Q k n σ pc lv (.long y :: .long x :: st) := by
  subst hq
  subst hv
  exact fun H locs ls hP hS hl => W.lcmp hC.x hC.b hdg (kk H locs ls hP hS hl)
theorem g_dup (hC : gOk X M own cc nL d mc ms) {u : Value} (hdg : decode cc pc = .ok (.dup, 1)) (hu : u.category = 1) (hq : pc + 1 = q) (kk : G X M nL Q k n σ q lv (u :: u :: st)) : G X M nL Q k n σ pc lv (u :: st) := by
  subst hq
  exact fun H locs ls hP hS hl => lv_dup hC.x hC.b hdg hu (kk H locs ls hP hS hl)
theorem g_pop (hC : gOk X M own cc nL d mc ms) {u : Value} (hdg : decode cc pc = .ok (.pop, 1)) (hu : u.category = 1) (hq : pc + 1 = q) (kk : G X M nL Q k n σ q lv st) : G X M nL Q k n σ pc lv (u :: st) := by
  subst hq
  exact fun H locs ls hP hS hl => lv_pop hC.x hC.b hdg hu (kk H locs ls hP hS hl)
theorem g_dup_x1 (hC : gOk X M own cc nL d mc ms) {u w : Value} (hdg : decode cc pc = .ok (.dup_x1, 1)) (hu : u.category = 1) (hw : w.category = 1) (hq : pc + 1 = q) (kk : G X M nL Q k n σ q lv (u :: w :: u :: st)) : G X M nL Q k n σ pc lv (u :: w :: st) := by
  subst hq
  exact fun H locs ls hP hS hl => lv_dup_x1 hC.x hC.b hdg hu hw (kk H locs ls hP hS hl)
theorem g_dup2 (hC : gOk X M own cc nL d mc ms) {u w : Value} (hdg : decode cc pc = .ok (.dup2, 1)) (hu : u.category = 1) (hw : w.category = 1) (hq : pc + 1 = q) (kk : G X M nL Q k n σ q lv (u :: w :: u :: w :: st)) : G X M nL Q k n σ pc lv (u :: w :: st) := by
  subst hq
  exact fun H locs ls hP hS hl => lv_dup2_11 hC.x hC.b hdg hu hw (kk H locs ls hP hS hl)
theorem g_if_eq (hC : gOk X M own cc nL d mc ms) {x : Int32} {off : Int} {tgt : Nat} (hdg : decode cc pc = .ok (.ifCond .eq off, 3)) (ht : (pc : Int) + off = (tgt : Int)) (hq : pc + 3 = q) (kt : x = 0 → G X M nL Q k n σ tgt lv st) (kf : ¬ (x = 0) → G X M nL Q k n σ q lv st) : G X M nL Q k n σ pc lv (.int x :: st) := by
  subst hq
  exact fun H locs ls hP hS hl => lv_if_eq hC.x hC.b hdg ht (fun c9 => kt c9 H locs ls hP hS hl) (fun c9 => kf c9 H locs ls hP hS hl)
theorem g_icmp_eq (hC : gOk X M own cc nL d mc ms) {x y : Int32} {off : Int} {tgt : Nat} (hdg : decode cc pc = .ok (.if_icmp .eq off, 3)) (ht : (pc : Int) + off = (tgt : Int)) (hq : pc + 3 = q) (kt : x = y → G X M nL Q k n σ tgt lv st) (kf : ¬ (x = y) → G X M nL Q k n σ q lv st) : G X M nL Q k n σ pc lv (.int y :: .int x :: st) := by
  subst hq
  exact fun H locs ls hP hS hl => lv_icmp_eq hC.x hC.b hdg ht (fun c9 => kt c9 H locs ls hP hS hl) (fun c9 => kf c9 H locs ls hP hS hl)
theorem g_if_ne (hC : gOk X M own cc nL d mc ms) {x : Int32} {off : Int} {tgt : Nat} (hdg : decode cc pc = .ok (.ifCond .ne off, 3)) (ht : (pc : Int) + off = (tgt : Int)) (hq : pc + 3 = q) (kt : ¬ x = 0 → G X M nL Q k n σ tgt lv st) (kf : x = 0 → G X M nL Q k n σ q lv st) : G X M nL Q k n σ pc lv (.int x :: st) := by
  subst hq
  exact fun H locs ls hP hS hl => lv_if_ne hC.x hC.b hdg ht (fun c9 => kt c9 H locs ls hP hS hl) (fun c9 => kf c9 H locs ls hP hS hl)
theorem g_icmp_ne (hC : gOk X M own cc nL d mc ms) {x y : Int32} {off : Int} {tgt : Nat} (hdg : decode cc pc = .ok (.if_icmp .ne off, 3)) (ht : (pc : Int) + off = (tgt : Int)) (hq : pc + 3 = q) (kt : ¬ x = y → G X M nL Q k n σ tgt lv st) (kf : x = y → G X M nL Q k n σ q lv st) : G X M nL Q k n σ pc lv (.int y :: .int x :: st) := by
  subst hq
  exact fun H locs ls hP hS hl => lv_icmp_ne hC.x hC.b hdg ht (fun c9 => kt c9 H locs ls hP hS hl) (fun c9 => kf c9 H locs ls hP hS hl)
theorem g_if_lt (hC : gOk X M own cc nL d mc ms) {x : Int32} {off : Int} {tgt : Nat} (hdg : decode cc pc = .ok (.ifCond .lt off, 3)) (ht : (pc : Int) + off = (tgt : Int)) (hq : pc + 3 = q) (kt : x < 0 → G X M nL Q k n σ tgt lv st) (kf : ¬ (x < 0) → G X M nL Q k n σ q lv st) : G X M nL Q k n σ pc lv (.int x :: st) := by
  subst hq
  exact fun H locs ls hP hS hl => lv_if_lt hC.x hC.b hdg ht (fun c9 => kt c9 H locs ls hP hS hl) (fun c9 => kf c9 H locs ls hP hS hl)
theorem g_icmp_lt (hC : gOk X M own cc nL d mc ms) {x y : Int32} {off : Int} {tgt : Nat} (hdg : decode cc pc = .ok (.if_icmp .lt off, 3)) (ht : (pc : Int) + off = (tgt : Int)) (hq : pc + 3 = q) (kt : x < y → G X M nL Q k n σ tgt lv st) (kf : ¬ (x < y) → G X M nL Q k n σ q lv st) : G X M nL Q k n σ pc lv (.int y :: .int x :: st) := by
  subst hq
  exact fun H locs ls hP hS hl => lv_icmp_lt hC.x hC.b hdg ht (fun c9 => kt c9 H locs ls hP hS hl) (fun c9 => kf c9 H locs ls hP hS hl)
theorem g_if_ge (hC : gOk X M own cc nL d mc ms) {x : Int32} {off : Int} {tgt : Nat} (hdg : decode cc pc = .ok (.ifCond .ge off, 3)) (ht : (pc : Int) + off = (tgt : Int)) (hq : pc + 3 = q) (kt : 0 ≤ x → G X M nL Q k n σ tgt lv st) (kf : ¬ (0 ≤ x) → G X M nL Q k n σ q lv st) : G X M nL Q k n σ pc lv (.int x :: st) := by
  subst hq
  exact fun H locs ls hP hS hl => lv_if_ge hC.x hC.b hdg ht (fun c9 => kt c9 H locs ls hP hS hl) (fun c9 => kf c9 H locs ls hP hS hl)
theorem g_icmp_ge (hC : gOk X M own cc nL d mc ms) {x y : Int32} {off : Int} {tgt : Nat} (hdg : decode cc pc = .ok (.if_icmp .ge off, 3)) (ht : (pc : Int) + off = (tgt : Int)) (hq : pc + 3 = q) (kt : y ≤ x → G X M nL Q k n σ tgt lv st) (kf : ¬ (y ≤ x) → G X M nL Q k n σ q lv st) : G X M nL Q k n σ pc lv (.int y :: .int x :: st) := by
  subst hq
  exact fun H locs ls hP hS hl => lv_icmp_ge hC.x hC.b hdg ht (fun c9 => kt c9 H locs ls hP hS hl) (fun c9 => kf c9 H locs ls hP hS hl)
theorem g_if_gt (hC : gOk X M own cc nL d mc ms) {x : Int32} {off : Int} {tgt : Nat} (hdg : decode cc pc = .ok (.ifCond .gt off, 3)) (ht : (pc : Int) + off = (tgt : Int)) (hq : pc + 3 = q) (kt : 0 < x → G X M nL Q k n σ tgt lv st) (kf : ¬ (0 < x) → G X M nL Q k n σ q lv st) : G X M nL Q k n σ pc lv (.int x :: st) := by
  subst hq
  exact fun H locs ls hP hS hl => lv_if_gt hC.x hC.b hdg ht (fun c9 => kt c9 H locs ls hP hS hl) (fun c9 => kf c9 H locs ls hP hS hl)
theorem g_icmp_gt (hC : gOk X M own cc nL d mc ms) {x y : Int32} {off : Int} {tgt : Nat} (hdg : decode cc pc = .ok (.if_icmp .gt off, 3)) (ht : (pc : Int) + off = (tgt : Int)) (hq : pc + 3 = q) (kt : y < x → G X M nL Q k n σ tgt lv st) (kf : ¬ (y < x) → G X M nL Q k n σ q lv st) : G X M nL Q k n σ pc lv (.int y :: .int x :: st) := by
  subst hq
  exact fun H locs ls hP hS hl => lv_icmp_gt hC.x hC.b hdg ht (fun c9 => kt c9 H locs ls hP hS hl) (fun c9 => kf c9 H locs ls hP hS hl)
theorem g_if_le (hC : gOk X M own cc nL d mc ms) {x : Int32} {off : Int} {tgt : Nat} (hdg : decode cc pc = .ok (.ifCond .le off, 3)) (ht : (pc : Int) + off = (tgt : Int)) (hq : pc + 3 = q) (kt : x ≤ 0 → G X M nL Q k n σ tgt lv st) (kf : ¬ (x ≤ 0) → G X M nL Q k n σ q lv st) : G X M nL Q k n σ pc lv (.int x :: st) := by
  subst hq
  exact fun H locs ls hP hS hl => lv_if_le hC.x hC.b hdg ht (fun c9 => kt c9 H locs ls hP hS hl) (fun c9 => kf c9 H locs ls hP hS hl)
theorem g_icmp_le (hC : gOk X M own cc nL d mc ms) {x y : Int32} {off : Int} {tgt : Nat} (hdg : decode cc pc = .ok (.if_icmp .le off, 3)) (ht : (pc : Int) + off = (tgt : Int)) (hq : pc + 3 = q) (kt : x ≤ y → G X M nL Q k n σ tgt lv st) (kf : ¬ (x ≤ y) → G X M nL Q k n σ q lv st) : G X M nL Q k n σ pc lv (.int y :: .int x :: st) := by
  subst hq
  exact fun H locs ls hP hS hl => lv_icmp_le hC.x hC.b hdg ht (fun c9 => kt c9 H locs ls hP hS hl) (fun c9 => kf c9 H locs ls hP hS hl)
theorem g_acmp_eq (hC : gOk X M own cc nL d mc ms) {rx ry : Option Nat} {off : Int} {tgt : Nat} (hdg : decode cc pc = .ok (.if_acmp .eq off, 3)) (ht : (pc : Int) + off = (tgt : Int)) (hq : pc + 3 = q) (kt : rx = ry → G X M nL Q k n σ tgt lv st) (kf : ¬ rx = ry → G X M nL Q k n σ q lv st) : G X M nL Q k n σ pc lv (va_rf ry :: va_rf rx :: st) := by
  subst hq
  exact fun H locs ls hP hS hl => lv_acmp_eq hC.x hC.b hdg ht (fun c9 => kt c9 H locs ls hP hS hl) (fun c9 => kf c9 H locs ls hP hS hl)
theorem g_acmp_ne (hC : gOk X M own cc nL d mc ms) {rx ry : Option Nat} {off : Int} {tgt : Nat} (hdg : decode cc pc = .ok (.if_acmp .ne off, 3)) (ht : (pc : Int) + off = (tgt : Int)) (hq : pc + 3 = q) (kt : ¬ rx = ry → G X M nL Q k n σ tgt lv st) (kf : rx = ry → G X M nL Q k n σ q lv st) : G X M nL Q k n σ pc lv (va_rf ry :: va_rf rx :: st) := by
  subst hq
  exact fun H locs ls hP hS hl => lv_acmp_ne hC.x hC.b hdg ht (fun c9 => kt c9 H locs ls hP hS hl) (fun c9 => kf c9 H locs ls hP hS hl)
theorem g_goto (hC : gOk X M own cc nL d mc ms) {off : Int} {tgt : Nat} (hdg : decode cc pc = .ok (.goto off, 3)) (ht : (pc : Int) + off = (tgt : Int)) (kk : G X M nL Q k n σ tgt lv st) : G X M nL Q k n σ pc lv st :=
  fun H locs ls hP hS hl => lv_goto hC.x hC.b hdg ht (kk H locs ls hP hS hl)
theorem g_ifnull (hC : gOk X M own cc nL d mc ms) {o : Option Nat} {off : Int} {tgt : Nat} (hdg : decode cc pc = .ok (.ifnull off, 3)) (ht : (pc : Int) + off = (tgt : Int)) (hq : pc + 3 = q) (kt : o = none → G X M nL Q k n σ tgt lv st) (kf : ∀ a, o = some a → G X M nL Q k n σ q lv st) : G X M nL Q k n σ pc lv (va_rf o :: st) := by
  subst hq
  cases o with
  | none => exact fun H locs ls hP hS hl => lv_ifnullN hC.x hC.b hdg ht (kt rfl H locs ls hP hS hl)
  | some a => exact fun H locs ls hP hS hl => lv_ifnull hC.x hC.b hdg (kf a rfl H locs ls hP hS hl)
theorem g_ifnonnull (hC : gOk X M own cc nL d mc ms) {o : Option Nat} {off : Int} {tgt : Nat} (hdg : decode cc pc = .ok (.ifnonnull off, 3)) (ht : (pc : Int) + off = (tgt : Int)) (hq : pc + 3 = q) (kt : ∀ a, o = some a → G X M nL Q k n σ tgt lv st) (kf : o = none → G X M nL Q k n σ q lv st) : G X M nL Q k n σ pc lv (va_rf o :: st) := by
  subst hq
  cases o with
  | none => exact fun H locs ls hP hS hl => lv_ifnonnullN hC.x hC.b hdg (kf rfl H locs ls hP hS hl)
  | some a => exact fun H locs ls hP hS hl => lv_ifnonnull hC.x hC.b hdg ht (kt a rfl H locs ls hP hS hl)
theorem g_sub {lv0 : List (Nat × Value)} (ha : gAll lv lv0) (kk : G X M nL Q k n σ pc lv0 st) : G X M nL Q k n σ pc lv st := fun H locs ls hP hS hl => kk H locs ls hP hS (hl.sub ha)
theorem g_widen {k9 n9 : Nat} (h1 : k ≤ k9) (h2 : n ≤ n9) (kk : G X M nL Q k9 n9 σ pc lv st) : G X M nL Q k n σ pc lv st := fun H locs ls hP hS hl => W.widen h1 h2 (kk H locs ls hP hS hl)
theorem g_eq {σ2 : gS} (h : σ = σ2) (kk : G X M nL Q k n σ2 pc lv st) : G X M nL Q k n σ pc lv st := h ▸ kk
theorem g_top {x y : Int32} (h : x = y) (kk : G X M nL Q k n σ pc lv (.int y :: st)) : G X M nL Q k n σ pc lv (.int x :: st) := h ▸ kk
def gFg (own : String) (index ci kf : Nat) : Prop := ∃ (C : String) (T : u_T) (N : Nat) (ref : String), gCl[ci]? = some (C, T, N) ∧ kf < N ∧ Cond.fieldLink own index ref (T kf).2.1 (T kf).2.2.1 ∈ wG ∧ ((T kf).1 = ref ∨ Cond.sameField ref (T kf).1 (T kf).2.1 (T kf).2.2.1 ∈ wG)
def gFl (own : String) (index ci kf : Nat) (ty : FieldType) (fin : Bool) : Prop := ∃ (C : String) (T : u_T) (N : Nat) (ref : String), gCl[ci]? = some (C, T, N) ∧ kf < N ∧ Cond.fieldLink own index ref (T kf).2.1 (T kf).2.2.1 ∈ wG ∧ ((T kf).1 = ref ∨ Cond.sameField ref (T kf).1 (T kf).2.1 (T kf).2.2.1 ∈ wG) ∧ parseFieldDescriptor (T kf).2.2.1 = some ty ∧ (T kf).2.2.2 = fin ∧ (fin = true → (T kf).1 = own)
theorem gCl_words : gCl.all (fun q => (u_ws q.1 q.2.1 q.2.2).all (fun w => decide (w ∈ lw_tbl) && goodWord w)) = true := by decide +kernel
theorem gCl_in {ci : Nat} {C : String} {T : u_T} {N : Nat} (h : gCl[ci]? = some (C, T, N)) : ∀ w ∈ u_ws C T N, w ∈ wG := by
  intro w hw
  have h1 := List.all_eq_true.mp gCl_words _ (List.mem_of_getElem? h)
  have h2 := List.all_eq_true.mp h1 w hw
  simp only [Bool.and_eq_true, decide_eq_true_eq] at h2
  exact wG_in h2.1 h2.2
theorem gCl_ty {ci : Nat} {C : String} {T : u_T} {N : Nat} (h : gCl[ci]? = some (C, T, N)) : ∃ ty : Nat → FieldType, (∀ j, j < N → parseFieldDescriptor (T j).2.2.1 = some (ty j)) ∧ ∀ a, a < N → ∀ b, b < N → a ≠ b → (T a).2.1 ≠ (T b).2.1 := by
  match ci, h with
  | 0, h => cases h; exact ⟨tyX0, tyX0_ok, nmX0⟩
  | 1, h => cases h; exact ⟨tyX1, tyX1_ok, nmX1⟩
  | 2, h => cases h; exact ⟨tyX2, tyX2_ok, nmX2⟩
  | 3, h => cases h; exact ⟨tyX3, tyX3_ok, nmX3⟩
  | 4, h => cases h; exact ⟨tyX4, tyX4_ok, nmX4⟩
  | 5, h => cases h; exact ⟨tyX5, tyX5_ok, nmX5⟩
  | 6, h => cases h; exact ⟨tyJx4a65c, tyJx4a65c_ok, nmJx4a65c⟩
  | 7, h => cases h; exact ⟨tyJ4, tyJ4_ok, nmJ4⟩
  | j + 8, h => simp [gCl] at h
theorem gFl.same {kf : Nat} {ref : String} {T : u_T} (hC : gOk X M own cc nL d mc ms) (h : (T kf).1 = ref ∨ Cond.sameField ref (T kf).1 (T kf).2.1 (T kf).2.2.1 ∈ wG) : ∀ x, (xs X).fieldFound? (T kf).1 (T kf).2.1 (T kf).2.2.1 = some x → (xs X).fieldFound? ref (T kf).2.1 (T kf).2.2.1 = some x := by
  intro x hx
  rcases h with rfl | h
  · exact hx
  · exact u_same (hC.ts h) x hx
theorem g_getf (hC : gOk X M own cc nL d mc ms) {a ci kf index : Nat} {fs : List Value} {v : Value} (hf : gFg own index ci kf) (hdg : decode cc pc = .ok (.getfield index, 3)) (hσ : σ a = some (oB ci fs)) (hv : fs[kf]? = some v) (hq : pc + 3 = q) (kk : G X M nL Q k n σ q lv (v :: st)) : G X M nL Q k n σ pc lv (.ref a :: st) := by
  subst hq
  obtain ⟨C, T, N, ref, hc, hkN, hlk, hsm⟩ := hf
  intro H locs ls hP hS hl
  exact va_get (ci := ci) (fs := fs) (v := v) hC.x hC.b hC.2.2.2.2.1 (gCl_in hc) hC.ow hC.k (hP.one hσ) 0 rfl hc kf hkN (hC.ts hlk) (gFl.same hC hsm) hv hdg (kk H locs ls hP hS hl)
theorem g_putf (hC : gOk X M own cc nL d mc ms) {a ci kf index : Nat} {fs : List Value} {v : Value} {ty : FieldType} (hf : gFl own index ci kf ty false) (hdg : decode cc pc = .ok (.putfield index, 3)) (hσ : σ a = some (oB ci fs)) (hl9 : kf < fs.length) (hn : narrow ty v = v) (hfit : fits ty v = true) (hq : pc + 3 = q) (kk : G X M nL Q k n (gUp σ a (oB ci (fs.set kf v))) q lv st) : G X M nL Q k n σ pc lv (v :: .ref a :: st) := by
  subst hq
  obtain ⟨C, T, N, ref, hc, hkN, hlk, hsm, hd, hfin, hown⟩ := hf
  obtain ⟨ty0, hty, hnm⟩ := gCl_ty hc
  intro H locs ls hP hS0 hl
  have hK := hC.k
  have hts := hC.2.2.2.2.1
  have hin := gCl_in hc
  have hap := va_apart (own := own) hts hin ty0 hty hnm hK hc
  obtain ⟨⟨r, h1, cell, q1, q2, q3, q4⟩, hba⟩ := hP a _ hσ
  have hr : r = (C, T, N) := Option.some.inj (h1.symm.trans hc)
  subst hr
  obtain ⟨hS, hfc, kC, hkC, hkind⟩ := hK.1 ci _ hc
  obtain ⟨cf, kf2, fi, f, hi, hsl⟩ := hS kf hkN
  have hlay := hts _ (hin _ (u_in_lay hkN))
  unfold u_lay at hlay
  have hst := (u_facts hfc hkC (u_lays hts hin hkN) hi).1
  have hsame := gFl.same hC hsm
  rw [if_neg (by rw [hfin]; decide)] at hlay
  have h6 := u_store hfc hkC hkind hlay hi hd hn hfit
  refine W.putK hC.x hC.b (f := f) ⟨hC.ow, hC.ts hlk, ⟨_, _, _, hsame _ hi⟩, hst⟩ (by rw [q2]; exact h6) q1 q3 (by rw [hsl]; exact k2_hasslot (q4 kf hkN)) rfl rfl hdg fun H' e1 e2 e3 => ?_
  rw [hsl] at e1 ⊢
  exact kk H' _ ls (hP.up (e := oB ci (fs.set kf v)) ⟨_, hc, t_OB.to (V := updV (vp_V fs) kf v) ⟨_, e1, q2, q3, t_set q4 hap hkN v⟩ (fun j _ => vp_updV_set hl9 v j)⟩ hba (fun z hz _ => e3 z hz)) (hS0.put e2 e3 hba) hl
theorem g_putF (hC : gOk X M own cc nL d mc ms) {a ci kf index : Nat} {fs : List Value} {v : Value} {ty : FieldType} {ret : Option FieldType} (hR : gRet X ret "<init>") (hf : gFl own index ci kf ty true) (hdg : decode cc pc = .ok (.putfield index, 3)) (hσ : σ a = some (oB ci fs)) (hl9 : kf < fs.length) (hn : narrow ty v = v) (hfit : fits ty v = true) (hq : pc + 3 = q) (kk : G X M nL Q k n (gUp σ a (oB ci (fs.set kf v))) q lv st) : G X M nL Q k n σ pc lv (v :: .ref a :: st) := by
  subst hq
  obtain ⟨C, T, N, ref, hc, hkN, hlk, hsm, hd, hfin, hown⟩ := hf
  obtain ⟨ty0, hty, hnm⟩ := gCl_ty hc
  intro H locs ls hP hS0 hl
  have hK := hC.k
  have hts := hC.2.2.2.2.1
  have hin := gCl_in hc
  have hap := va_apart (own := own) hts hin ty0 hty hnm hK hc
  obtain ⟨⟨r, h1, cell, q1, q2, q3, q4⟩, hba⟩ := hP a _ hσ
  have hr : r = (C, T, N) := Option.some.inj (h1.symm.trans hc)
  subst hr
  obtain ⟨hS, hfc, kC, hkC, hkind⟩ := hK.1 ci _ hc
  obtain ⟨cf, kf2, fi, f, hi, hsl⟩ := hS kf hkN
  have hlay := hts _ (hin _ (u_in_lay hkN))
  unfold u_lay at hlay
  have hst := (u_facts hfc hkC (u_lays hts hin hkN) hi).1
  have hsame := gFl.same hC hsm
  rw [if_pos hfin] at hlay
  have hcf : (xm X).cls = cf := by
    obtain ⟨_, _, c', _, _, _, -, -, hf', -, -, -, hown2, -⟩ := Cond.laysFinal_spec hlay
    have e1 : c' = cf := by have := hi.symm.trans hf'; simp at this; exact this.1.symm
    have hdecl : (T kf).1 = own := hown rfl
    rw [hdecl] at hown2
    rw [← e1]; exact Option.some.inj (hC.ow.symm.trans hown2)
  have h6 := u_fits hfc hkC hkind (Or.inr hlay) hi hd hn hfit
  refine W.putFinK hC.x hC.b hC.ow (hC.ts hlk) (hsame _ hi) hst hcf hR.2.2 (by rw [q2]; exact h6) q1 q3 (by rw [hsl]; exact k2_hasslot (q4 kf hkN)) rfl rfl hdg fun H' e1 e2 e3 => ?_
  rw [hsl] at e1 ⊢
  exact kk H' _ ls (hP.up (e := oB ci (fs.set kf v)) ⟨_, hc, t_OB.to (V := updV (vp_V fs) kf v) ⟨_, e1, q2, q3, t_set q4 hap hkN v⟩ (fun j _ => vp_updV_set hl9 v j)⟩ hba (fun z hz _ => e3 z hz)) (hS0.put e2 e3 hba) hl
theorem g_putf2 (hC : gOk X M own cc nL d mc ms) {a ci kf index : Nat} {fs : List Value} {v : Value} {ty : FieldType} (hf : gFl own index ci kf ty false) (hdg : decode cc pc = .ok (.putfield index, 3)) (hl9 : kf < fs.length) (hn : narrow ty v = v) (hfit : fits ty v = true) (hq : pc + 3 = q) (kk : G X M nL Q k n (gUp σ a (oB ci (fs.set kf v))) q lv st) : G X M nL Q k n (gUp σ a (oB ci fs)) pc lv (v :: .ref a :: st) := by
  refine g_putf hC hf hdg (gUp_self _ _ _) hl9 hn hfit hq ?_
  rw [gUp_up]
  exact kk
theorem g_putF2 (hC : gOk X M own cc nL d mc ms) {a ci kf index : Nat} {fs : List Value} {v : Value} {ty : FieldType} {ret : Option FieldType} (hR : gRet X ret "<init>") (hf : gFl own index ci kf ty true) (hdg : decode cc pc = .ok (.putfield index, 3)) (hl9 : kf < fs.length) (hn : narrow ty v = v) (hfit : fits ty v = true) (hq : pc + 3 = q) (kk : G X M nL Q k n (gUp σ a (oB ci (fs.set kf v))) q lv st) : G X M nL Q k n (gUp σ a (oB ci fs)) pc lv (v :: .ref a :: st) := by
  refine g_putF hC hR hf hdg (gUp_self _ _ _) hl9 hn hfit hq ?_
  rw [gUp_up]
  exact kk
theorem g_getsE (hC : gOk X M own cc nL d mc ms) {index : Nat} (hlk : Cond.fieldLink own index "java/util/ArrayList" "DEFAULTCAPACITY_EMPTY_ELEMENTDATA" "[Ljava/lang/Object;" ∈ wG) (hdg : decode cc pc = .ok (.getstatic index, 3)) (hq : pc + 3 = q) (kk : G X M nL Q k n σ q lv (.ref (gE M) :: st)) : G X M nL Q k n σ pc lv st := by
  subst hq
  exact fun H locs ls hP hS hl => va_gets hC.x hC.b hC.amb.2.2.1 hS hC.ow (hC.ts hlk) (fun _ h9 => h9) hdg (kk H locs ls hP hS hl)
theorem g_getsC (hC : gOk X M own cc nL d mc ms) {index : Nat} (hlk : Cond.fieldLink own index "java/lang/String" "COMPACT_STRINGS" "Z" ∈ wG) (hdg : decode cc pc = .ok (.getstatic index, 3)) (hq : pc + 3 = q) (kk : G X M nL Q k n σ q lv (.int 1 :: st)) : G X M nL Q k n σ pc lv st := by
  subst hq
  exact fun H locs ls hP hS hl => va_gets hC.x hC.b hC.amb.2.2.2.1 hS hC.ow (hC.ts hlk) (fun _ h9 => h9) hdg (kk H locs ls hP hS hl)
theorem g_iald (hC : gOk X M own cc nL d mc ms) {a len : Nat} {f : Nat → Int32} {i v : Int32} (hdg : decode cc pc = .ok (.iaload, 1)) (hσ : σ a = some (aI M 2 len f)) (hin : vp_in i len) (hv : f i.toNatClampNeg = v) (hq : pc + 1 = q) (kk : G X M nL Q k n σ q lv (.int v :: st)) : G X M nL Q k n σ pc lv (.int i :: .ref a :: st) := by
  subst hq
  subst hv
  exact fun H locs ls hP hS hl => va_iald hC.x hC.b hC.k (hP.one hσ) 0 2 rfl rfl hin hdg (kk H locs ls hP hS hl)
theorem g_iast (hC : gOk X M own cc nL d mc ms) {a len : Nat} {f : Nat → Int32} {i x : Int32} (hdg : decode cc pc = .ok (.iastore, 1)) (hσ : σ a = some (aI M 2 len f)) (hin : vp_in i len) (hq : pc + 1 = q) (kk : G X M nL Q k n (gUp σ a (aI M 2 len (upd f i.toNatClampNeg x))) q lv st) : G X M nL Q k n σ pc lv (.int x :: .int i :: .ref a :: st) := by
  subst hq
  intro H locs ls hP hS hl
  have hba := (hP a _ hσ).2
  refine W.iast hC.x hC.b (hP a _ hσ).1 ((hC.k.2 2 _ rfl).1 len (fun j => .int (f j))) (fun h => by cases h) (by show ¬ (i < 0 ∨ (arrV _ _ _).slots.size ≤ _); rw [arrV_size]; exact hin) rfl rfl hdg fun H1 e z oq => ?_
  refine kk H1 _ ls (hP.up (e := aI M 2 len (upd f i.toNatClampNeg x)) ?_ hba (fun y hy _ => oq y hy)) (hS.put z oq hba) hl
  show H1[a]? = some (vp_cell _ _)
  rw [e]
  show some ((vp_cell _ _).setSlot _ _) = _
  rw [vp_cell_i, vp_cell_i, arrV_store]
  congr 2
  funext y
  by_cases hy : y = i.toNatClampNeg
  · subst hy
    simp [updV, upd]
    try rfl
  · simp [updV, upd, hy]
theorem g_bald (hC : gOk X M own cc nL d mc ms) {a len : Nat} {f : Nat → Int32} {i v : Int32} (hdg : decode cc pc = .ok (.baload, 1)) (hσ : σ a = some (aI M 0 len f)) (hin : vp_in i len) (hv : f i.toNatClampNeg = v) (hq : pc + 1 = q) (kk : G X M nL Q k n σ q lv (.int v :: st)) : G X M nL Q k n σ pc lv (.int i :: .ref a :: st) := by
  subst hq
  subst hv
  exact fun H locs ls hP hS hl => va_bald hC.x hC.b hC.k (hP.one hσ) 0 0 rfl rfl hin hdg (kk H locs ls hP hS hl)
theorem g_bast (hC : gOk X M own cc nL d mc ms) {a len : Nat} {f : Nat → Int32} {i x : Int32} (hdg : decode cc pc = .ok (.bastore, 1)) (hσ : σ a = some (aI M 0 len f)) (hin : vp_in i len) (hq : pc + 1 = q) (kk : G X M nL Q k n (gUp σ a (aI M 0 len (upd f i.toNatClampNeg (vp_nar .byte x)))) q lv st) : G X M nL Q k n σ pc lv (.int x :: .int i :: .ref a :: st) := by
  subst hq
  intro H locs ls hP hS hl
  have hba := (hP a _ hσ).2
  refine W.bast hC.x hC.b (hP a _ hσ).1 ((hC.k.2 0 _ rfl).1 len (fun j => .int (f j))) (fun h => by cases h) (by show ¬ (i < 0 ∨ (arrV _ _ _).slots.size ≤ _); rw [arrV_size]; exact hin) rfl rfl hdg fun H1 e z oq => ?_
  refine kk H1 _ ls (hP.up (e := aI M 0 len (upd f i.toNatClampNeg (vp_nar .byte x))) ?_ hba (fun y hy _ => oq y hy)) (hS.put z oq hba) hl
  show H1[a]? = some (vp_cell _ _)
  rw [e]
  show some ((vp_cell _ _).setSlot _ _) = _
  rw [vp_cell_i, vp_cell_i, arrV_store]
  congr 2
  funext y
  by_cases hy : y = i.toNatClampNeg
  · subst hy
    simp [updV, upd, vp_nar]
    try rfl
  · simp [updV, upd, hy]
theorem g_zald (hC : gOk X M own cc nL d mc ms) {a len : Nat} {f : Nat → Int32} {i v : Int32} (hdg : decode cc pc = .ok (.baload, 1)) (hσ : σ a = some (aI M 3 len f)) (hin : vp_in i len) (hv : f i.toNatClampNeg = v) (hq : pc + 1 = q) (kk : G X M nL Q k n σ q lv (.int v :: st)) : G X M nL Q k n σ pc lv (.int i :: .ref a :: st) := by
  subst hq
  subst hv
  exact fun H locs ls hP hS hl => va_zald hC.x hC.b hC.k (hP.one hσ) 0 3 rfl rfl hin hdg (kk H locs ls hP hS hl)
theorem g_zast (hC : gOk X M own cc nL d mc ms) {a len : Nat} {f : Nat → Int32} {i x : Int32} (hdg : decode cc pc = .ok (.bastore, 1)) (hσ : σ a = some (aI M 3 len f)) (hin : vp_in i len) (hq : pc + 1 = q) (kk : G X M nL Q k n (gUp σ a (aI M 3 len (upd f i.toNatClampNeg (vp_nar .boolean x)))) q lv st) : G X M nL Q k n σ pc lv (.int x :: .int i :: .ref a :: st) := by
  subst hq
  intro H locs ls hP hS hl
  have hba := (hP a _ hσ).2
  refine W.zast hC.x hC.b (hP a _ hσ).1 ((hC.k.2 3 _ rfl).1 len (fun j => .int (f j))) (fun h => by cases h) (by show ¬ (i < 0 ∨ (arrV _ _ _).slots.size ≤ _); rw [arrV_size]; exact hin) rfl rfl hdg fun H1 e z oq => ?_
  refine kk H1 _ ls (hP.up (e := aI M 3 len (upd f i.toNatClampNeg (vp_nar .boolean x))) ?_ hba (fun y hy _ => oq y hy)) (hS.put z oq hba) hl
  show H1[a]? = some (vp_cell _ _)
  rw [e]
  show some ((vp_cell _ _).setSlot _ _) = _
  rw [vp_cell_i, vp_cell_i, arrV_store]
  congr 2
  funext y
  by_cases hy : y = i.toNatClampNeg
  · subst hy
    simp [updV, upd, vp_nar]
    try rfl
  · simp [updV, upd, hy]
theorem g_cald (hC : gOk X M own cc nL d mc ms) {a len : Nat} {f : Nat → Int32} {i v : Int32} (hdg : decode cc pc = .ok (.caload, 1)) (hσ : σ a = some (aI M 1 len f)) (hin : vp_in i len) (hv : f i.toNatClampNeg = v) (hq : pc + 1 = q) (kk : G X M nL Q k n σ q lv (.int v :: st)) : G X M nL Q k n σ pc lv (.int i :: .ref a :: st) := by
  subst hq
  subst hv
  exact fun H locs ls hP hS hl => va_cald hC.x hC.b hC.k (hP.one hσ) 0 1 rfl rfl hin hdg (kk H locs ls hP hS hl)
theorem g_cast (hC : gOk X M own cc nL d mc ms) {a len : Nat} {f : Nat → Int32} {i x : Int32} (hdg : decode cc pc = .ok (.castore, 1)) (hσ : σ a = some (aI M 1 len f)) (hin : vp_in i len) (hq : pc + 1 = q) (kk : G X M nL Q k n (gUp σ a (aI M 1 len (upd f i.toNatClampNeg (vp_nar .char x)))) q lv st) : G X M nL Q k n σ pc lv (.int x :: .int i :: .ref a :: st) := by
  subst hq
  intro H locs ls hP hS hl
  have hba := (hP a _ hσ).2
  refine W.cast hC.x hC.b (hP a _ hσ).1 ((hC.k.2 1 _ rfl).1 len (fun j => .int (f j))) (fun h => by cases h) (by show ¬ (i < 0 ∨ (arrV _ _ _).slots.size ≤ _); rw [arrV_size]; exact hin) rfl rfl hdg fun H1 e z oq => ?_
  refine kk H1 _ ls (hP.up (e := aI M 1 len (upd f i.toNatClampNeg (vp_nar .char x))) ?_ hba (fun y hy _ => oq y hy)) (hS.put z oq hba) hl
  show H1[a]? = some (vp_cell _ _)
  rw [e]
  show some ((vp_cell _ _).setSlot _ _) = _
  rw [vp_cell_i, vp_cell_i, arrV_store]
  congr 2
  funext y
  by_cases hy : y = i.toNatClampNeg
  · subst hy
    simp [updV, upd, vp_nar]
    try rfl
  · simp [updV, upd, hy]
theorem g_lald (hC : gOk X M own cc nL d mc ms) {a len : Nat} {f : Nat → Int64} {i : Int32} {v : Int64} (hdg : decode cc pc = .ok (.laload, 1)) (hσ : σ a = some (aL M len f)) (hin : vp_in i len) (hv : f i.toNatClampNeg = v) (hq : pc + 1 = q) (kk : G X M nL Q k n σ q lv (.long v :: st)) : G X M nL Q k n σ pc lv (.int i :: .ref a :: st) := by
  subst hq
  subst hv
  exact fun H locs ls hP hS hl => va_lald hC.x hC.b hC.k (hP.one hσ) 0 4 rfl rfl hin hdg (kk H locs ls hP hS hl)
theorem g_last (hC : gOk X M own cc nL d mc ms) {a len : Nat} {f : Nat → Int64} {i : Int32} {x : Int64} (hdg : decode cc pc = .ok (.lastore, 1)) (hσ : σ a = some (aL M len f)) (hin : vp_in i len) (hq : pc + 1 = q) (kk : G X M nL Q k n (gUp σ a (aL M len (vp_updL f i.toNatClampNeg x))) q lv st) : G X M nL Q k n σ pc lv (.long x :: .int i :: .ref a :: st) := by
  subst hq
  intro H locs ls hP hS hl
  have hba := (hP a _ hσ).2
  refine W.last hC.x hC.b (hP a _ hσ).1 ((hC.k.2 4 _ rfl).1 len (fun j => .long (f j))) (fun h => by cases h) (by show ¬ (i < 0 ∨ (arrV _ _ _).slots.size ≤ _); rw [arrV_size]; exact hin) rfl rfl hdg fun H1 e z oq => ?_
  refine kk H1 _ ls (hP.up (e := aL M len (vp_updL f i.toNatClampNeg x)) ?_ hba (fun y hy _ => oq y hy)) (hS.put z oq hba) hl
  show H1[a]? = some (vp_cell _ _)
  rw [e]
  show some ((vp_cell _ _).setSlot _ _) = _
  rw [vp_cell_l, vp_cell_l, arrV_store]
  congr 2
  funext y
  by_cases hy : y = i.toNatClampNeg
  · subst hy
    simp [updV, vp_updL]
  · simp [updV, vp_updL, hy]
theorem g_aald (hC : gOk X M own cc nL d mc ms) {a len : Nat} {f : Nat → Option Nat} {i : Int32} {v : Option Nat} (hdg : decode cc pc = .ok (.aaload, 1)) (hσ : σ a = some (aQ M len f)) (hin : vp_in i len) (hv : f i.toNatClampNeg = v) (hq : pc + 1 = q) (kk : G X M nL Q k n σ q lv (va_rf v :: st)) : G X M nL Q k n σ pc lv (.int i :: .ref a :: st) := by
  subst hq
  subst hv
  exact fun H locs ls hP hS hl => va_aldq hC.x hC.b hC.k (hP.one hσ) 0 5 (C := "java/lang/Object") rfl rfl hin hdg (kk H locs ls hP hS hl)
theorem g_alenI (hC : gOk X M own cc nL d mc ms) {a len t : Nat} {f : Nat → Int32} {v : Int32} (ht : t < 4) (hdg : decode cc pc = .ok (.arraylength, 1)) (hσ : σ a = some (aI M t len f)) (hv : Int32.ofNat len = v) (hq : pc + 1 = q) (kk : G X M nL Q k n σ q lv (.int v :: st)) : G X M nL Q k n σ pc lv (.ref a :: st) := by
  subst hq
  intro H locs ls hP hS hl
  match t, ht with
  | 0, _ => exact va_alen hC.x hC.b hC.k (hP.one hσ) 0 0 (x := (len, .inl f)) rfl rfl hv hdg (kk H locs ls hP hS hl)
  | 1, _ => exact va_alen hC.x hC.b hC.k (hP.one hσ) 0 1 (x := (len, .inl f)) rfl rfl hv hdg (kk H locs ls hP hS hl)
  | 2, _ => exact va_alen hC.x hC.b hC.k (hP.one hσ) 0 2 (x := (len, .inl f)) rfl rfl hv hdg (kk H locs ls hP hS hl)
  | 3, _ => exact va_alen hC.x hC.b hC.k (hP.one hσ) 0 3 (x := (len, .inl f)) rfl rfl hv hdg (kk H locs ls hP hS hl)
theorem g_alenQ (hC : gOk X M own cc nL d mc ms) {a len : Nat} {f : Nat → Option Nat} {v : Int32} (hdg : decode cc pc = .ok (.arraylength, 1)) (hσ : σ a = some (aQ M len f)) (hv : Int32.ofNat len = v) (hq : pc + 1 = q) (kk : G X M nL Q k n σ q lv (.int v :: st)) : G X M nL Q k n σ pc lv (.ref a :: st) := by
  subst hq
  exact fun H locs ls hP hS hl => va_alen hC.x hC.b hC.k (hP.one hσ) 0 5 (x := (len, .inr (.inr (.inr (.inr f))))) rfl rfl hv hdg (kk H locs ls hP hS hl)
/-- the length of ArrayList's empty array -/
theorem g_alenE (hC : gOk X M own cc nL d mc ms) (hdg : decode cc pc = .ok (.arraylength, 1)) (hq : pc + 1 = q) (kk : G X M nL Q k n σ q lv (.int 0 :: st)) : G X M nL Q k n σ pc lv (.ref (gE M) :: st) := by
  subst hq
  intro H locs ls hP hS hl
  have hA := (hC.at hS).2.1.1
  exact W.alen (n := 0) hC.x hC.b hA ((hC.k.2 5 _ rfl).1 0 (fun _ => .null)) (by show (arrV _ _ _).slots.size.toInt32 = 0; rw [arrV_size]; rfl) rfl rfl hdg (kk H locs ls hP hS hl)
def gNw (own : String) (index ci : Nat) (C : String) (T : u_T) (N : Nat) : Prop := gCl[ci]? = some (C, T, N) ∧ Cond.classLink own index C ∈ wG ∧ Cond.instantiable C N ∈ wG ∧ Cond.initialized C ∈ wG
theorem g_new (hC : gOk X M own cc nL d mc ms) {index ci : Nat} {C : String} {T : u_T} {N : Nat} {ty : Nat → FieldType} {fs : List Value} (hw : gNw own index ci C T N) (hty : ∀ j, j < N → parseFieldDescriptor (T j).2.2.1 = some (ty j)) (hdg : decode cc pc = .ok (.new index, 3)) (hfs : ∀ j, j < N → defaultValue (ty j) = vp_V fs j) (h1 : k + 1 ≤ mc) (h2 : n + N ≤ ms) (hq : pc + 3 = q)
    (kk : ∀ a : Nat, σ a = none → G X M nL Q (k + 1) (n + N) (gUp σ a (oB ci fs)) q lv (.ref a :: st)) : G X M nL Q k n σ pc lv st := by
  subst hq
  obtain ⟨hc, w1, w2, w3⟩ := hw
  intro H locs ls hP hS hl
  have hKn := hC.k.1 ci _ hc
  refine W.newcK hC.x hC.b hC.ow (hC.ts w1) (hC.ts w2) (hC.ts w3) rfl hdg (Nat.le_trans h1 hC.2.2.2.2.2.2.2.2.1) (Nat.le_trans h2 hC.2.2.2.2.2.2.2.2.2.1) hKn.2.1 rfl fun H1 kC hkC e1 z1 o1 => ?_
  refine kk H.size hP.fresh H1 locs ls (hP.up (e := oB ci fs) ⟨_, hc, (u_born ty hC.2.2.2.2.1 (gCl_in hc) hKn hkC e1 hty).to hfs⟩ (Nat.le_trans hC.base hS.1) (fun y _ hy => o1 y hy)) ⟨Nat.le_trans hS.1 (by omega), fun x g1 g2 => (o1 x (Nat.lt_of_lt_of_le g1 hS.1)).trans (hS.2.1 x g1 g2), hS.2.2⟩ hl
theorem g_newa (hC : gOk X M own cc nL d mc ms) {atype : ArrayType} {t : Nat} {ty : FieldType} {i : Int32} {len : Nat} {x9 : vp_A} (hw : Cond.arrayClass (newarray.typeOf atype) ∈ wG) (hty : newarray.typeOf atype = ty) (ht : (gTys M)[t]? = some (gk M t, ty)) (hcell : ∀ cA : ClassId, vp_cell cA x9 = arrV cA len (fun _ => defaultValue ty)) (hi : ¬ i < 0) (hlen : i.toNatClampNeg = len) (hb9 : len * componentBytes ty ≤ 536870912) (hdg : decode cc pc = .ok (.newarray atype, 2)) (h1 : k + 1 ≤ mc) (h2 : n + len ≤ ms) (hq : pc + 2 = q)
    (kk : ∀ a : Nat, σ a = none → G X M nL Q (k + 1) (n + len) (gUp σ a (.inl (gk M t, x9))) q lv (.ref a :: st)) : G X M nL Q k n σ pc lv (.int i :: st) := by
  subst hq
  subst hty
  intro H locs ls hP hS hl
  refine va_newaK hC.x hC.b (hC.ts hw) rfl hdg rfl hi hlen hb9 (Nat.le_trans h1 hC.2.2.2.2.2.2.2.2.1) (Nat.le_trans h2 hC.2.2.2.2.2.2.2.2.2.1) rfl fun H1 cA e1 z1 o1 hAr hNm => ?_
  have hRA := (hC.k.2 t _ ht).2
  have hcA : cA = gk M t := by
    have h9 : (xs X).vm.findClass ("[" ++ (newarray.typeOf atype).toString) = some (gk M t) := by cases atype <;> exact hRA
    exact Option.some.inj (hNm.symm.trans h9)
  subst hcA
  refine kk H.size hP.fresh H1 locs ls (hP.up (e := .inl (gk M t, x9)) ?_ (Nat.le_trans hC.base hS.1) (fun y _ hy => o1 y hy)) ⟨Nat.le_trans hS.1 (by omega), fun x g1 g2 => (o1 x (Nat.lt_of_lt_of_le g1 hS.1)).trans (hS.2.1 x g1 g2), hS.2.2⟩ hl
  show H1[H.size]? = some (vp_cell _ _)
  rw [hcell]
  exact e1
end GR
end
section
/-! ===== calls, ends and throws ===== -/
section GC
variable {X : gX} {M : gMT} {own : String} {cc : ByteArray} {nL d mc ms : Nat} {Q : State → Prop} {k n : Nat} {σ : gS} {pc q : Nat} {lv : List (Nat × Value)} {st st0 rest : List Value}
variable {P : Option Value → gS → Prop} {PX : String → gS → Prop}
/-- a call's run, at every heap that the map holds of -/
def gRun (X : gX) (M : gMT) (nL k n mc9 ms9 : Nat) (σ : gS) (pc : Nat) (lv : List (Nat × Value)) (st0 rest : List Value) (P : Option Value → gS → Prop) (PX : String → gS → Prop) : Prop :=
  ∀ (H : Heap) (locs : List Loc) (ls : Array Slot), gRep M σ H → va_S (gA M) (xs X).heap H locs → lOk ls nL lv →
    vx_Run (xp X) (xl X) (xe X) (xR X) (xs X) (xm X) (xa X) (xbl X) (xmt X) (xc X) H locs k n mc9 ms9 (F0 (xm X) pc ls st0) rest (fun st o t => ∃ (v : Option Value) (σ : gS), o = .returned v ∧ P v σ ∧ gRep M σ t.heap ∧ va_F (gA M) st t) (gXC M PX) (gA M)
theorem g_call {mc9 ms9 : Nat} (hr : gRun X M nL k n mc9 ms9 σ pc lv st0 rest P PX) (hq : pc + 3 = q) (kk : ∀ v σ2, P v σ2 → G X M nL Q (k + mc9) (n + ms9) σ2 q lv (v.toList ++ rest)) (kx : ∀ E σ2, PX E σ2 → GX X M nL Q (k + mc9) (n + ms9) σ2 pc lv E) : G X M nL Q k n σ pc lv st0 := by
  subst hq
  intro H locs ls hP hS hl T hT X0
  rcases hr H locs ls hP hS hl T hT X0 with ⟨v, st₀, t, T', L, h0, X', hL, e1, e2, ⟨v', σ', hv, hp, hR, hF⟩, st⟩ | ⟨q, st₀, t, T', L, E, ce, h0, X', hL, e1, e2, ⟨σ', hp, hR, hF⟩, hce, hcv, hcl, st⟩
  · cases hv
    obtain ⟨-, -, k3⟩ := vx_keep h0 e1 hS (fun _ _ h => h) (fun _ h => h) hL hF
    obtain ⟨t2, a1, b1⟩ := kk v σ' hp T'.heap (locs ++ L) ls (by rw [e1]; exact hR) k3 hl T' rfl X'
    exact ⟨t2, st t2 a1, b1⟩
  · obtain ⟨-, -, k3⟩ := vx_keep h0 e1 hS (fun _ _ h => h) (fun _ h => h) hL hF
    obtain ⟨t2, a1, b1⟩ := kx E σ' hp T'.heap (locs ++ L) ls rest q ce (by rw [e1]; exact hR) k3 hl (by rw [e1]; exact hce) hcv hcl T' rfl X'
    exact ⟨t2, st.trans a1, b1⟩
/-- what a method gives: an int, nothing, a reference, a reference or null -/
def rI (P : Int32 → gS → Prop) : Option Value → gS → Prop := fun v σ => ∃ r : Int32, v = some (.int r) ∧ P r σ
def rV (P : gS → Prop) : Option Value → gS → Prop := fun v σ => v = none ∧ P σ
def rR (P : Nat → gS → Prop) : Option Value → gS → Prop := fun v σ => ∃ r : Nat, v = some (.ref r) ∧ P r σ
def rQ (P : Option Nat → gS → Prop) : Option Value → gS → Prop := fun v σ => ∃ r : Option Nat, v = some (va_rf r) ∧ P r σ
def nX : String → gS → Prop := fun _ _ => False
theorem g_ci {mc9 ms9 : Nat} {P : Int32 → gS → Prop} (hr : gRun X M nL k n mc9 ms9 σ pc lv st0 rest (rI P) PX) (hq : pc + 3 = q) (kk : ∀ r σ2, P r σ2 → G X M nL Q (k + mc9) (n + ms9) σ2 q lv (.int r :: rest)) (kx : ∀ E σ2, PX E σ2 → GX X M nL Q (k + mc9) (n + ms9) σ2 pc lv E) : G X M nL Q k n σ pc lv st0 :=
  g_call hr hq (fun v σ2 h => by obtain ⟨r, rfl, h⟩ := h; exact kk r σ2 h) kx
theorem g_cv {mc9 ms9 : Nat} {P : gS → Prop} (hr : gRun X M nL k n mc9 ms9 σ pc lv st0 rest (rV P) PX) (hq : pc + 3 = q) (kk : ∀ σ2, P σ2 → G X M nL Q (k + mc9) (n + ms9) σ2 q lv rest) (kx : ∀ E σ2, PX E σ2 → GX X M nL Q (k + mc9) (n + ms9) σ2 pc lv E) : G X M nL Q k n σ pc lv st0 :=
  g_call hr hq (fun v σ2 h => by obtain ⟨rfl, h⟩ := h; exact kk σ2 h) kx
theorem g_cr {mc9 ms9 : Nat} {P : Nat → gS → Prop} (hr : gRun X M nL k n mc9 ms9 σ pc lv st0 rest (rR P) PX) (hq : pc + 3 = q) (kk : ∀ r σ2, P r σ2 → G X M nL Q (k + mc9) (n + ms9) σ2 q lv (.ref r :: rest)) (kx : ∀ E σ2, PX E σ2 → GX X M nL Q (k + mc9) (n + ms9) σ2 pc lv E) : G X M nL Q k n σ pc lv st0 :=
  g_call hr hq (fun v σ2 h => by obtain ⟨r, rfl, h⟩ := h; exact kk r σ2 h) kx
theorem g_cq {mc9 ms9 : Nat} {P : Option Nat → gS → Prop} (hr : gRun X M nL k n mc9 ms9 σ pc lv st0 rest (rQ P) PX) (hq : pc + 3 = q) (kk : ∀ r σ2, P r σ2 → G X M nL Q (k + mc9) (n + ms9) σ2 q lv (va_rf r :: rest)) (kx : ∀ E σ2, PX E σ2 → GX X M nL Q (k + mc9) (n + ms9) σ2 pc lv E) : G X M nL Q k n σ pc lv st0 :=
  g_call hr hq (fun v σ2 h => by obtain ⟨r, rfl, h⟩ := h; exact kk r σ2 h) kx
/-- the words of a call: its place in the caller's pool -/
def gMd (y : MethodName) (cw : Cond) (na : Nat) : Prop := Cond.initialized y.cls ∈ wG ∧ cw ∈ wG ∧ (y.cls ≠ "java/lang/invoke/MethodHandle" ∧ y.cls ≠ "java/lang/invoke/VarHandle") ∧ (parseMethodDescriptor y.desc).map (fun d => d.parameters.length) = some na
theorem gMd.len {y : MethodName} {cw : Cond} {na : Nat} (h : gMd y cw na) : ∀ sig, parseMethodDescriptor y.desc = some sig → na = sig.parameters.length := by
  intro sig hs
  have h2 := h.2.2.2
  rw [hs] at h2
  exact (Option.some.inj h2).symm
theorem gPre (hC : gOk X M own cc nL d mc ms) {av : List Value} {H : Heap} {locs : List Loc} (hP : gRep M σ H) (hS : va_S (gA M) (xs X).heap H locs) : ∀ U : State, U.heap = H → (xs X).WarmedH U.vm → gPc M av σ av.toArray U :=
  fun U hU hW => ⟨rfl, gAmb.warm hW (by rw [hU]; exact hC.at hS), by rw [hU]; exact hP, by rw [hU]; exact Nat.le_trans hC.base hS.1⟩
theorem gRecv (hC : gOk X M own cc nL d mc ms) {b ci : Nat} {C : String} {T : u_T} {N : Nat} {fs : List Value} {H : Heap} (hP : gRep M σ H) (hc : gCl[ci]? = some (C, T, N)) (hb : σ b = some (oB ci fs)) : ∃ cell : Cell, H[b]? = some cell ∧ cell.vm.isStatics = false ∧ (xs X).vm.findClass C = some cell.cls :=
  va_recv (q := (C, T, N)) hC.k (hP.one hb) (q0 := 0) hc rfl
theorem gRm {d9 mc9 ms9 maxL : Nat} (hC : gOk X M own cc nL d mc ms) (hd : d9 < d) (hm : maxL ≤ 40) : (gRoom d9 mc9 ms9).frames + 1 ≤ (xR X).frames ∧ 8 + (maxL + 11) + (gRoom d9 mc9 ms9).locals ≤ (xR X).locals := by
  have h1 := hC.2.2.2.2.2.2.1
  have h2 := hC.2.2.2.2.2.2.2.1
  show d9 + 1 ≤ _ ∧ 8 + (maxL + 11) + 64 * d9 ≤ _
  omega
theorem gFt {mc9 ms9 : Nat} (hC : gOk X M own cc nL d mc ms) (hk : k + mc9 ≤ mc) (hn : n + ms9 ≤ ms) : k + mc9 ≤ (xR X).cells ∧ n + ms9 ≤ (xR X).slots := ⟨Nat.le_trans hk hC.2.2.2.2.2.2.2.2.1, Nat.le_trans hn hC.2.2.2.2.2.2.2.2.2.1⟩
def gVl (own : String) (index : Nat) (C : String) (y : MethodName) : Prop := Cond.methodLink own index y ∈ wG ∧ Cond.instanceMethod y ∈ wG ∧ Cond.selects C y y ∈ wG
theorem g_runV (hC : gOk X M own cc nL d mc ms) {index ci b na d9 mc9 ms9 maxL : Nat} {C : String} {T : u_T} {N : Nat} {y : MethodName} {bytes : ByteArray} {ret : Option FieldType} {As fs : List Value} (hw : gVl own index C y) (hm : gMd y (.code y bytes maxL ret) na) (hcon : Con (xl X) M y (.code y bytes maxL ret) d9 mc9 ms9 (.ref b :: As) σ P PX) (hc : gCl[ci]? = some (C, T, N)) (hb : σ b = some (oB ci fs)) (hdg : decode cc pc = .ok (.invokevirtual index, 3)) (hd : d9 < d) (hml : maxL ≤ 40) (hk : k + mc9 ≤ mc) (hn : n + ms9 ≤ ms) (hna : As.length = na) (hst : st0 = As.reverse ++ .ref b :: rest) (hcat : (rest.map fun v => v.category).sum ≤ 8) : gRun X M nL k n mc9 ms9 σ pc lv st0 rest P PX := by
  intro H locs ls hP hS hl
  obtain ⟨hr1, hr2⟩ := gRm (maxL := maxL) (mc9 := mc9) (ms9 := ms9) hC hd hml
  exact vx_runV (As := As) (C := C) hC.fix hcon ⟨⟨rfl, rfl, hr1, hr2, wG_pay hC.2.2.2.2.1 hm.2.1, List.mem_cons_self, hC.ts hm.2.1, hC.ts hm.1, hm.2.2.1, hm.len, hC.ts hw.1⟩, hC.ts hw.2.1, hC.ts hw.2.2⟩ ⟨gPc_blind, gRecv hC hP hc hb, gPre hC hP hS⟩ rfl hna hl.1 hst (lv_room hcat) hdg (gFt hC hk hn)
def gSl (own : String) (index : Nat) (y : MethodName) : Prop := Cond.methodLink own index y ∈ wG ∧ Cond.static y ∈ wG
theorem g_runS (hC : gOk X M own cc nL d mc ms) {index na d9 mc9 ms9 maxL : Nat} {y : MethodName} {bytes : ByteArray} {ret : Option FieldType} {As : List Value} (hw : gSl own index y) (hm : gMd y (.code y bytes maxL ret) na) (hcon : Con (xl X) M y (.code y bytes maxL ret) d9 mc9 ms9 As σ P PX) (hdg : decode cc pc = .ok (.invokestatic index, 3)) (hd : d9 < d) (hml : maxL ≤ 40) (hk : k + mc9 ≤ mc) (hn : n + ms9 ≤ ms) (hna : As.length = na) (hst : st0 = As.reverse ++ rest) (hcat : (rest.map fun v => v.category).sum ≤ 8) : gRun X M nL k n mc9 ms9 σ pc lv st0 rest P PX := by
  intro H locs ls hP hS hl
  obtain ⟨hr1, hr2⟩ := gRm (maxL := maxL) (mc9 := mc9) (ms9 := ms9) hC hd hml
  exact vx_runS (As := As) hC.fix hcon ⟨⟨rfl, rfl, hr1, hr2, wG_pay hC.2.2.2.2.1 hm.2.1, List.mem_cons_self, hC.ts hm.2.1, hC.ts hm.1, hm.2.2.1, hm.len, hC.ts hw.1⟩, hC.ts hw.2⟩ ⟨gPc_blind, gPre hC hP hS⟩ rfl hna hl.1 hst (lv_room hcat) hdg (gFt hC hk hn)
def gIl (own : String) (index : Nat) (y : MethodName) : Prop := Cond.methodLink own index y ∈ wG ∧ Cond.instanceMethod y ∈ wG ∧ y.name = "<init>"
theorem g_runI (hC : gOk X M own cc nL d mc ms) {index b na d9 mc9 ms9 maxL : Nat} {y : MethodName} {bytes : ByteArray} {As : List Value} (hw : gIl own index y) (hm : gMd y (.code y bytes maxL none) na) (hcon : Con (xl X) M y (.code y bytes maxL none) d9 mc9 ms9 (.ref b :: As) σ P PX) (hdg : decode cc pc = .ok (.invokespecial index, 3)) (hd : d9 < d) (hml : maxL ≤ 40) (hk : k + mc9 ≤ mc) (hn : n + ms9 ≤ ms) (hna : As.length = na) (hst : st0 = As.reverse ++ .ref b :: rest) (hcat : (rest.map fun v => v.category).sum ≤ 8) : gRun X M nL k n mc9 ms9 σ pc lv st0 rest P PX := by
  intro H locs ls hP hS hl
  obtain ⟨hr1, hr2⟩ := gRm (maxL := maxL) (mc9 := mc9) (ms9 := ms9) hC hd hml
  exact vx_runI (As := As) hC.fix hcon ⟨⟨rfl, rfl, hr1, hr2, wG_pay hC.2.2.2.2.1 hm.2.1, List.mem_cons_self, hC.ts hm.2.1, hC.ts hm.1, hm.2.2.1, hm.len, hC.ts hw.1⟩, hw.2.2, hC.ts hw.2.1⟩ ⟨gPc_blind, gPre hC hP hS⟩ rfl hna hl.1 hst (lv_room hcat) hdg (gFt hC hk hn)
/-- Object() -/
theorem g_objInit (hC : gOk X M own cc nL d mc ms) {index a : Nat} (hw : Cond.methodLink own index objectInit ∈ wG ∧ Cond.instanceMethod objectInit ∈ wG ∧ Cond.code objectInit ⟨#[0xb1]⟩ 1 none ∈ wG) (hdg : decode cc pc = .ok (.invokespecial index, 3)) (hd : 1 ≤ d) (hcat : (st.map fun v => v.category).sum ≤ 8) (hq : pc + 3 = q) (kk : G X M nL Q k n σ q lv st) : G X M nL Q k n σ pc lv (.ref a :: st) := by
  subst hq
  intro H locs ls hP hS hl
  have h1 := hC.2.2.2.2.2.2.1
  have h2 := hC.2.2.2.2.2.2.2.1
  refine W.objInit hC.x hC.b hC.ow (hC.ts hw.1) (hC.ts hw.2.1) (hC.ts hw.2.2) rfl (hl.1.trans hC.nl.symm) rfl hdg (by omega) ?_ (kk H locs ls hP hS hl)
  have h3 := lv_room (m := xm X) (pc := pc) (ls := ls) (rest := .ref a :: st) hcat
  omega
/-! ===== ends ===== -/
theorem g_iret {ret : Option FieldType} {nm : String} {v : Int32} (hC : gOk X M own cc nL d mc ms) (hR : gRet X (some .int) nm) (hdg : decode cc pc = .ok (.ireturn, 1)) (hk : k ≤ mc) (hn : n ≤ ms) (hp : P (some (.int v)) σ) : G X M nL (gQ X M mc ms P PX) k n σ pc lv [.int v] := by
  intro H locs ls hP hS hl
  refine W.widen hk hn (vx_ret ?_)
  exact W.iret (v := v) hC.x hC.b hR.1 (fun t ht hW => ⟨_, σ, rfl, hp, by rw [ht]; exact hP, hS.F ht⟩) hS.2.2 hdg hR.2.1
theorem g_zret {ty : FieldType} {nm : String} {v : Int32} (hC : gOk X M own cc nL d mc ms) (hR : gRet X (some ty) nm) (hz : narrow ty (.int v) = .int v) (hdg : decode cc pc = .ok (.ireturn, 1)) (hk : k ≤ mc) (hn : n ≤ ms) (hp : P (some (.int v)) σ) : G X M nL (gQ X M mc ms P PX) k n σ pc lv [.int v] := by
  intro H locs ls hP hS hl
  refine W.widen hk hn (vx_ret ?_)
  exact W.zret (v := v) hC.x hC.b hR.1 hz (fun t ht hW => ⟨_, σ, rfl, hp, by rw [ht]; exact hP, hS.F ht⟩) hS.2.2 hdg hR.2.1
theorem g_vret {nm : String} (hC : gOk X M own cc nL d mc ms) (hR : gRet X none nm) (hdg : decode cc pc = .ok (.return_, 1)) (hk : k ≤ mc) (hn : n ≤ ms) (hp : P none σ) : G X M nL (gQ X M mc ms P PX) k n σ pc lv [] := by
  intro H locs ls hP hS hl
  refine W.widen hk hn (vx_ret ?_)
  exact W.vret hC.x hC.b hR.1 (fun t ht hW => ⟨_, σ, rfl, hp, by rw [ht]; exact hP, hS.F ht⟩) hS.2.2 hdg hR.2.1
theorem g_aret {rt : FieldType} {nm : String} {o : Option Nat} (hC : gOk X M own cc nL d mc ms) (hR : gRet X (some rt) nm) (hrt : (∃ z, rt = .object z) ∨ ∃ t, rt = .array t) (hdg : decode cc pc = .ok (.areturn, 1)) (hk : k ≤ mc) (hn : n ≤ ms) (hp : P (some (va_rf o)) σ) : G X M nL (gQ X M mc ms P PX) k n σ pc lv [va_rf o] := by
  intro H locs ls hP hS hl
  refine W.widen hk hn (vx_ret ?_)
  exact W.aret (v := va_rf o) hC.x hC.b hR.1 hrt (va_rf_or o) (fun t ht hW => ⟨_, σ, rfl, hp, by rw [ht]; exact hP, hS.F ht⟩) hS.2.2 hdg hR.2.1
/-- an exception that goes on to the caller -/
theorem g_out {ret : Option FieldType} {nm : String} {E : String} (hR : gRet X ret nm) (htb : ∀ x ∈ (xc X).exceptionTable.toList, False) (hk : k ≤ mc) (hn : n ≤ ms) (hp : PX E σ) : GX X M nL (gQ X M mc ms P PX) k n σ pc lv E := by
  intro H locs ls rest q ce hP hS hl hc hv hcl
  exact vx_out (fun x hx => (htb x hx).elim) hR.2.1 hc hv hcl (fun t ht hW => ⟨σ, hp, by rw [ht]; exact hP, hS.F ht⟩) hS.2.2 hk hn
def gUl (own : String) (index : Nat) (y : MethodName) : Prop := Cond.methodLink own index y ∈ wG ∧ Cond.sameMethod y.cls y.cls y.name y.desc ∈ wG ∧ Cond.superclass own y.cls ∈ wG ∧ Cond.instanceMethod y ∈ wG ∧ y.name ≠ "<init>"
/-- 'super.f(..)' -/
theorem g_runSU (hC : gOk X M own cc nL d mc ms) {index ci b na d9 mc9 ms9 maxL : Nat} {C : String} {T : u_T} {N : Nat} {y : MethodName} {bytes : ByteArray} {ret : Option FieldType} {As fs : List Value} (hw : gUl own index y) (hm : gMd y (.code y bytes maxL ret) na) (hcon : Con (xl X) M y (.code y bytes maxL ret) d9 mc9 ms9 (.ref b :: As) σ P PX) (hc : gCl[ci]? = some (C, T, N)) (hb : σ b = some (oB ci fs)) (hdg : decode cc pc = .ok (.invokespecial index, 3)) (hd : d9 < d) (hml : maxL ≤ 40) (hk : k + mc9 ≤ mc) (hn : n + ms9 ≤ ms) (hna : As.length = na) (hst : st0 = As.reverse ++ .ref b :: rest) (hcat : (rest.map fun v => v.category).sum ≤ 8) : gRun X M nL k n mc9 ms9 σ pc lv st0 rest P PX := by
  intro H locs ls hP hS hl
  obtain ⟨hr1, hr2⟩ := gRm (maxL := maxL) (mc9 := mc9) (ms9 := ms9) hC hd hml
  exact vx_runSU (As := As) (C := C) (hC.k.1 ci _ hc).2 hC.fix hcon ⟨⟨rfl, rfl, hr1, hr2, wG_pay hC.2.2.2.2.1 hm.2.1, List.mem_cons_self⟩, hC.ts hw.1, hC.ts hw.2.1, hC.ts hw.2.2.1, hC.ts hw.2.2.2.1, hC.ts hm.1, hC.ts hm.2.1, hw.2.2.2.2, hm.len⟩ ⟨gPc_blind, gRecv hC hP hc hb, gPre hC hP hS⟩ rfl hna hl.1 hst (lv_room hcat) hdg (gFt hC hk hn)
/-- a nest mate's private constructor -/
theorem g_runIN (hC : gOk X M own cc nL d mc ms) {index b na d9 mc9 ms9 maxL : Nat} {host : String} {y : MethodName} {bytes : ByteArray} {As : List Value} (hw : (own, index, y, host) ∈ gNest) (hi : Cond.instanceMethod y ∈ wG ∧ y.name = "<init>") (hm : gMd y (.code y bytes maxL none) na) (hcon : Con (xl X) M y (.code y bytes maxL none) d9 mc9 ms9 (.ref b :: As) σ P PX) (hdg : decode cc pc = .ok (.invokespecial index, 3)) (hd : d9 < d) (hml : maxL ≤ 40) (hk : k + mc9 ≤ mc) (hn : n + ms9 ≤ ms) (hna : As.length = na) (hst : st0 = As.reverse ++ .ref b :: rest) (hcat : (rest.map fun v => v.category).sum ≤ 8) : gRun X M nL k n mc9 ms9 σ pc lv st0 rest P PX := by
  intro H locs ls hP hS hl
  obtain ⟨hr1, hr2⟩ := gRm (maxL := maxL) (mc9 := mc9) (ms9 := ms9) hC hd hml
  have hnst := hC.amb.2.2.2.2.2.2.2.2.2.2.2.1 _ hw
  exact vx_runIN (As := As) hC.fix hcon ⟨⟨⟨rfl, rfl, hr1, hr2, wG_pay hC.2.2.2.2.1 hm.2.1, List.mem_cons_self⟩, hC.ts hm.2.1, hC.ts hm.1, hm.2.2.1, hm.len, va_Nw.use rfl hnst⟩, hi.2, hC.ts hi.1⟩ ⟨gPc_blind, gPre hC hP hS⟩ rfl hna hl.1 hst (lv_room hcat) hdg (gFt hC hk hn)
end GC
end
section
/-! ===== the words of the instructions, by program (wip/whole/gen_links.py) ===== -/
theorem tb_1 {w : Cond} (h : w ∈ tables_1_1) : w ∈ lw_tbl := List.mem_append_right _ (List.mem_append_left _ h)
theorem tb_2 {w : Cond} (h : w ∈ tables_1_2) : w ∈ lw_tbl := List.mem_append_right _ (List.mem_append_right _ (List.mem_append_left _ h))
theorem tb_3 {w : Cond} (h : w ∈ tables_1_3) : w ∈ lw_tbl := List.mem_append_right _ (List.mem_append_right _ (List.mem_append_right _ (List.mem_append_left _ h)))
theorem tb_4 {w : Cond} (h : w ∈ tables_1_4) : w ∈ lw_tbl := List.mem_append_right _ (List.mem_append_right _ (List.mem_append_right _ (List.mem_append_right _ (List.mem_append_left _ h))))
theorem tb_5 {w : Cond} (h : w ∈ tables_1_5) : w ∈ lw_tbl := List.mem_append_right _ (List.mem_append_right _ (List.mem_append_right _ (List.mem_append_right _ (List.mem_append_right _ (List.mem_append_left _ h)))))
theorem tb_6 {w : Cond} (h : w ∈ tables_1_6) : w ∈ lw_tbl := List.mem_append_right _ (List.mem_append_right _ (List.mem_append_right _ (List.mem_append_right _ (List.mem_append_right _ (List.mem_append_right _ (h))))))
theorem tp_1 {y : MethodName} {i : Nat} (h : (y, i) ∈ lw_privs_1) : Cond.selects y.cls y y ∈ lw_tbl := List.mem_append_left _ (List.mem_map.mpr ⟨(y, i), List.mem_append_left _ h, rfl⟩)
theorem tp_2 {y : MethodName} {i : Nat} (h : (y, i) ∈ lw_privs_2) : Cond.selects y.cls y y ∈ lw_tbl := List.mem_append_left _ (List.mem_map.mpr ⟨(y, i), List.mem_append_right _ (List.mem_append_left _ h), rfl⟩)
theorem tp_3 {y : MethodName} {i : Nat} (h : (y, i) ∈ lw_privs_3) : Cond.selects y.cls y y ∈ lw_tbl := List.mem_append_left _ (List.mem_map.mpr ⟨(y, i), List.mem_append_right _ (List.mem_append_right _ (h)), rfl⟩)
/-! methods: their code words -/
theorem md_X0_init : gMd yX0_init (.code yX0_init cX0_init 1 (Option.none : Option FieldType)) 0 := ⟨(wG_in (tb_1 (List.mem_of_getElem? (i := 9) (by decide +kernel))) (by decide +kernel)), (wG_in (tb_1 (List.mem_of_getElem? (i := 102) (by decide +kernel))) (by decide +kernel)), by decide +kernel, by decide +kernel⟩
theorem md_X0_add : gMd yX0_add (.code yX0_add cX0_add 3 (Option.none : Option FieldType)) 2 := ⟨(wG_in (tb_1 (List.mem_of_getElem? (i := 9) (by decide +kernel))) (by decide +kernel)), (wG_in (tb_4 (List.mem_of_getElem? (i := 50) (by decide +kernel))) (by decide +kernel)), by decide +kernel, by decide +kernel⟩
theorem md_X0_noteOver : gMd yX0_noteOver (.code yX0_noteOver cX0_noteOver 3 (Option.none : Option FieldType)) 1 := ⟨(wG_in (tb_1 (List.mem_of_getElem? (i := 9) (by decide +kernel))) (by decide +kernel)), (wG_in (tb_4 (List.mem_of_getElem? (i := 58) (by decide +kernel))) (by decide +kernel)), by decide +kernel, by decide +kernel⟩
theorem md_X0_graceLeft : gMd yX0_graceLeft (.code yX0_graceLeft cX0_graceLeft 2 (Option.some FieldType.int)) 1 := ⟨(wG_in (tb_1 (List.mem_of_getElem? (i := 9) (by decide +kernel))) (by decide +kernel)), (wG_in (tb_4 (List.mem_of_getElem? (i := 129) (by decide +kernel))) (by decide +kernel)), by decide +kernel, by decide +kernel⟩
theorem md_X0_blocksLeft : gMd yX0_blocksLeft (.code yX0_blocksLeft cX0_blocksLeft 2 (Option.some FieldType.int)) 1 := ⟨(wG_in (tb_1 (List.mem_of_getElem? (i := 9) (by decide +kernel))) (by decide +kernel)), (wG_in (tb_4 (List.mem_of_getElem? (i := 125) (by decide +kernel))) (by decide +kernel)), by decide +kernel, by decide +kernel⟩
theorem md_X0_bars : gMd yX0_bars (.code yX0_bars cX0_bars 7 (Option.some FieldType.boolean)) 3 := ⟨(wG_in (tb_1 (List.mem_of_getElem? (i := 9) (by decide +kernel))) (by decide +kernel)), (wG_in (tb_4 (List.mem_of_getElem? (i := 121) (by decide +kernel))) (by decide +kernel)), by decide +kernel, by decide +kernel⟩
theorem md_X1_init : gMd yX1_init (.code yX1_init cX1_init 4 (Option.none : Option FieldType)) 3 := ⟨(wG_in (tb_1 (List.mem_of_getElem? (i := 14) (by decide +kernel))) (by decide +kernel)), (wG_in (tb_1 (List.mem_of_getElem? (i := 200) (by decide +kernel))) (by decide +kernel)), by decide +kernel, by decide +kernel⟩
theorem md_X1_letters : gMd yX1_letters (.code yX1_letters cX1_letters 3 (Option.some FieldType.int)) 0 := ⟨(wG_in (tb_1 (List.mem_of_getElem? (i := 14) (by decide +kernel))) (by decide +kernel)), (wG_in (tb_4 (List.mem_of_getElem? (i := 22) (by decide +kernel))) (by decide +kernel)), by decide +kernel, by decide +kernel⟩
theorem md_X1_isWithin : gMd yX1_isWithin (.code yX1_isWithin cX1_isWithin 3 (Option.some FieldType.boolean)) 1 := ⟨(wG_in (tb_1 (List.mem_of_getElem? (i := 14) (by decide +kernel))) (by decide +kernel)), (wG_in (tb_4 (List.mem_of_getElem? (i := 14) (by decide +kernel))) (by decide +kernel)), by decide +kernel, by decide +kernel⟩
theorem md_X2_init : gMd yX2_init (.code yX2_init cX2_init 3 (Option.none : Option FieldType)) 2 := ⟨(wG_in (tb_1 (List.mem_of_getElem? (i := 30) (by decide +kernel))) (by decide +kernel)), (wG_in (tb_4 (List.mem_of_getElem? (i := 172) (by decide +kernel))) (by decide +kernel)), by decide +kernel, by decide +kernel⟩
theorem md_X3_init : gMd yX3_init (.code yX3_init cX3_init 5 (Option.none : Option FieldType)) 4 := ⟨(wG_in (tb_1 (List.mem_of_getElem? (i := 29) (by decide +kernel))) (by decide +kernel)), (wG_in (tb_4 (List.mem_of_getElem? (i := 87) (by decide +kernel))) (by decide +kernel)), by decide +kernel, by decide +kernel⟩
theorem md_X4_init : gMd yX4_init (.code yX4_init cX4_init 2 (Option.none : Option FieldType)) 0 := ⟨(wG_in (tb_1 (List.mem_of_getElem? (i := 1) (by decide +kernel))) (by decide +kernel)), (wG_in (tb_1 (List.mem_of_getElem? (i := 35) (by decide +kernel))) (by decide +kernel)), by decide +kernel, by decide +kernel⟩
theorem md_X4_type : gMd yX4_type (.code yX4_type cX4_type 2 (Option.some FieldType.int)) 1 := ⟨(wG_in (tb_1 (List.mem_of_getElem? (i := 1) (by decide +kernel))) (by decide +kernel)), (wG_in (tb_3 (List.mem_of_getElem? (i := 167) (by decide +kernel))) (by decide +kernel)), by decide +kernel, by decide +kernel⟩
theorem md_X4_back : gMd yX4_back (.code yX4_back cX4_back 1 (Option.some FieldType.int)) 0 := ⟨(wG_in (tb_1 (List.mem_of_getElem? (i := 1) (by decide +kernel))) (by decide +kernel)), (wG_in (tb_3 (List.mem_of_getElem? (i := 210) (by decide +kernel))) (by decide +kernel)), by decide +kernel, by decide +kernel⟩
theorem md_X4_clearPath : gMd yX4_clearPath (.code yX4_clearPath cX4_clearPath 2 (Option.some FieldType.int)) 0 := ⟨(wG_in (tb_1 (List.mem_of_getElem? (i := 1) (by decide +kernel))) (by decide +kernel)), (wG_in (tb_2 (List.mem_of_getElem? (i := 18) (by decide +kernel))) (by decide +kernel)), by decide +kernel, by decide +kernel⟩
theorem md_X4_makeProject : gMd yX4_makeProject (.code yX4_makeProject cX4_makeProject 4 (Option.some FieldType.int)) 0 := ⟨(wG_in (tb_1 (List.mem_of_getElem? (i := 1) (by decide +kernel))) (by decide +kernel)), (wG_in (tb_3 (List.mem_of_getElem? (i := 218) (by decide +kernel))) (by decide +kernel)), by decide +kernel, by decide +kernel⟩
theorem md_X4_findProject : gMd yX4_findProject (.code yX4_findProject cX4_findProject 2 (Option.some FieldType.int)) 0 := ⟨(wG_in (tb_1 (List.mem_of_getElem? (i := 1) (by decide +kernel))) (by decide +kernel)), (wG_in (tb_3 (List.mem_of_getElem? (i := 111) (by decide +kernel))) (by decide +kernel)), by decide +kernel, by decide +kernel⟩
theorem md_X4_moveProject : gMd yX4_moveProject (.code yX4_moveProject cX4_moveProject 4 (Option.some FieldType.int)) 1 := ⟨(wG_in (tb_1 (List.mem_of_getElem? (i := 1) (by decide +kernel))) (by decide +kernel)), (wG_in (tb_3 (List.mem_of_getElem? (i := 229) (by decide +kernel))) (by decide +kernel)), by decide +kernel, by decide +kernel⟩
theorem md_X4_letterAt : gMd yX4_letterAt (.code yX4_letterAt cX4_letterAt 6 (Option.some FieldType.char)) 2 := ⟨(wG_in (tb_1 (List.mem_of_getElem? (i := 1) (by decide +kernel))) (by decide +kernel)), (wG_in (tb_4 (List.mem_of_getElem? (i := 69) (by decide +kernel))) (by decide +kernel)), by decide +kernel, by decide +kernel⟩
theorem md_X4_projects : gMd yX4_projects (.code yX4_projects cX4_projects 1 (Option.some FieldType.int)) 0 := ⟨(wG_in (tb_1 (List.mem_of_getElem? (i := 1) (by decide +kernel))) (by decide +kernel)), (wG_in (tb_3 (List.mem_of_getElem? (i := 154) (by decide +kernel))) (by decide +kernel)), by decide +kernel, by decide +kernel⟩
theorem md_X4_makeFile : gMd yX4_makeFile (.code yX4_makeFile cX4_makeFile 8 (Option.some FieldType.int)) 2 := ⟨(wG_in (tb_1 (List.mem_of_getElem? (i := 1) (by decide +kernel))) (by decide +kernel)), (wG_in (tb_4 (List.mem_of_getElem? (i := 77) (by decide +kernel))) (by decide +kernel)), by decide +kernel, by decide +kernel⟩
theorem md_X4_write : gMd yX4_write (.code yX4_write cX4_write 5 (Option.some FieldType.int)) 2 := ⟨(wG_in (tb_1 (List.mem_of_getElem? (i := 1) (by decide +kernel))) (by decide +kernel)), (wG_in (tb_4 (List.mem_of_getElem? (i := 140) (by decide +kernel))) (by decide +kernel)), by decide +kernel, by decide +kernel⟩
theorem md_X4_delete : gMd yX4_delete (.code yX4_delete cX4_delete 6 (Option.some FieldType.int)) 1 := ⟨(wG_in (tb_1 (List.mem_of_getElem? (i := 1) (by decide +kernel))) (by decide +kernel)), (wG_in (tb_4 (List.mem_of_getElem? (i := 153) (by decide +kernel))) (by decide +kernel)), by decide +kernel, by decide +kernel⟩
theorem md_X4_moveFile : gMd yX4_moveFile (.code yX4_moveFile cX4_moveFile 7 (Option.some FieldType.int)) 2 := ⟨(wG_in (tb_1 (List.mem_of_getElem? (i := 1) (by decide +kernel))) (by decide +kernel)), (wG_in (tb_4 (List.mem_of_getElem? (i := 160) (by decide +kernel))) (by decide +kernel)), by decide +kernel, by decide +kernel⟩
theorem md_X4_reserve : gMd yX4_reserve (.code yX4_reserve cX4_reserve 5 (Option.some FieldType.int)) 2 := ⟨(wG_in (tb_1 (List.mem_of_getElem? (i := 1) (by decide +kernel))) (by decide +kernel)), (wG_in (tb_4 (List.mem_of_getElem? (i := 167) (by decide +kernel))) (by decide +kernel)), by decide +kernel, by decide +kernel⟩
theorem md_X4_settle : gMd yX4_settle (.code yX4_settle cX4_settle 4 (Option.some FieldType.int)) 2 := ⟨(wG_in (tb_1 (List.mem_of_getElem? (i := 1) (by decide +kernel))) (by decide +kernel)), (wG_in (tb_4 (List.mem_of_getElem? (i := 193) (by decide +kernel))) (by decide +kernel)), by decide +kernel, by decide +kernel⟩
theorem md_X4_setLimits : gMd yX4_setLimits (.code yX4_setLimits cX4_setLimits 7 (Option.none : Option FieldType)) 5 := ⟨(wG_in (tb_1 (List.mem_of_getElem? (i := 1) (by decide +kernel))) (by decide +kernel)), (wG_in (tb_4 (List.mem_of_getElem? (i := 201) (by decide +kernel))) (by decide +kernel)), by decide +kernel, by decide +kernel⟩
theorem md_X4_pass : gMd yX4_pass (.code yX4_pass cX4_pass 2 (Option.some FieldType.int)) 1 := ⟨(wG_in (tb_1 (List.mem_of_getElem? (i := 1) (by decide +kernel))) (by decide +kernel)), (wG_in (tb_4 (List.mem_of_getElem? (i := 213) (by decide +kernel))) (by decide +kernel)), by decide +kernel, by decide +kernel⟩
theorem md_X4_used : gMd yX4_used (.code yX4_used cX4_used 3 (Option.some FieldType.int)) 2 := ⟨(wG_in (tb_1 (List.mem_of_getElem? (i := 1) (by decide +kernel))) (by decide +kernel)), (wG_in (tb_4 (List.mem_of_getElem? (i := 222) (by decide +kernel))) (by decide +kernel)), by decide +kernel, by decide +kernel⟩
theorem md_X4_filesOf : gMd yX4_filesOf (.code yX4_filesOf cX4_filesOf 3 (Option.some FieldType.int)) 2 := ⟨(wG_in (tb_1 (List.mem_of_getElem? (i := 1) (by decide +kernel))) (by decide +kernel)), (wG_in (tb_4 (List.mem_of_getElem? (i := 229) (by decide +kernel))) (by decide +kernel)), by decide +kernel, by decide +kernel⟩
theorem md_X4_usedByFiles : gMd yX4_usedByFiles (.code yX4_usedByFiles cX4_usedByFiles 7 (Option.some FieldType.int)) 2 := ⟨(wG_in (tb_1 (List.mem_of_getElem? (i := 1) (by decide +kernel))) (by decide +kernel)), (wG_in (tb_4 (List.mem_of_getElem? (i := 236) (by decide +kernel))) (by decide +kernel)), by decide +kernel, by decide +kernel⟩
theorem md_X4_grace : gMd yX4_grace (.code yX4_grace cX4_grace 3 (Option.some FieldType.int)) 2 := ⟨(wG_in (tb_1 (List.mem_of_getElem? (i := 1) (by decide +kernel))) (by decide +kernel)), (wG_in (tb_5 (List.mem_of_getElem? (i := 7) (by decide +kernel))) (by decide +kernel)), by decide +kernel, by decide +kernel⟩
theorem md_X4_room : gMd yX4_room (.code yX4_room cX4_room 6 (Option.some FieldType.int)) 1 := ⟨(wG_in (tb_1 (List.mem_of_getElem? (i := 1) (by decide +kernel))) (by decide +kernel)), (wG_in (tb_5 (List.mem_of_getElem? (i := 15) (by decide +kernel))) (by decide +kernel)), by decide +kernel, by decide +kernel⟩
theorem md_X4_beginRecount : gMd yX4_beginRecount (.code yX4_beginRecount cX4_beginRecount 2 (Option.some FieldType.int)) 0 := ⟨(wG_in (tb_1 (List.mem_of_getElem? (i := 1) (by decide +kernel))) (by decide +kernel)), (wG_in (tb_3 (List.mem_of_getElem? (i := 158) (by decide +kernel))) (by decide +kernel)), by decide +kernel, by decide +kernel⟩
theorem md_X4_recount : gMd yX4_recount (.code yX4_recount cX4_recount 3 (Option.some FieldType.int)) 1 := ⟨(wG_in (tb_1 (List.mem_of_getElem? (i := 1) (by decide +kernel))) (by decide +kernel)), (wG_in (tb_5 (List.mem_of_getElem? (i := 23) (by decide +kernel))) (by decide +kernel)), by decide +kernel, by decide +kernel⟩
theorem md_X4_counted : gMd yX4_counted (.code yX4_counted cX4_counted 4 (Option.some FieldType.int)) 2 := ⟨(wG_in (tb_1 (List.mem_of_getElem? (i := 1) (by decide +kernel))) (by decide +kernel)), (wG_in (tb_5 (List.mem_of_getElem? (i := 36) (by decide +kernel))) (by decide +kernel)), by decide +kernel, by decide +kernel⟩
theorem md_X4_projectOfNumber : gMd yX4_projectOfNumber (.code yX4_projectOfNumber cX4_projectOfNumber 2 (Option.some (FieldType.object "AllotmentLedger$Project"))) 1 := ⟨(wG_in (tb_1 (List.mem_of_getElem? (i := 1) (by decide +kernel))) (by decide +kernel)), (wG_in (tb_3 (List.mem_of_getElem? (i := 233) (by decide +kernel))) (by decide +kernel)), by decide +kernel, by decide +kernel⟩
theorem md_X4_projectOfPath : gMd yX4_projectOfPath (.code yX4_projectOfPath cX4_projectOfPath 4 (Option.some (FieldType.object "AllotmentLedger$Project"))) 1 := ⟨(wG_in (tb_1 (List.mem_of_getElem? (i := 1) (by decide +kernel))) (by decide +kernel)), (wG_in (tb_3 (List.mem_of_getElem? (i := 115) (by decide +kernel))) (by decide +kernel)), by decide +kernel, by decide +kernel⟩
theorem md_X4_childOf : gMd yX4_childOf (.code yX4_childOf cX4_childOf 5 (Option.some (FieldType.object "AllotmentLedger$Project"))) 2 := ⟨(wG_in (tb_1 (List.mem_of_getElem? (i := 1) (by decide +kernel))) (by decide +kernel)), (wG_in (tb_3 (List.mem_of_getElem? (i := 134) (by decide +kernel))) (by decide +kernel)), by decide +kernel, by decide +kernel⟩
theorem md_X4_liveFile : gMd yX4_liveFile (.code yX4_liveFile cX4_liveFile 2 (Option.some (FieldType.object "AllotmentLedger$StoredFile"))) 1 := ⟨(wG_in (tb_1 (List.mem_of_getElem? (i := 1) (by decide +kernel))) (by decide +kernel)), (wG_in (tb_4 (List.mem_of_getElem? (i := 144) (by decide +kernel))) (by decide +kernel)), by decide +kernel, by decide +kernel⟩
theorem md_X4_accountOf : gMd yX4_accountOf (.code yX4_accountOf cX4_accountOf 3 (Option.some (FieldType.object "AllotmentLedger$Account"))) 2 := ⟨(wG_in (tb_1 (List.mem_of_getElem? (i := 1) (by decide +kernel))) (by decide +kernel)), (wG_in (tb_4 (List.mem_of_getElem? (i := 81) (by decide +kernel))) (by decide +kernel)), by decide +kernel, by decide +kernel⟩
theorem md_X4_accountsOf : gMd yX4_accountsOf (.code yX4_accountsOf cX4_accountsOf 3 (Option.some (FieldType.object "java/util/ArrayList"))) 1 := ⟨(wG_in (tb_1 (List.mem_of_getElem? (i := 1) (by decide +kernel))) (by decide +kernel)), (wG_in (tb_4 (List.mem_of_getElem? (i := 42) (by decide +kernel))) (by decide +kernel)), by decide +kernel, by decide +kernel⟩
theorem md_X4_countsIn : gMd yX4_countsIn (.code yX4_countsIn cX4_countsIn 5 (Option.some FieldType.boolean)) 2 := ⟨(wG_in (tb_1 (List.mem_of_getElem? (i := 1) (by decide +kernel))) (by decide +kernel)), (wG_in (tb_5 (List.mem_of_getElem? (i := 0) (by decide +kernel))) (by decide +kernel)), by decide +kernel, by decide +kernel⟩
theorem md_X4_blocksUsedBy : gMd yX4_blocksUsedBy (.code yX4_blocksUsedBy cX4_blocksUsedBy 5 (Option.some FieldType.int)) 1 := ⟨(wG_in (tb_1 (List.mem_of_getElem? (i := 1) (by decide +kernel))) (by decide +kernel)), (wG_in (tb_4 (List.mem_of_getElem? (i := 33) (by decide +kernel))) (by decide +kernel)), by decide +kernel, by decide +kernel⟩
theorem md_X4_canMove : gMd yX4_canMove (.code yX4_canMove cX4_canMove 5 (Option.some FieldType.boolean)) 2 := ⟨(wG_in (tb_1 (List.mem_of_getElem? (i := 1) (by decide +kernel))) (by decide +kernel)), (wG_in (tb_4 (List.mem_of_getElem? (i := 10) (by decide +kernel))) (by decide +kernel)), by decide +kernel, by decide +kernel⟩
theorem md_X4_deepestWithin : gMd yX4_deepestWithin (.code yX4_deepestWithin cX4_deepestWithin 5 (Option.some FieldType.int)) 1 := ⟨(wG_in (tb_1 (List.mem_of_getElem? (i := 1) (by decide +kernel))) (by decide +kernel)), (wG_in (tb_4 (List.mem_of_getElem? (i := 18) (by decide +kernel))) (by decide +kernel)), by decide +kernel, by decide +kernel⟩
theorem md_X4_projectsWithin : gMd yX4_projectsWithin (.code yX4_projectsWithin cX4_projectsWithin 4 (Option.some FieldType.int)) 1 := ⟨(wG_in (tb_1 (List.mem_of_getElem? (i := 1) (by decide +kernel))) (by decide +kernel)), (wG_in (tb_4 (List.mem_of_getElem? (i := 62) (by decide +kernel))) (by decide +kernel)), by decide +kernel, by decide +kernel⟩
theorem md_X4_chargeFilesWithin : gMd yX4_chargeFilesWithin (.code yX4_chargeFilesWithin cX4_chargeFilesWithin 5 (Option.none : Option FieldType)) 2 := ⟨(wG_in (tb_1 (List.mem_of_getElem? (i := 1) (by decide +kernel))) (by decide +kernel)), (wG_in (tb_4 (List.mem_of_getElem? (i := 28) (by decide +kernel))) (by decide +kernel)), by decide +kernel, by decide +kernel⟩
theorem md_X4_charge : gMd yX4_charge (.code yX4_charge cX4_charge 8 (Option.none : Option FieldType)) 3 := ⟨(wG_in (tb_1 (List.mem_of_getElem? (i := 1) (by decide +kernel))) (by decide +kernel)), (wG_in (tb_4 (List.mem_of_getElem? (i := 38) (by decide +kernel))) (by decide +kernel)), by decide +kernel, by decide +kernel⟩
theorem md_X4_take : gMd yX4_take (.code yX4_take cX4_take 5 (Option.none : Option FieldType)) 1 := ⟨(wG_in (tb_1 (List.mem_of_getElem? (i := 1) (by decide +kernel))) (by decide +kernel)), (wG_in (tb_5 (List.mem_of_getElem? (i := 29) (by decide +kernel))) (by decide +kernel)), by decide +kernel, by decide +kernel⟩
theorem md_X4_noteOverAccounts : gMd yX4_noteOverAccounts (.code yX4_noteOverAccounts cX4_noteOverAccounts 2 (Option.none : Option FieldType)) 0 := ⟨(wG_in (tb_1 (List.mem_of_getElem? (i := 1) (by decide +kernel))) (by decide +kernel)), (wG_in (tb_4 (List.mem_of_getElem? (i := 54) (by decide +kernel))) (by decide +kernel)), by decide +kernel, by decide +kernel⟩
theorem md_X4_barringPlace : gMd yX4_barringPlace (.code yX4_barringPlace cX4_barringPlace 6 (Option.some FieldType.int)) 3 := ⟨(wG_in (tb_1 (List.mem_of_getElem? (i := 1) (by decide +kernel))) (by decide +kernel)), (wG_in (tb_4 (List.mem_of_getElem? (i := 117) (by decide +kernel))) (by decide +kernel)), by decide +kernel, by decide +kernel⟩
theorem md_X4_barredAnswer : gMd yX4_barredAnswer (.code yX4_barredAnswer cX4_barredAnswer 1 (Option.some FieldType.int)) 1 := ⟨(wG_in (tb_1 (List.mem_of_getElem? (i := 1) (by decide +kernel))) (by decide +kernel)), (wG_in (tb_4 (List.mem_of_getElem? (i := 133) (by decide +kernel))) (by decide +kernel)), by decide +kernel, by decide +kernel⟩
theorem md_X4_isLimit : gMd yX4_isLimit (.code yX4_isLimit cX4_isLimit 2 (Option.some FieldType.boolean)) 2 := ⟨(wG_in (tb_1 (List.mem_of_getElem? (i := 1) (by decide +kernel))) (by decide +kernel)), (wG_in (tb_4 (List.mem_of_getElem? (i := 205) (by decide +kernel))) (by decide +kernel)), by decide +kernel, by decide +kernel⟩
theorem md_X5_init : gMd yX5_init (.code yX5_init cX5_init 2 (Option.none : Option FieldType)) 0 := ⟨(wG_in (tb_1 (List.mem_of_getElem? (i := 15) (by decide +kernel))) (by decide +kernel)), (wG_in (tb_5 (List.mem_of_getElem? (i := 41) (by decide +kernel))) (by decide +kernel)), by decide +kernel, by decide +kernel⟩
theorem md_X5_thrown : gMd yX5_thrown (.code yX5_thrown cX5_thrown 1 (Option.some FieldType.int)) 0 := ⟨(wG_in (tb_1 (List.mem_of_getElem? (i := 15) (by decide +kernel))) (by decide +kernel)), (wG_in (tb_5 (List.mem_of_getElem? (i := 119) (by decide +kernel))) (by decide +kernel)), by decide +kernel, by decide +kernel⟩
theorem md_X5_refused : gMd yX5_refused (.code yX5_refused cX5_refused 2 (Option.some FieldType.boolean)) 1 := ⟨(wG_in (tb_1 (List.mem_of_getElem? (i := 15) (by decide +kernel))) (by decide +kernel)), (wG_in (tb_5 (List.mem_of_getElem? (i := 127) (by decide +kernel))) (by decide +kernel)), by decide +kernel, by decide +kernel⟩
theorem md_X5_fine : gMd yX5_fine (.code yX5_fine cX5_fine 2 (Option.some FieldType.int)) 1 := ⟨(wG_in (tb_1 (List.mem_of_getElem? (i := 15) (by decide +kernel))) (by decide +kernel)), (wG_in (tb_5 (List.mem_of_getElem? (i := 139) (by decide +kernel))) (by decide +kernel)), by decide +kernel, by decide +kernel⟩
theorem md_X5_in : gMd yX5_in (.code yX5_in cX5_in 3 (Option.some FieldType.boolean)) 3 := ⟨(wG_in (tb_1 (List.mem_of_getElem? (i := 15) (by decide +kernel))) (by decide +kernel)), (wG_in (tb_5 (List.mem_of_getElem? (i := 162) (by decide +kernel))) (by decide +kernel)), by decide +kernel, by decide +kernel⟩
theorem md_X5_type : gMd yX5_type (.code yX5_type cX5_type 2 (Option.some FieldType.int)) 1 := ⟨(wG_in (tb_1 (List.mem_of_getElem? (i := 15) (by decide +kernel))) (by decide +kernel)), (wG_in (tb_5 (List.mem_of_getElem? (i := 123) (by decide +kernel))) (by decide +kernel)), by decide +kernel, by decide +kernel⟩
theorem md_X5_back : gMd yX5_back (.code yX5_back cX5_back 1 (Option.some FieldType.int)) 0 := ⟨(wG_in (tb_1 (List.mem_of_getElem? (i := 15) (by decide +kernel))) (by decide +kernel)), (wG_in (tb_5 (List.mem_of_getElem? (i := 131) (by decide +kernel))) (by decide +kernel)), by decide +kernel, by decide +kernel⟩
theorem md_X5_clearPath : gMd yX5_clearPath (.code yX5_clearPath cX5_clearPath 2 (Option.some FieldType.int)) 0 := ⟨(wG_in (tb_1 (List.mem_of_getElem? (i := 15) (by decide +kernel))) (by decide +kernel)), (wG_in (tb_5 (List.mem_of_getElem? (i := 135) (by decide +kernel))) (by decide +kernel)), by decide +kernel, by decide +kernel⟩
theorem md_X5_find : gMd yX5_find (.code yX5_find cX5_find 6 (Option.some FieldType.int)) 1 := ⟨(wG_in (tb_1 (List.mem_of_getElem? (i := 15) (by decide +kernel))) (by decide +kernel)), (wG_in (tb_5 (List.mem_of_getElem? (i := 147) (by decide +kernel))) (by decide +kernel)), by decide +kernel, by decide +kernel⟩
theorem md_X5_makeProject : gMd yX5_makeProject (.code yX5_makeProject cX5_makeProject 2 (Option.some FieldType.int)) 0 := ⟨(wG_in (tb_1 (List.mem_of_getElem? (i := 15) (by decide +kernel))) (by decide +kernel)), (wG_in (tb_5 (List.mem_of_getElem? (i := 143) (by decide +kernel))) (by decide +kernel)), by decide +kernel, by decide +kernel⟩
theorem md_X5_findProject : gMd yX5_findProject (.code yX5_findProject cX5_findProject 1 (Option.some FieldType.int)) 0 := ⟨(wG_in (tb_1 (List.mem_of_getElem? (i := 15) (by decide +kernel))) (by decide +kernel)), (wG_in (tb_5 (List.mem_of_getElem? (i := 151) (by decide +kernel))) (by decide +kernel)), by decide +kernel, by decide +kernel⟩
theorem md_X5_isProject : gMd yX5_isProject (.code yX5_isProject cX5_isProject 2 (Option.some FieldType.boolean)) 1 := ⟨(wG_in (tb_1 (List.mem_of_getElem? (i := 15) (by decide +kernel))) (by decide +kernel)), (wG_in (tb_5 (List.mem_of_getElem? (i := 159) (by decide +kernel))) (by decide +kernel)), by decide +kernel, by decide +kernel⟩
theorem md_X5_isWithin : gMd yX5_isWithin (.code yX5_isWithin cX5_isWithin 5 (Option.some FieldType.boolean)) 2 := ⟨(wG_in (tb_1 (List.mem_of_getElem? (i := 15) (by decide +kernel))) (by decide +kernel)), (wG_in (tb_5 (List.mem_of_getElem? (i := 170) (by decide +kernel))) (by decide +kernel)), by decide +kernel, by decide +kernel⟩
theorem md_X5_deepest : gMd yX5_deepest (.code yX5_deepest cX5_deepest 4 (Option.some FieldType.int)) 1 := ⟨(wG_in (tb_1 (List.mem_of_getElem? (i := 15) (by decide +kernel))) (by decide +kernel)), (wG_in (tb_5 (List.mem_of_getElem? (i := 178) (by decide +kernel))) (by decide +kernel)), by decide +kernel, by decide +kernel⟩
theorem md_X5_child : gMd yX5_child (.code yX5_child cX5_child 6 (Option.some FieldType.int)) 2 := ⟨(wG_in (tb_1 (List.mem_of_getElem? (i := 15) (by decide +kernel))) (by decide +kernel)), (wG_in (tb_5 (List.mem_of_getElem? (i := 174) (by decide +kernel))) (by decide +kernel)), by decide +kernel, by decide +kernel⟩
theorem md_X5_canMove : gMd yX5_canMove (.code yX5_canMove cX5_canMove 5 (Option.some FieldType.boolean)) 1 := ⟨(wG_in (tb_1 (List.mem_of_getElem? (i := 15) (by decide +kernel))) (by decide +kernel)), (wG_in (tb_5 (List.mem_of_getElem? (i := 166) (by decide +kernel))) (by decide +kernel)), by decide +kernel, by decide +kernel⟩
theorem md_X5_moveProject : gMd yX5_moveProject (.code yX5_moveProject cX5_moveProject 7 (Option.some FieldType.int)) 1 := ⟨(wG_in (tb_1 (List.mem_of_getElem? (i := 15) (by decide +kernel))) (by decide +kernel)), (wG_in (tb_5 (List.mem_of_getElem? (i := 155) (by decide +kernel))) (by decide +kernel)), by decide +kernel, by decide +kernel⟩
theorem md_X5_lead : gMd yX5_lead (.code yX5_lead cX5_lead 5 (Option.none : Option FieldType)) 2 := ⟨(wG_in (tb_1 (List.mem_of_getElem? (i := 15) (by decide +kernel))) (by decide +kernel)), (wG_in (tb_5 (List.mem_of_getElem? (i := 182) (by decide +kernel))) (by decide +kernel)), by decide +kernel, by decide +kernel⟩
theorem md_X5_letterAt : gMd yX5_letterAt (.code yX5_letterAt cX5_letterAt 3 (Option.some FieldType.char)) 2 := ⟨(wG_in (tb_1 (List.mem_of_getElem? (i := 15) (by decide +kernel))) (by decide +kernel)), (wG_in (tb_5 (List.mem_of_getElem? (i := 202) (by decide +kernel))) (by decide +kernel)), by decide +kernel, by decide +kernel⟩
theorem md_X5_projects : gMd yX5_projects (.code yX5_projects cX5_projects 1 (Option.some FieldType.int)) 0 := ⟨(wG_in (tb_1 (List.mem_of_getElem? (i := 15) (by decide +kernel))) (by decide +kernel)), (wG_in (tb_5 (List.mem_of_getElem? (i := 206) (by decide +kernel))) (by decide +kernel)), by decide +kernel, by decide +kernel⟩
theorem md_X5_accountOf : gMd yX5_accountOf (.code yX5_accountOf cX5_accountOf 3 (Option.some FieldType.int)) 2 := ⟨(wG_in (tb_1 (List.mem_of_getElem? (i := 15) (by decide +kernel))) (by decide +kernel)), (wG_in (tb_6 (List.mem_of_getElem? (i := 18) (by decide +kernel))) (by decide +kernel)), by decide +kernel, by decide +kernel⟩
theorem md_X5_counts : gMd yX5_counts (.code yX5_counts cX5_counts 5 (Option.some FieldType.boolean)) 2 := ⟨(wG_in (tb_1 (List.mem_of_getElem? (i := 15) (by decide +kernel))) (by decide +kernel)), (wG_in (tb_5 (List.mem_of_getElem? (i := 194) (by decide +kernel))) (by decide +kernel)), by decide +kernel, by decide +kernel⟩
theorem md_X5_usage : gMd yX5_usage (.code yX5_usage cX5_usage 4 (Option.some FieldType.int)) 1 := ⟨(wG_in (tb_1 (List.mem_of_getElem? (i := 15) (by decide +kernel))) (by decide +kernel)), (wG_in (tb_5 (List.mem_of_getElem? (i := 198) (by decide +kernel))) (by decide +kernel)), by decide +kernel, by decide +kernel⟩
theorem md_X5_sum : gMd yX5_sum (.code yX5_sum cX5_sum 5 (Option.some FieldType.int)) 2 := ⟨(wG_in (tb_1 (List.mem_of_getElem? (i := 15) (by decide +kernel))) (by decide +kernel)), (wG_in (tb_5 (List.mem_of_getElem? (i := 190) (by decide +kernel))) (by decide +kernel)), by decide +kernel, by decide +kernel⟩
theorem md_X5_countFiles : gMd yX5_countFiles (.code yX5_countFiles cX5_countFiles 4 (Option.some FieldType.int)) 1 := ⟨(wG_in (tb_1 (List.mem_of_getElem? (i := 15) (by decide +kernel))) (by decide +kernel)), (wG_in (tb_5 (List.mem_of_getElem? (i := 226) (by decide +kernel))) (by decide +kernel)), by decide +kernel, by decide +kernel⟩
theorem md_X5_look : gMd yX5_look (.code yX5_look cX5_look 3 (Option.none : Option FieldType)) 0 := ⟨(wG_in (tb_1 (List.mem_of_getElem? (i := 15) (by decide +kernel))) (by decide +kernel)), (wG_in (tb_5 (List.mem_of_getElem? (i := 186) (by decide +kernel))) (by decide +kernel)), by decide +kernel, by decide +kernel⟩
theorem md_X5_isGraceGone : gMd yX5_isGraceGone (.code yX5_isGraceGone cX5_isGraceGone 2 (Option.some FieldType.boolean)) 1 := ⟨(wG_in (tb_1 (List.mem_of_getElem? (i := 15) (by decide +kernel))) (by decide +kernel)), (wG_in (tb_5 (List.mem_of_getElem? (i := 222) (by decide +kernel))) (by decide +kernel)), by decide +kernel, by decide +kernel⟩
theorem md_X5_asked : gMd yX5_asked (.code yX5_asked cX5_asked 7 (Option.some FieldType.int)) 3 := ⟨(wG_in (tb_1 (List.mem_of_getElem? (i := 15) (by decide +kernel))) (by decide +kernel)), (wG_in (tb_5 (List.mem_of_getElem? (i := 218) (by decide +kernel))) (by decide +kernel)), by decide +kernel, by decide +kernel⟩
theorem md_X5_barring : gMd yX5_barring (.code yX5_barring cX5_barring 9 (Option.some FieldType.int)) 4 := ⟨(wG_in (tb_1 (List.mem_of_getElem? (i := 15) (by decide +kernel))) (by decide +kernel)), (wG_in (tb_5 (List.mem_of_getElem? (i := 214) (by decide +kernel))) (by decide +kernel)), by decide +kernel, by decide +kernel⟩
theorem md_X5_isFile : gMd yX5_isFile (.code yX5_isFile cX5_isFile 2 (Option.some FieldType.boolean)) 1 := ⟨(wG_in (tb_1 (List.mem_of_getElem? (i := 15) (by decide +kernel))) (by decide +kernel)), (wG_in (tb_5 (List.mem_of_getElem? (i := 234) (by decide +kernel))) (by decide +kernel)), by decide +kernel, by decide +kernel⟩
theorem md_X5_makeFile : gMd yX5_makeFile (.code yX5_makeFile cX5_makeFile 5 (Option.some FieldType.int)) 2 := ⟨(wG_in (tb_1 (List.mem_of_getElem? (i := 15) (by decide +kernel))) (by decide +kernel)), (wG_in (tb_5 (List.mem_of_getElem? (i := 210) (by decide +kernel))) (by decide +kernel)), by decide +kernel, by decide +kernel⟩
theorem md_X5_write : gMd yX5_write (.code yX5_write cX5_write 5 (Option.some FieldType.int)) 2 := ⟨(wG_in (tb_1 (List.mem_of_getElem? (i := 15) (by decide +kernel))) (by decide +kernel)), (wG_in (tb_5 (List.mem_of_getElem? (i := 230) (by decide +kernel))) (by decide +kernel)), by decide +kernel, by decide +kernel⟩
theorem md_X5_delete : gMd yX5_delete (.code yX5_delete cX5_delete 4 (Option.some FieldType.int)) 1 := ⟨(wG_in (tb_1 (List.mem_of_getElem? (i := 15) (by decide +kernel))) (by decide +kernel)), (wG_in (tb_5 (List.mem_of_getElem? (i := 238) (by decide +kernel))) (by decide +kernel)), by decide +kernel, by decide +kernel⟩
theorem md_X5_moveFile : gMd yX5_moveFile (.code yX5_moveFile cX5_moveFile 4 (Option.some FieldType.int)) 2 := ⟨(wG_in (tb_1 (List.mem_of_getElem? (i := 15) (by decide +kernel))) (by decide +kernel)), (wG_in (tb_6 (List.mem_of_getElem? (i := 2) (by decide +kernel))) (by decide +kernel)), by decide +kernel, by decide +kernel⟩
theorem md_X5_reserve : gMd yX5_reserve (.code yX5_reserve cX5_reserve 4 (Option.some FieldType.int)) 2 := ⟨(wG_in (tb_1 (List.mem_of_getElem? (i := 15) (by decide +kernel))) (by decide +kernel)), (wG_in (tb_6 (List.mem_of_getElem? (i := 6) (by decide +kernel))) (by decide +kernel)), by decide +kernel, by decide +kernel⟩
theorem md_X5_settle : gMd yX5_settle (.code yX5_settle cX5_settle 4 (Option.some FieldType.int)) 2 := ⟨(wG_in (tb_1 (List.mem_of_getElem? (i := 15) (by decide +kernel))) (by decide +kernel)), (wG_in (tb_6 (List.mem_of_getElem? (i := 10) (by decide +kernel))) (by decide +kernel)), by decide +kernel, by decide +kernel⟩
theorem md_X5_setLimits : gMd yX5_setLimits (.code yX5_setLimits cX5_setLimits 8 (Option.none : Option FieldType)) 5 := ⟨(wG_in (tb_1 (List.mem_of_getElem? (i := 15) (by decide +kernel))) (by decide +kernel)), (wG_in (tb_6 (List.mem_of_getElem? (i := 14) (by decide +kernel))) (by decide +kernel)), by decide +kernel, by decide +kernel⟩
theorem md_X5_pass : gMd yX5_pass (.code yX5_pass cX5_pass 2 (Option.some FieldType.int)) 1 := ⟨(wG_in (tb_1 (List.mem_of_getElem? (i := 15) (by decide +kernel))) (by decide +kernel)), (wG_in (tb_6 (List.mem_of_getElem? (i := 23) (by decide +kernel))) (by decide +kernel)), by decide +kernel, by decide +kernel⟩
theorem md_X5_noAccount : gMd yX5_noAccount (.code yX5_noAccount cX5_noAccount 2 (Option.some FieldType.boolean)) 1 := ⟨(wG_in (tb_1 (List.mem_of_getElem? (i := 15) (by decide +kernel))) (by decide +kernel)), (wG_in (tb_6 (List.mem_of_getElem? (i := 31) (by decide +kernel))) (by decide +kernel)), by decide +kernel, by decide +kernel⟩
theorem md_X5_used : gMd yX5_used (.code yX5_used cX5_used 4 (Option.some FieldType.int)) 2 := ⟨(wG_in (tb_1 (List.mem_of_getElem? (i := 15) (by decide +kernel))) (by decide +kernel)), (wG_in (tb_6 (List.mem_of_getElem? (i := 27) (by decide +kernel))) (by decide +kernel)), by decide +kernel, by decide +kernel⟩
theorem md_X5_filesOf : gMd yX5_filesOf (.code yX5_filesOf cX5_filesOf 4 (Option.some FieldType.int)) 2 := ⟨(wG_in (tb_1 (List.mem_of_getElem? (i := 15) (by decide +kernel))) (by decide +kernel)), (wG_in (tb_6 (List.mem_of_getElem? (i := 35) (by decide +kernel))) (by decide +kernel)), by decide +kernel, by decide +kernel⟩
theorem md_X5_usedByFiles : gMd yX5_usedByFiles (.code yX5_usedByFiles cX5_usedByFiles 3 (Option.some FieldType.int)) 2 := ⟨(wG_in (tb_1 (List.mem_of_getElem? (i := 15) (by decide +kernel))) (by decide +kernel)), (wG_in (tb_6 (List.mem_of_getElem? (i := 39) (by decide +kernel))) (by decide +kernel)), by decide +kernel, by decide +kernel⟩
theorem md_X5_grace : gMd yX5_grace (.code yX5_grace cX5_grace 4 (Option.some FieldType.int)) 2 := ⟨(wG_in (tb_1 (List.mem_of_getElem? (i := 15) (by decide +kernel))) (by decide +kernel)), (wG_in (tb_6 (List.mem_of_getElem? (i := 44) (by decide +kernel))) (by decide +kernel)), by decide +kernel, by decide +kernel⟩
theorem md_X5_room : gMd yX5_room (.code yX5_room cX5_room 6 (Option.some FieldType.int)) 1 := ⟨(wG_in (tb_1 (List.mem_of_getElem? (i := 15) (by decide +kernel))) (by decide +kernel)), (wG_in (tb_6 (List.mem_of_getElem? (i := 48) (by decide +kernel))) (by decide +kernel)), by decide +kernel, by decide +kernel⟩
theorem md_X5_beginRecount : gMd yX5_beginRecount (.code yX5_beginRecount cX5_beginRecount 1 (Option.some FieldType.int)) 0 := ⟨(wG_in (tb_1 (List.mem_of_getElem? (i := 15) (by decide +kernel))) (by decide +kernel)), (wG_in (tb_6 (List.mem_of_getElem? (i := 52) (by decide +kernel))) (by decide +kernel)), by decide +kernel, by decide +kernel⟩
theorem md_X5_recount : gMd yX5_recount (.code yX5_recount cX5_recount 2 (Option.some FieldType.int)) 1 := ⟨(wG_in (tb_1 (List.mem_of_getElem? (i := 15) (by decide +kernel))) (by decide +kernel)), (wG_in (tb_6 (List.mem_of_getElem? (i := 56) (by decide +kernel))) (by decide +kernel)), by decide +kernel, by decide +kernel⟩
theorem md_X5_counted : gMd yX5_counted (.code yX5_counted cX5_counted 4 (Option.some FieldType.int)) 2 := ⟨(wG_in (tb_1 (List.mem_of_getElem? (i := 15) (by decide +kernel))) (by decide +kernel)), (wG_in (tb_6 (List.mem_of_getElem? (i := 60) (by decide +kernel))) (by decide +kernel)), by decide +kernel, by decide +kernel⟩
theorem md_J5_init_d00df : gMd yJ5_init_d00df (.code yJ5_init_d00df cJ5_init_d00df 2 (Option.none : Option FieldType)) 1 := ⟨(wG_in (tb_1 (List.mem_of_getElem? (i := 5) (by decide +kernel))) (by decide +kernel)), (wG_in (tb_1 (List.mem_of_getElem? (i := 72) (by decide +kernel))) (by decide +kernel)), by decide +kernel, by decide +kernel⟩
theorem md_J5_length_8abf5 : gMd yJ5_length_8abf5 (.code yJ5_length_8abf5 cJ5_length_8abf5 1 (Option.some FieldType.int)) 0 := ⟨(wG_in (tb_1 (List.mem_of_getElem? (i := 5) (by decide +kernel))) (by decide +kernel)), (wG_in (tb_2 (List.mem_of_getElem? (i := 25) (by decide +kernel))) (by decide +kernel)), by decide +kernel, by decide +kernel⟩
theorem md_J5_ensureCapacityInternal_d00df : gMd yJ5_ensureCapacityInternal_d00df (.code yJ5_ensureCapacityInternal_d00df cJ5_ensureCapacityInternal_d00df 3 (Option.none : Option FieldType)) 1 := ⟨(wG_in (tb_1 (List.mem_of_getElem? (i := 5) (by decide +kernel))) (by decide +kernel)), (wG_in (tb_2 (List.mem_of_getElem? (i := 55) (by decide +kernel))) (by decide +kernel)), by decide +kernel, by decide +kernel⟩
theorem md_J5_setLength_d00df : gMd yJ5_setLength_d00df (.code yJ5_setLength_d00df cJ5_setLength_d00df 2 (Option.none : Option FieldType)) 1 := ⟨(wG_in (tb_1 (List.mem_of_getElem? (i := 5) (by decide +kernel))) (by decide +kernel)), (wG_in (tb_2 (List.mem_of_getElem? (i := 32) (by decide +kernel))) (by decide +kernel)), by decide +kernel, by decide +kernel⟩
theorem md_J5_charAt_5068e : gMd yJ5_charAt_5068e (.code yJ5_charAt_5068e cJ5_charAt_5068e 5 (Option.some FieldType.char)) 1 := ⟨(wG_in (tb_1 (List.mem_of_getElem? (i := 5) (by decide +kernel))) (by decide +kernel)), (wG_in (tb_3 (List.mem_of_getElem? (i := 122) (by decide +kernel))) (by decide +kernel)), by decide +kernel, by decide +kernel⟩
theorem md_J5_append_3fe6f : gMd yJ5_append_3fe6f (.code yJ5_append_3fe6f cJ5_append_3fe6f 2 (Option.some (FieldType.object "java/lang/AbstractStringBuilder"))) 1 := ⟨(wG_in (tb_1 (List.mem_of_getElem? (i := 5) (by decide +kernel))) (by decide +kernel)), (wG_in (tb_3 (List.mem_of_getElem? (i := 193) (by decide +kernel))) (by decide +kernel)), by decide +kernel, by decide +kernel⟩
theorem md_J5_isLatin1_aae02 : gMd yJ5_isLatin1_aae02 (.code yJ5_isLatin1_aae02 cJ5_isLatin1_aae02 1 (Option.some FieldType.boolean)) 0 := ⟨(wG_in (tb_1 (List.mem_of_getElem? (i := 5) (by decide +kernel))) (by decide +kernel)), (wG_in (tb_2 (List.mem_of_getElem? (i := 76) (by decide +kernel))) (by decide +kernel)), by decide +kernel, by decide +kernel⟩
theorem md_J9_max_7cf53 : gMd yJ9_max_7cf53 (.code yJ9_max_7cf53 cJ9_max_7cf53 2 (Option.some FieldType.int)) 2 := ⟨(wG_in (tb_1 (List.mem_of_getElem? (i := 11) (by decide +kernel))) (by decide +kernel)), (wG_in (tb_1 (List.mem_of_getElem? (i := 156) (by decide +kernel))) (by decide +kernel)), by decide +kernel, by decide +kernel⟩
theorem md_J9_min_7cf53 : gMd yJ9_min_7cf53 (.code yJ9_min_7cf53 cJ9_min_7cf53 2 (Option.some FieldType.int)) 2 := ⟨(wG_in (tb_1 (List.mem_of_getElem? (i := 11) (by decide +kernel))) (by decide +kernel)), (wG_in (tb_1 (List.mem_of_getElem? (i := 190) (by decide +kernel))) (by decide +kernel)), by decide +kernel, by decide +kernel⟩
theorem md_J0_checkIndex_df160 : gMd yJ0_checkIndex_df160 (.code yJ0_checkIndex_df160 cJ0_checkIndex_df160 2 (Option.none : Option FieldType)) 2 := ⟨(wG_in (tb_1 (List.mem_of_getElem? (i := 7) (by decide +kernel))) (by decide +kernel)), (wG_in (tb_3 (List.mem_of_getElem? (i := 126) (by decide +kernel))) (by decide +kernel)), by decide +kernel, by decide +kernel⟩
theorem md_J4_init_da8c8 : gMd yJ4_init_da8c8 (.code yJ4_init_da8c8 cJ4_init_da8c8 1 (Option.none : Option FieldType)) 0 := ⟨(wG_in (tb_1 (List.mem_of_getElem? (i := 6) (by decide +kernel))) (by decide +kernel)), (wG_in (tb_1 (List.mem_of_getElem? (i := 69) (by decide +kernel))) (by decide +kernel)), by decide +kernel, by decide +kernel⟩
theorem md_J4_append_cf468 : gMd yJ4_append_cf468 (.code yJ4_append_cf468 cJ4_append_cf468 2 (Option.some (FieldType.object "java/lang/StringBuilder"))) 1 := ⟨(wG_in (tb_1 (List.mem_of_getElem? (i := 6) (by decide +kernel))) (by decide +kernel)), (wG_in (tb_3 (List.mem_of_getElem? (i := 190) (by decide +kernel))) (by decide +kernel)), by decide +kernel, by decide +kernel⟩
theorem md_J4_charAt_5068e : gMd yJ4_charAt_5068e (.code yJ4_charAt_5068e cJ4_charAt_5068e 2 (Option.some FieldType.char)) 1 := ⟨(wG_in (tb_1 (List.mem_of_getElem? (i := 6) (by decide +kernel))) (by decide +kernel)), (wG_in (tb_3 (List.mem_of_getElem? (i := 119) (by decide +kernel))) (by decide +kernel)), by decide +kernel, by decide +kernel⟩
theorem md_J4_setLength_d00df : gMd yJ4_setLength_d00df (.code yJ4_setLength_d00df cJ4_setLength_d00df 2 (Option.none : Option FieldType)) 1 := ⟨(wG_in (tb_1 (List.mem_of_getElem? (i := 6) (by decide +kernel))) (by decide +kernel)), (wG_in (tb_2 (List.mem_of_getElem? (i := 29) (by decide +kernel))) (by decide +kernel)), by decide +kernel, by decide +kernel⟩
theorem md_J4_length_8abf5 : gMd yJ4_length_8abf5 (.code yJ4_length_8abf5 cJ4_length_8abf5 1 (Option.some FieldType.int)) 0 := ⟨(wG_in (tb_1 (List.mem_of_getElem? (i := 6) (by decide +kernel))) (by decide +kernel)), (wG_in (tb_2 (List.mem_of_getElem? (i := 22) (by decide +kernel))) (by decide +kernel)), by decide +kernel, by decide +kernel⟩
theorem md_J1_canEncode_fc78d : gMd yJ1_canEncode_fc78d (.code yJ1_canEncode_fc78d cJ1_canEncode_fc78d 1 (Option.some FieldType.boolean)) 1 := ⟨(wG_in (tb_1 (List.mem_of_getElem? (i := 21) (by decide +kernel))) (by decide +kernel)), (wG_in (tb_3 (List.mem_of_getElem? (i := 196) (by decide +kernel))) (by decide +kernel)), by decide +kernel, by decide +kernel⟩
theorem md_Jxa1e45_init_da8c8 : gMd yJxa1e45_init_da8c8 (.code yJxa1e45_init_da8c8 cJxa1e45_init_da8c8 1 (Option.none : Option FieldType)) 0 := ⟨(wG_in (tb_1 (List.mem_of_getElem? (i := 2) (by decide +kernel))) (by decide +kernel)), (wG_in (tb_1 (List.mem_of_getElem? (i := 49) (by decide +kernel))) (by decide +kernel)), by decide +kernel, by decide +kernel⟩
theorem md_Jxc12de_init_da8c8 : gMd yJxc12de_init_da8c8 (.code yJxc12de_init_da8c8 cJxc12de_init_da8c8 1 (Option.none : Option FieldType)) 0 := ⟨(wG_in (tb_1 (List.mem_of_getElem? (i := 3) (by decide +kernel))) (by decide +kernel)), (wG_in (tb_1 (List.mem_of_getElem? (i := 46) (by decide +kernel))) (by decide +kernel)), by decide +kernel, by decide +kernel⟩
theorem md_Jx4a65c_init_da8c8 : gMd yJx4a65c_init_da8c8 (.code yJx4a65c_init_da8c8 cJx4a65c_init_da8c8 1 (Option.none : Option FieldType)) 0 := ⟨(wG_in (tb_1 (List.mem_of_getElem? (i := 4) (by decide +kernel))) (by decide +kernel)), (wG_in (tb_1 (List.mem_of_getElem? (i := 43) (by decide +kernel))) (by decide +kernel)), by decide +kernel, by decide +kernel⟩
theorem md_Jx4a65c_grow_92f84 : gMd yJx4a65c_grow_92f84 (.code yJx4a65c_grow_92f84 cJx4a65c_grow_92f84 4 (Option.some (FieldType.array (FieldType.object "java/lang/Object")))) 1 := ⟨(wG_in (tb_1 (List.mem_of_getElem? (i := 4) (by decide +kernel))) (by decide +kernel)), (wG_in (tb_1 (List.mem_of_getElem? (i := 150) (by decide +kernel))) (by decide +kernel)), by decide +kernel, by decide +kernel⟩
theorem md_Jx4a65c_grow_d5877 : gMd yJx4a65c_grow_d5877 (.code yJx4a65c_grow_d5877 cJx4a65c_grow_d5877 1 (Option.some (FieldType.array (FieldType.object "java/lang/Object")))) 0 := ⟨(wG_in (tb_1 (List.mem_of_getElem? (i := 4) (by decide +kernel))) (by decide +kernel)), (wG_in (tb_1 (List.mem_of_getElem? (i := 146) (by decide +kernel))) (by decide +kernel)), by decide +kernel, by decide +kernel⟩
theorem md_Jx4a65c_size_8abf5 : gMd yJx4a65c_size_8abf5 (.code yJx4a65c_size_8abf5 cJx4a65c_size_8abf5 1 (Option.some FieldType.int)) 0 := ⟨(wG_in (tb_1 (List.mem_of_getElem? (i := 4) (by decide +kernel))) (by decide +kernel)), (wG_in (tb_3 (List.mem_of_getElem? (i := 138) (by decide +kernel))) (by decide +kernel)), by decide +kernel, by decide +kernel⟩
theorem md_Jx4a65c_elementData_915e3 : gMd yJx4a65c_elementData_915e3 (.code yJx4a65c_elementData_915e3 cJx4a65c_elementData_915e3 2 (Option.some (FieldType.object "java/lang/Object"))) 1 := ⟨(wG_in (tb_1 (List.mem_of_getElem? (i := 4) (by decide +kernel))) (by decide +kernel)), (wG_in (tb_3 (List.mem_of_getElem? (i := 150) (by decide +kernel))) (by decide +kernel)), by decide +kernel, by decide +kernel⟩
theorem md_Jx4a65c_get_915e3 : gMd yJx4a65c_get_915e3 (.code yJx4a65c_get_915e3 cJx4a65c_get_915e3 2 (Option.some (FieldType.object "java/lang/Object"))) 1 := ⟨(wG_in (tb_1 (List.mem_of_getElem? (i := 4) (by decide +kernel))) (by decide +kernel)), (wG_in (tb_3 (List.mem_of_getElem? (i := 142) (by decide +kernel))) (by decide +kernel)), by decide +kernel, by decide +kernel⟩
theorem md_Jx4a65c_add_72be8 : gMd yJx4a65c_add_72be8 (.code yJx4a65c_add_72be8 cJx4a65c_add_72be8 4 (Option.none : Option FieldType)) 3 := ⟨(wG_in (tb_1 (List.mem_of_getElem? (i := 4) (by decide +kernel))) (by decide +kernel)), (wG_in (tb_1 (List.mem_of_getElem? (i := 142) (by decide +kernel))) (by decide +kernel)), by decide +kernel, by decide +kernel⟩
theorem md_Jx4a65c_add_9ea2d : gMd yJx4a65c_add_9ea2d (.code yJx4a65c_add_9ea2d cJx4a65c_add_9ea2d 2 (Option.some FieldType.boolean)) 1 := ⟨(wG_in (tb_1 (List.mem_of_getElem? (i := 4) (by decide +kernel))) (by decide +kernel)), (wG_in (tb_1 (List.mem_of_getElem? (i := 138) (by decide +kernel))) (by decide +kernel)), by decide +kernel, by decide +kernel⟩
theorem md_Jx4a65c_clear_da8c8 : gMd yJx4a65c_clear_da8c8 (.code yJx4a65c_clear_da8c8 cJx4a65c_clear_da8c8 4 (Option.none : Option FieldType)) 0 := ⟨(wG_in (tb_1 (List.mem_of_getElem? (i := 4) (by decide +kernel))) (by decide +kernel)), (wG_in (tb_4 (List.mem_of_getElem? (i := 46) (by decide +kernel))) (by decide +kernel)), by decide +kernel, by decide +kernel⟩
theorem md_J7_copyOf_1904c : gMd yJ7_copyOf_1904c (.code yJ7_copyOf_1904c cJ7_copyOf_1904c 2 (Option.some (FieldType.array (FieldType.object "java/lang/Object")))) 2 := ⟨(wG_in (tb_1 (List.mem_of_getElem? (i := 12) (by decide +kernel))) (by decide +kernel)), (wG_in (tb_1 (List.mem_of_getElem? (i := 163) (by decide +kernel))) (by decide +kernel)), by decide +kernel, by decide +kernel⟩
theorem md_J7_copyOf_6403c : gMd yJ7_copyOf_6403c (.code yJ7_copyOf_6403c cJ7_copyOf_6403c 4 (Option.some (FieldType.array (FieldType.object "java/lang/Object")))) 3 := ⟨(wG_in (tb_1 (List.mem_of_getElem? (i := 12) (by decide +kernel))) (by decide +kernel)), (wG_in (tb_1 (List.mem_of_getElem? (i := 184) (by decide +kernel))) (by decide +kernel)), by decide +kernel, by decide +kernel⟩
theorem md_J15_checkIndex_7cf53 : gMd yJ15_checkIndex_7cf53 (.code yJ15_checkIndex_7cf53 cJ15_checkIndex_7cf53 2 (Option.some FieldType.int)) 2 := ⟨(wG_in (tb_1 (List.mem_of_getElem? (i := 28) (by decide +kernel))) (by decide +kernel)), (wG_in (tb_3 (List.mem_of_getElem? (i := 145) (by decide +kernel))) (by decide +kernel)), by decide +kernel, by decide +kernel⟩
theorem md_J8_newLength_cabcc : gMd yJ8_newLength_cabcc (.code yJ8_newLength_cabcc cJ8_newLength_cabcc 4 (Option.some FieldType.int)) 3 := ⟨(wG_in (tb_1 (List.mem_of_getElem? (i := 10) (by decide +kernel))) (by decide +kernel)), (wG_in (tb_1 (List.mem_of_getElem? (i := 153) (by decide +kernel))) (by decide +kernel)), by decide +kernel, by decide +kernel⟩
theorem md_J3_checkIndex_8e157 : gMd yJ3_checkIndex_8e157 (.code yJ3_checkIndex_8e157 cJ3_checkIndex_8e157 3 (Option.some FieldType.int)) 3 := ⟨(wG_in (tb_1 (List.mem_of_getElem? (i := 22) (by decide +kernel))) (by decide +kernel)), (wG_in (tb_3 (List.mem_of_getElem? (i := 129) (by decide +kernel))) (by decide +kernel)), by decide +kernel, by decide +kernel⟩
/-! places of the pools -/
theorem kc_X4_49 : Cond.classLink RX4 49 "AllotmentLedger$Account" ∈ wG := (wG_in (tb_1 (List.mem_of_getElem? (i := 98) (by decide +kernel))) (by decide +kernel))
theorem kc_X4_56 : Cond.classLink RX4 56 "AllotmentLedger$Project" ∈ wG := (wG_in (tb_1 (List.mem_of_getElem? (i := 196) (by decide +kernel))) (by decide +kernel))
theorem kc_X4_152 : Cond.classLink RX4 152 "AllotmentLedger$StoredFile" ∈ wG := (wG_in (tb_4 (List.mem_of_getElem? (i := 29) (by decide +kernel))) (by decide +kernel))
theorem kc_X4_190 : Cond.classLink RX4 190 "AllotmentLedger$Reservation" ∈ wG := (wG_in (tb_4 (List.mem_of_getElem? (i := 34) (by decide +kernel))) (by decide +kernel))
theorem kg_X4_10 : gFg RX4 10 4 0 := ⟨RX4, TX4, 11, "AllotmentLedger", rfl, by decide, (wG_in (tb_1 (List.mem_of_getElem? (i := 221) (by decide +kernel))) (by decide +kernel)), Or.inl rfl⟩
theorem kg_X4_16 : gFg RX4 16 4 1 := ⟨RX4, TX4, 11, "AllotmentLedger", rfl, by decide, (wG_in (tb_1 (List.mem_of_getElem? (i := 222) (by decide +kernel))) (by decide +kernel)), Or.inl rfl⟩
theorem kg_X4_19 : gFg RX4 19 4 2 := ⟨RX4, TX4, 11, "AllotmentLedger", rfl, by decide, (wG_in (tb_1 (List.mem_of_getElem? (i := 223) (by decide +kernel))) (by decide +kernel)), Or.inl rfl⟩
theorem kg_X4_22 : gFg RX4 22 4 3 := ⟨RX4, TX4, 11, "AllotmentLedger", rfl, by decide, (wG_in (tb_1 (List.mem_of_getElem? (i := 224) (by decide +kernel))) (by decide +kernel)), Or.inl rfl⟩
theorem kg_X4_25 : gFg RX4 25 4 4 := ⟨RX4, TX4, 11, "AllotmentLedger", rfl, by decide, (wG_in (tb_1 (List.mem_of_getElem? (i := 225) (by decide +kernel))) (by decide +kernel)), Or.inl rfl⟩
theorem kg_X4_31 : gFg RX4 31 4 6 := ⟨RX4, TX4, 11, "AllotmentLedger", rfl, by decide, (wG_in (tb_1 (List.mem_of_getElem? (i := 227) (by decide +kernel))) (by decide +kernel)), Or.inl rfl⟩
theorem kg_X4_35 : gFg RX4 35 4 7 := ⟨RX4, TX4, 11, "AllotmentLedger", rfl, by decide, (wG_in (tb_1 (List.mem_of_getElem? (i := 228) (by decide +kernel))) (by decide +kernel)), Or.inl rfl⟩
theorem kg_X4_38 : gFg RX4 38 4 8 := ⟨RX4, TX4, 11, "AllotmentLedger", rfl, by decide, (wG_in (tb_1 (List.mem_of_getElem? (i := 229) (by decide +kernel))) (by decide +kernel)), Or.inl rfl⟩
theorem kg_X4_42 : gFg RX4 42 4 9 := ⟨RX4, TX4, 11, "AllotmentLedger", rfl, by decide, (wG_in (tb_1 (List.mem_of_getElem? (i := 230) (by decide +kernel))) (by decide +kernel)), Or.inl rfl⟩
theorem kg_X4_46 : gFg RX4 46 4 10 := ⟨RX4, TX4, 11, "AllotmentLedger", rfl, by decide, (wG_in (tb_1 (List.mem_of_getElem? (i := 231) (by decide +kernel))) (by decide +kernel)), Or.inl rfl⟩
theorem kg_X4_61 : gFg RX4 61 4 5 := ⟨RX4, TX4, 11, "AllotmentLedger", rfl, by decide, (wG_in (tb_1 (List.mem_of_getElem? (i := 226) (by decide +kernel))) (by decide +kernel)), Or.inl rfl⟩
theorem kg_X4_108 : gFg RX4 108 1 0 := ⟨RX1, TX1, 4, "AllotmentLedger$Project", rfl, by decide, (wG_in (tb_1 (List.mem_of_getElem? (i := 205) (by decide +kernel))) (by decide +kernel)), Or.inl rfl⟩
theorem kg_X4_120 : gFg RX4 120 1 3 := ⟨RX1, TX1, 4, "AllotmentLedger$Project", rfl, by decide, (wG_in (tb_1 (List.mem_of_getElem? (i := 211) (by decide +kernel))) (by decide +kernel)), Or.inl rfl⟩
theorem kg_X4_142 : gFg RX4 142 1 1 := ⟨RX1, TX1, 4, "AllotmentLedger$Project", rfl, by decide, (wG_in (tb_1 (List.mem_of_getElem? (i := 207) (by decide +kernel))) (by decide +kernel)), Or.inl rfl⟩
theorem kg_X4_169 : gFg RX4 169 3 0 := ⟨RX3, TX3, 6, "AllotmentLedger$StoredFile", rfl, by decide, (wG_in (tb_4 (List.mem_of_getElem? (i := 90) (by decide +kernel))) (by decide +kernel)), Or.inl rfl⟩
theorem kg_X4_174 : gFg RX4 174 3 4 := ⟨RX3, TX3, 6, "AllotmentLedger$StoredFile", rfl, by decide, (wG_in (tb_4 (List.mem_of_getElem? (i := 98) (by decide +kernel))) (by decide +kernel)), Or.inl rfl⟩
theorem kg_X4_183 : gFg RX4 183 3 5 := ⟨RX3, TX3, 6, "AllotmentLedger$StoredFile", rfl, by decide, (wG_in (tb_4 (List.mem_of_getElem? (i := 100) (by decide +kernel))) (by decide +kernel)), Or.inl rfl⟩
theorem kg_X4_192 : gFg RX4 192 2 0 := ⟨RX2, TX2, 3, "AllotmentLedger$Reservation", rfl, by decide, (wG_in (tb_4 (List.mem_of_getElem? (i := 175) (by decide +kernel))) (by decide +kernel)), Or.inl rfl⟩
theorem kg_X4_196 : gFg RX4 196 2 2 := ⟨RX2, TX2, 3, "AllotmentLedger$Reservation", rfl, by decide, (wG_in (tb_4 (List.mem_of_getElem? (i := 179) (by decide +kernel))) (by decide +kernel)), Or.inl rfl⟩
theorem kg_X4_199 : gFg RX4 199 3 3 := ⟨RX3, TX3, 6, "AllotmentLedger$StoredFile", rfl, by decide, (wG_in (tb_4 (List.mem_of_getElem? (i := 96) (by decide +kernel))) (by decide +kernel)), Or.inl rfl⟩
theorem kg_X4_209 : gFg RX4 209 2 1 := ⟨RX2, TX2, 3, "AllotmentLedger$Reservation", rfl, by decide, (wG_in (tb_4 (List.mem_of_getElem? (i := 177) (by decide +kernel))) (by decide +kernel)), Or.inl rfl⟩
theorem kg_X4_233 : gFg RX4 233 0 3 := ⟨RX0, TX0, 8, "AllotmentLedger$Account", rfl, by decide, (wG_in (tb_1 (List.mem_of_getElem? (i := 111) (by decide +kernel))) (by decide +kernel)), Or.inl rfl⟩
theorem kg_X4_236 : gFg RX4 236 0 4 := ⟨RX0, TX0, 8, "AllotmentLedger$Account", rfl, by decide, (wG_in (tb_1 (List.mem_of_getElem? (i := 113) (by decide +kernel))) (by decide +kernel)), Or.inl rfl⟩
theorem kg_X4_253 : gFg RX4 253 0 5 := ⟨RX0, TX0, 8, "AllotmentLedger$Account", rfl, by decide, (wG_in (tb_1 (List.mem_of_getElem? (i := 115) (by decide +kernel))) (by decide +kernel)), Or.inl rfl⟩
theorem kg_X4_256 : gFg RX4 256 1 2 := ⟨RX1, TX1, 4, "AllotmentLedger$Project", rfl, by decide, (wG_in (tb_1 (List.mem_of_getElem? (i := 209) (by decide +kernel))) (by decide +kernel)), Or.inl rfl⟩
theorem kg_X4_281 : gFg RX4 281 3 1 := ⟨RX3, TX3, 6, "AllotmentLedger$StoredFile", rfl, by decide, (wG_in (tb_4 (List.mem_of_getElem? (i := 92) (by decide +kernel))) (by decide +kernel)), Or.inl rfl⟩
theorem kg_X4_284 : gFg RX4 284 3 2 := ⟨RX3, TX3, 6, "AllotmentLedger$StoredFile", rfl, by decide, (wG_in (tb_4 (List.mem_of_getElem? (i := 94) (by decide +kernel))) (by decide +kernel)), Or.inl rfl⟩
theorem ko_X4_1 : Cond.methodLink RX4 1 objectInit ∈ wG ∧ Cond.instanceMethod objectInit ∈ wG ∧ Cond.code objectInit ⟨#[0xb1]⟩ 1 none ∈ wG := ⟨(wG_in (tb_1 (List.mem_of_getElem? (i := 36) (by decide +kernel))) (by decide +kernel)), (wG_in (tb_1 (List.mem_of_getElem? (i := 37) (by decide +kernel))) (by decide +kernel)), (wG_in (tb_1 (List.mem_of_getElem? (i := 38) (by decide +kernel))) (by decide +kernel))⟩
theorem ki_X4_9 : gIl RX4 9 yJx4a65c_init_da8c8 := ⟨(wG_in (tb_1 (List.mem_of_getElem? (i := 41) (by decide +kernel))) (by decide +kernel)), (wG_in (tb_1 (List.mem_of_getElem? (i := 42) (by decide +kernel))) (by decide +kernel)), rfl⟩
theorem ki_X4_30 : gIl RX4 30 yJ4_init_da8c8 := ⟨(wG_in (tb_1 (List.mem_of_getElem? (i := 67) (by decide +kernel))) (by decide +kernel)), (wG_in (tb_1 (List.mem_of_getElem? (i := 68) (by decide +kernel))) (by decide +kernel)), rfl⟩
theorem ki_X4_58 : gIl RX4 58 yX1_init := ⟨(wG_in (tb_1 (List.mem_of_getElem? (i := 198) (by decide +kernel))) (by decide +kernel)), (wG_in (tb_1 (List.mem_of_getElem? (i := 199) (by decide +kernel))) (by decide +kernel)), rfl⟩
theorem ki_X4_154 : gIl RX4 154 yX3_init := ⟨(wG_in (tb_4 (List.mem_of_getElem? (i := 85) (by decide +kernel))) (by decide +kernel)), (wG_in (tb_4 (List.mem_of_getElem? (i := 86) (by decide +kernel))) (by decide +kernel)), rfl⟩
theorem ki_X4_204 : gIl RX4 204 yX2_init := ⟨(wG_in (tb_4 (List.mem_of_getElem? (i := 170) (by decide +kernel))) (by decide +kernel)), (wG_in (tb_4 (List.mem_of_getElem? (i := 171) (by decide +kernel))) (by decide +kernel)), rfl⟩
theorem ks_X4_161 : gSl RX4 161 yX4_barredAnswer := ⟨(wG_in (tb_4 (List.mem_of_getElem? (i := 131) (by decide +kernel))) (by decide +kernel)), (wG_in (tb_4 (List.mem_of_getElem? (i := 132) (by decide +kernel))) (by decide +kernel))⟩
theorem ks_X4_211 : gSl RX4 211 yX4_isLimit := ⟨(wG_in (tb_4 (List.mem_of_getElem? (i := 203) (by decide +kernel))) (by decide +kernel)), (wG_in (tb_4 (List.mem_of_getElem? (i := 204) (by decide +kernel))) (by decide +kernel))⟩
theorem ks_X4_294 : gSl RX4 294 yJ9_max_7cf53 := ⟨(wG_in (tb_4 (List.mem_of_getElem? (i := 23) (by decide +kernel))) (by decide +kernel)), (wG_in (tb_1 (List.mem_of_getElem? (i := 155) (by decide +kernel))) (by decide +kernel))⟩
theorem kv_X4_52 : gVl RX4 52 RJx4a65c yJx4a65c_add_9ea2d := ⟨(wG_in (tb_1 (List.mem_of_getElem? (i := 135) (by decide +kernel))) (by decide +kernel)), (wG_in (tb_1 (List.mem_of_getElem? (i := 136) (by decide +kernel))) (by decide +kernel)), (wG_in (tb_1 (List.mem_of_getElem? (i := 137) (by decide +kernel))) (by decide +kernel))⟩
theorem kv_X4_72 : gVl RX4 72 RJ4 yJ4_length_8abf5 := ⟨(wG_in (tb_2 (List.mem_of_getElem? (i := 19) (by decide +kernel))) (by decide +kernel)), (wG_in (tb_2 (List.mem_of_getElem? (i := 20) (by decide +kernel))) (by decide +kernel)), (wG_in (tb_2 (List.mem_of_getElem? (i := 21) (by decide +kernel))) (by decide +kernel))⟩
theorem kv_X4_81 : gVl RX4 81 RJ4 yJ4_append_cf468 := ⟨(wG_in (tb_3 (List.mem_of_getElem? (i := 187) (by decide +kernel))) (by decide +kernel)), (wG_in (tb_3 (List.mem_of_getElem? (i := 188) (by decide +kernel))) (by decide +kernel)), (wG_in (tb_3 (List.mem_of_getElem? (i := 189) (by decide +kernel))) (by decide +kernel))⟩
theorem kv_X4_87 : gVl RX4 87 RJ4 yJ4_setLength_d00df := ⟨(wG_in (tb_2 (List.mem_of_getElem? (i := 26) (by decide +kernel))) (by decide +kernel)), (wG_in (tb_2 (List.mem_of_getElem? (i := 27) (by decide +kernel))) (by decide +kernel)), (wG_in (tb_2 (List.mem_of_getElem? (i := 28) (by decide +kernel))) (by decide +kernel))⟩
theorem kv_X4_91 : gVl RX4 91 RX4 yX4_projectOfPath := ⟨(wG_in (tb_3 (List.mem_of_getElem? (i := 112) (by decide +kernel))) (by decide +kernel)), (wG_in (tb_3 (List.mem_of_getElem? (i := 114) (by decide +kernel))) (by decide +kernel)), (wG_in (tp_1 (y := yX4_projectOfPath) (i := 11) (List.mem_of_getElem? (i := 4) (by decide +kernel))) (by decide +kernel))⟩
theorem kv_X4_99 : gVl RX4 99 RJx4a65c yJx4a65c_size_8abf5 := ⟨(wG_in (tb_3 (List.mem_of_getElem? (i := 135) (by decide +kernel))) (by decide +kernel)), (wG_in (tb_3 (List.mem_of_getElem? (i := 136) (by decide +kernel))) (by decide +kernel)), (wG_in (tb_3 (List.mem_of_getElem? (i := 137) (by decide +kernel))) (by decide +kernel))⟩
theorem kv_X4_104 : gVl RX4 104 RJ4 yJ4_charAt_5068e := ⟨(wG_in (tb_3 (List.mem_of_getElem? (i := 116) (by decide +kernel))) (by decide +kernel)), (wG_in (tb_3 (List.mem_of_getElem? (i := 117) (by decide +kernel))) (by decide +kernel)), (wG_in (tb_3 (List.mem_of_getElem? (i := 118) (by decide +kernel))) (by decide +kernel))⟩
theorem kv_X4_111 : gVl RX4 111 RX4 yX4_projectOfNumber := ⟨(wG_in (tb_3 (List.mem_of_getElem? (i := 230) (by decide +kernel))) (by decide +kernel)), (wG_in (tb_3 (List.mem_of_getElem? (i := 232) (by decide +kernel))) (by decide +kernel)), (wG_in (tp_1 (y := yX4_projectOfNumber) (i := 11) (List.mem_of_getElem? (i := 6) (by decide +kernel))) (by decide +kernel))⟩
theorem kv_X4_114 : gVl RX4 114 RX4 yX4_canMove := ⟨(wG_in (tb_4 (List.mem_of_getElem? (i := 7) (by decide +kernel))) (by decide +kernel)), (wG_in (tb_4 (List.mem_of_getElem? (i := 9) (by decide +kernel))) (by decide +kernel)), (wG_in (tp_1 (y := yX4_canMove) (i := 11) (List.mem_of_getElem? (i := 7) (by decide +kernel))) (by decide +kernel))⟩
theorem kv_X4_123 : gVl RX4 123 RX4 yX4_chargeFilesWithin := ⟨(wG_in (tb_4 (List.mem_of_getElem? (i := 25) (by decide +kernel))) (by decide +kernel)), (wG_in (tb_4 (List.mem_of_getElem? (i := 27) (by decide +kernel))) (by decide +kernel)), (wG_in (tp_1 (y := yX4_chargeFilesWithin) (i := 11) (List.mem_of_getElem? (i := 9) (by decide +kernel))) (by decide +kernel))⟩
theorem kv_X4_127 : gVl RX4 127 RX4 yX4_noteOverAccounts := ⟨(wG_in (tb_4 (List.mem_of_getElem? (i := 51) (by decide +kernel))) (by decide +kernel)), (wG_in (tb_4 (List.mem_of_getElem? (i := 53) (by decide +kernel))) (by decide +kernel)), (wG_in (tp_1 (y := yX4_noteOverAccounts) (i := 11) (List.mem_of_getElem? (i := 13) (by decide +kernel))) (by decide +kernel))⟩
theorem kv_X4_130 : gVl RX4 130 RX4 yX4_projectsWithin := ⟨(wG_in (tb_4 (List.mem_of_getElem? (i := 59) (by decide +kernel))) (by decide +kernel)), (wG_in (tb_4 (List.mem_of_getElem? (i := 61) (by decide +kernel))) (by decide +kernel)), (wG_in (tp_1 (y := yX4_projectsWithin) (i := 11) (List.mem_of_getElem? (i := 14) (by decide +kernel))) (by decide +kernel))⟩
theorem kv_X4_139 : gVl RX4 139 RX1 yX1_letters := ⟨(wG_in (tb_4 (List.mem_of_getElem? (i := 19) (by decide +kernel))) (by decide +kernel)), (wG_in (tb_4 (List.mem_of_getElem? (i := 20) (by decide +kernel))) (by decide +kernel)), (wG_in (tb_4 (List.mem_of_getElem? (i := 21) (by decide +kernel))) (by decide +kernel))⟩
theorem kv_X4_146 : gVl RX4 146 RX4 yX4_accountOf := ⟨(wG_in (tb_4 (List.mem_of_getElem? (i := 78) (by decide +kernel))) (by decide +kernel)), (wG_in (tb_4 (List.mem_of_getElem? (i := 80) (by decide +kernel))) (by decide +kernel)), (wG_in (tp_1 (y := yX4_accountOf) (i := 11) (List.mem_of_getElem? (i := 15) (by decide +kernel))) (by decide +kernel))⟩
theorem kv_X4_157 : gVl RX4 157 RX4 yX4_barringPlace := ⟨(wG_in (tb_4 (List.mem_of_getElem? (i := 114) (by decide +kernel))) (by decide +kernel)), (wG_in (tb_4 (List.mem_of_getElem? (i := 116) (by decide +kernel))) (by decide +kernel)), (wG_in (tp_2 (y := yX4_barringPlace) (i := 11) (List.mem_of_getElem? (i := 0) (by decide +kernel))) (by decide +kernel))⟩
theorem kv_X4_165 : gVl RX4 165 RX4 yX4_charge := ⟨(wG_in (tb_4 (List.mem_of_getElem? (i := 35) (by decide +kernel))) (by decide +kernel)), (wG_in (tb_4 (List.mem_of_getElem? (i := 37) (by decide +kernel))) (by decide +kernel)), (wG_in (tp_1 (y := yX4_charge) (i := 11) (List.mem_of_getElem? (i := 11) (by decide +kernel))) (by decide +kernel))⟩
theorem kv_X4_170 : gVl RX4 170 RX4 yX4_liveFile := ⟨(wG_in (tb_4 (List.mem_of_getElem? (i := 141) (by decide +kernel))) (by decide +kernel)), (wG_in (tb_4 (List.mem_of_getElem? (i := 143) (by decide +kernel))) (by decide +kernel)), (wG_in (tp_2 (y := yX4_liveFile) (i := 11) (List.mem_of_getElem? (i := 1) (by decide +kernel))) (by decide +kernel))⟩
theorem kv_X4_179 : gVl RX4 179 RX4 yX4_blocksUsedBy := ⟨(wG_in (tb_4 (List.mem_of_getElem? (i := 30) (by decide +kernel))) (by decide +kernel)), (wG_in (tb_4 (List.mem_of_getElem? (i := 32) (by decide +kernel))) (by decide +kernel)), (wG_in (tp_1 (y := yX4_blocksUsedBy) (i := 11) (List.mem_of_getElem? (i := 10) (by decide +kernel))) (by decide +kernel))⟩
theorem kv_X4_186 : gVl RX4 186 RJx4a65c yJx4a65c_get_915e3 := ⟨(wG_in (tb_3 (List.mem_of_getElem? (i := 139) (by decide +kernel))) (by decide +kernel)), (wG_in (tb_3 (List.mem_of_getElem? (i := 140) (by decide +kernel))) (by decide +kernel)), (wG_in (tb_3 (List.mem_of_getElem? (i := 141) (by decide +kernel))) (by decide +kernel))⟩
theorem kv_X4_226 : gVl RX4 226 RX0 yX0_noteOver := ⟨(wG_in (tb_4 (List.mem_of_getElem? (i := 55) (by decide +kernel))) (by decide +kernel)), (wG_in (tb_4 (List.mem_of_getElem? (i := 56) (by decide +kernel))) (by decide +kernel)), (wG_in (tb_4 (List.mem_of_getElem? (i := 57) (by decide +kernel))) (by decide +kernel))⟩
theorem kv_X4_239 : gVl RX4 239 RX4 yX4_countsIn := ⟨(wG_in (tb_4 (List.mem_of_getElem? (i := 237) (by decide +kernel))) (by decide +kernel)), (wG_in (tb_4 (List.mem_of_getElem? (i := 239) (by decide +kernel))) (by decide +kernel)), (wG_in (tp_2 (y := yX4_countsIn) (i := 11) (List.mem_of_getElem? (i := 2) (by decide +kernel))) (by decide +kernel))⟩
theorem kv_X4_243 : gVl RX4 243 RX0 yX0_graceLeft := ⟨(wG_in (tb_5 (List.mem_of_getElem? (i := 8) (by decide +kernel))) (by decide +kernel)), (wG_in (tb_4 (List.mem_of_getElem? (i := 127) (by decide +kernel))) (by decide +kernel)), (wG_in (tb_4 (List.mem_of_getElem? (i := 128) (by decide +kernel))) (by decide +kernel))⟩
theorem kv_X4_246 : gVl RX4 246 RX4 yX4_accountsOf := ⟨(wG_in (tb_4 (List.mem_of_getElem? (i := 39) (by decide +kernel))) (by decide +kernel)), (wG_in (tb_4 (List.mem_of_getElem? (i := 41) (by decide +kernel))) (by decide +kernel)), (wG_in (tp_1 (y := yX4_accountsOf) (i := 11) (List.mem_of_getElem? (i := 12) (by decide +kernel))) (by decide +kernel))⟩
theorem kv_X4_250 : gVl RX4 250 RX0 yX0_blocksLeft := ⟨(wG_in (tb_5 (List.mem_of_getElem? (i := 16) (by decide +kernel))) (by decide +kernel)), (wG_in (tb_4 (List.mem_of_getElem? (i := 123) (by decide +kernel))) (by decide +kernel)), (wG_in (tb_4 (List.mem_of_getElem? (i := 124) (by decide +kernel))) (by decide +kernel))⟩
theorem kv_X4_264 : gVl RX4 264 RX4 yX4_take := ⟨(wG_in (tb_5 (List.mem_of_getElem? (i := 26) (by decide +kernel))) (by decide +kernel)), (wG_in (tb_5 (List.mem_of_getElem? (i := 28) (by decide +kernel))) (by decide +kernel)), (wG_in (tp_2 (y := yX4_take) (i := 11) (List.mem_of_getElem? (i := 3) (by decide +kernel))) (by decide +kernel))⟩
theorem kv_X4_270 : gVl RX4 270 RX4 yX4_childOf := ⟨(wG_in (tb_3 (List.mem_of_getElem? (i := 131) (by decide +kernel))) (by decide +kernel)), (wG_in (tb_3 (List.mem_of_getElem? (i := 133) (by decide +kernel))) (by decide +kernel)), (wG_in (tp_1 (y := yX4_childOf) (i := 11) (List.mem_of_getElem? (i := 5) (by decide +kernel))) (by decide +kernel))⟩
theorem kv_X4_278 : gVl RX4 278 RJx4a65c yJx4a65c_clear_da8c8 := ⟨(wG_in (tb_4 (List.mem_of_getElem? (i := 43) (by decide +kernel))) (by decide +kernel)), (wG_in (tb_4 (List.mem_of_getElem? (i := 44) (by decide +kernel))) (by decide +kernel)), (wG_in (tb_4 (List.mem_of_getElem? (i := 45) (by decide +kernel))) (by decide +kernel))⟩
theorem kv_X4_287 : gVl RX4 287 RX1 yX1_isWithin := ⟨(wG_in (tb_4 (List.mem_of_getElem? (i := 11) (by decide +kernel))) (by decide +kernel)), (wG_in (tb_4 (List.mem_of_getElem? (i := 12) (by decide +kernel))) (by decide +kernel)), (wG_in (tb_4 (List.mem_of_getElem? (i := 13) (by decide +kernel))) (by decide +kernel))⟩
theorem kv_X4_291 : gVl RX4 291 RX4 yX4_deepestWithin := ⟨(wG_in (tb_4 (List.mem_of_getElem? (i := 15) (by decide +kernel))) (by decide +kernel)), (wG_in (tb_4 (List.mem_of_getElem? (i := 17) (by decide +kernel))) (by decide +kernel)), (wG_in (tp_1 (y := yX4_deepestWithin) (i := 11) (List.mem_of_getElem? (i := 8) (by decide +kernel))) (by decide +kernel))⟩
theorem kv_X4_300 : gVl RX4 300 RX0 yX0_add := ⟨(wG_in (tb_4 (List.mem_of_getElem? (i := 47) (by decide +kernel))) (by decide +kernel)), (wG_in (tb_4 (List.mem_of_getElem? (i := 48) (by decide +kernel))) (by decide +kernel)), (wG_in (tb_4 (List.mem_of_getElem? (i := 49) (by decide +kernel))) (by decide +kernel))⟩
theorem kv_X4_303 : gVl RX4 303 RX0 yX0_bars := ⟨(wG_in (tb_4 (List.mem_of_getElem? (i := 118) (by decide +kernel))) (by decide +kernel)), (wG_in (tb_4 (List.mem_of_getElem? (i := 119) (by decide +kernel))) (by decide +kernel)), (wG_in (tb_4 (List.mem_of_getElem? (i := 120) (by decide +kernel))) (by decide +kernel))⟩
theorem kk_X4_210 : Cond.constant RX4 210 (100000 : Int32) ∈ wG := (wG_in (tb_4 (List.mem_of_getElem? (i := 202) (by decide +kernel))) (by decide +kernel))
theorem kn_X4_7 : gNw RX4 7 6 RJx4a65c TJx4a65c 3 := ⟨rfl, (wG_in (tb_1 (List.mem_of_getElem? (i := 39) (by decide +kernel))) (by decide +kernel)), (wG_in (tb_1 (List.mem_of_getElem? (i := 40) (by decide +kernel))) (by decide +kernel)), (wG_in (tb_1 (List.mem_of_getElem? (i := 4) (by decide +kernel))) (by decide +kernel))⟩
theorem kn_X4_28 : gNw RX4 28 7 RJ4 TJ4 4 := ⟨rfl, (wG_in (tb_1 (List.mem_of_getElem? (i := 65) (by decide +kernel))) (by decide +kernel)), (wG_in (tb_1 (List.mem_of_getElem? (i := 66) (by decide +kernel))) (by decide +kernel)), (wG_in (tb_1 (List.mem_of_getElem? (i := 6) (by decide +kernel))) (by decide +kernel))⟩
theorem kn_X4_49 : gNw RX4 49 0 RX0 TX0 8 := ⟨rfl, (wG_in (tb_1 (List.mem_of_getElem? (i := 98) (by decide +kernel))) (by decide +kernel)), (wG_in (tb_1 (List.mem_of_getElem? (i := 99) (by decide +kernel))) (by decide +kernel)), (wG_in (tb_1 (List.mem_of_getElem? (i := 9) (by decide +kernel))) (by decide +kernel))⟩
theorem kn_X4_56 : gNw RX4 56 1 RX1 TX1 4 := ⟨rfl, (wG_in (tb_1 (List.mem_of_getElem? (i := 196) (by decide +kernel))) (by decide +kernel)), (wG_in (tb_1 (List.mem_of_getElem? (i := 197) (by decide +kernel))) (by decide +kernel)), (wG_in (tb_1 (List.mem_of_getElem? (i := 14) (by decide +kernel))) (by decide +kernel))⟩
theorem kn_X4_152 : gNw RX4 152 3 RX3 TX3 6 := ⟨rfl, (wG_in (tb_4 (List.mem_of_getElem? (i := 29) (by decide +kernel))) (by decide +kernel)), (wG_in (tb_4 (List.mem_of_getElem? (i := 84) (by decide +kernel))) (by decide +kernel)), (wG_in (tb_1 (List.mem_of_getElem? (i := 29) (by decide +kernel))) (by decide +kernel))⟩
theorem kn_X4_190 : gNw RX4 190 2 RX2 TX2 3 := ⟨rfl, (wG_in (tb_4 (List.mem_of_getElem? (i := 34) (by decide +kernel))) (by decide +kernel)), (wG_in (tb_4 (List.mem_of_getElem? (i := 169) (by decide +kernel))) (by decide +kernel)), (wG_in (tb_1 (List.mem_of_getElem? (i := 30) (by decide +kernel))) (by decide +kernel))⟩
theorem kf_X4_10 : gFl RX4 10 4 0 (.object "java/util/ArrayList") true := ⟨RX4, TX4, 11, "AllotmentLedger", rfl, by decide, (wG_in (tb_1 (List.mem_of_getElem? (i := 221) (by decide +kernel))) (by decide +kernel)), Or.inl rfl, by decide +kernel, rfl, fun _ => rfl⟩
theorem kf_X4_16 : gFl RX4 16 4 1 (.object "java/util/ArrayList") true := ⟨RX4, TX4, 11, "AllotmentLedger", rfl, by decide, (wG_in (tb_1 (List.mem_of_getElem? (i := 222) (by decide +kernel))) (by decide +kernel)), Or.inl rfl, by decide +kernel, rfl, fun _ => rfl⟩
theorem kf_X4_19 : gFl RX4 19 4 2 (.object "java/util/ArrayList") true := ⟨RX4, TX4, 11, "AllotmentLedger", rfl, by decide, (wG_in (tb_1 (List.mem_of_getElem? (i := 223) (by decide +kernel))) (by decide +kernel)), Or.inl rfl, by decide +kernel, rfl, fun _ => rfl⟩
theorem kf_X4_22 : gFl RX4 22 4 3 (.object "java/util/ArrayList") true := ⟨RX4, TX4, 11, "AllotmentLedger", rfl, by decide, (wG_in (tb_1 (List.mem_of_getElem? (i := 224) (by decide +kernel))) (by decide +kernel)), Or.inl rfl, by decide +kernel, rfl, fun _ => rfl⟩
theorem kf_X4_25 : gFl RX4 25 4 4 (.object "java/util/ArrayList") true := ⟨RX4, TX4, 11, "AllotmentLedger", rfl, by decide, (wG_in (tb_1 (List.mem_of_getElem? (i := 225) (by decide +kernel))) (by decide +kernel)), Or.inl rfl, by decide +kernel, rfl, fun _ => rfl⟩
theorem kf_X4_31 : gFl RX4 31 4 6 (.object "java/lang/StringBuilder") true := ⟨RX4, TX4, 11, "AllotmentLedger", rfl, by decide, (wG_in (tb_1 (List.mem_of_getElem? (i := 227) (by decide +kernel))) (by decide +kernel)), Or.inl rfl, by decide +kernel, rfl, fun _ => rfl⟩
theorem kf_X4_35 : gFl RX4 35 4 7 (.object "java/util/ArrayList") true := ⟨RX4, TX4, 11, "AllotmentLedger", rfl, by decide, (wG_in (tb_1 (List.mem_of_getElem? (i := 228) (by decide +kernel))) (by decide +kernel)), Or.inl rfl, by decide +kernel, rfl, fun _ => rfl⟩
theorem kf_X4_38 : gFl RX4 38 4 8 .int false := ⟨RX4, TX4, 11, "AllotmentLedger", rfl, by decide, (wG_in (tb_1 (List.mem_of_getElem? (i := 229) (by decide +kernel))) (by decide +kernel)), Or.inl rfl, by decide +kernel, rfl, fun h => nomatch h⟩
theorem kf_X4_42 : gFl RX4 42 4 9 .boolean false := ⟨RX4, TX4, 11, "AllotmentLedger", rfl, by decide, (wG_in (tb_1 (List.mem_of_getElem? (i := 230) (by decide +kernel))) (by decide +kernel)), Or.inl rfl, by decide +kernel, rfl, fun h => nomatch h⟩
theorem kf_X4_46 : gFl RX4 46 4 10 .int false := ⟨RX4, TX4, 11, "AllotmentLedger", rfl, by decide, (wG_in (tb_1 (List.mem_of_getElem? (i := 231) (by decide +kernel))) (by decide +kernel)), Or.inl rfl, by decide +kernel, rfl, fun h => nomatch h⟩
theorem kf_X4_61 : gFl RX4 61 4 5 (.object "AllotmentLedger$Project") true := ⟨RX4, TX4, 11, "AllotmentLedger", rfl, by decide, (wG_in (tb_1 (List.mem_of_getElem? (i := 226) (by decide +kernel))) (by decide +kernel)), Or.inl rfl, by decide +kernel, rfl, fun _ => rfl⟩
theorem kf_X4_120 : gFl RX4 120 1 3 (.object "AllotmentLedger$Project") false := ⟨RX1, TX1, 4, "AllotmentLedger$Project", rfl, by decide, (wG_in (tb_1 (List.mem_of_getElem? (i := 211) (by decide +kernel))) (by decide +kernel)), Or.inl rfl, by decide +kernel, rfl, fun h => nomatch h⟩
theorem kf_X4_174 : gFl RX4 174 3 4 .int false := ⟨RX3, TX3, 6, "AllotmentLedger$StoredFile", rfl, by decide, (wG_in (tb_4 (List.mem_of_getElem? (i := 98) (by decide +kernel))) (by decide +kernel)), Or.inl rfl, by decide +kernel, rfl, fun h => nomatch h⟩
theorem kf_X4_183 : gFl RX4 183 3 5 .boolean false := ⟨RX3, TX3, 6, "AllotmentLedger$StoredFile", rfl, by decide, (wG_in (tb_4 (List.mem_of_getElem? (i := 100) (by decide +kernel))) (by decide +kernel)), Or.inl rfl, by decide +kernel, rfl, fun h => nomatch h⟩
theorem kf_X4_196 : gFl RX4 196 2 2 .boolean false := ⟨RX2, TX2, 3, "AllotmentLedger$Reservation", rfl, by decide, (wG_in (tb_4 (List.mem_of_getElem? (i := 179) (by decide +kernel))) (by decide +kernel)), Or.inl rfl, by decide +kernel, rfl, fun h => nomatch h⟩
theorem kf_X4_199 : gFl RX4 199 3 3 (.object "AllotmentLedger$Project") false := ⟨RX3, TX3, 6, "AllotmentLedger$StoredFile", rfl, by decide, (wG_in (tb_4 (List.mem_of_getElem? (i := 96) (by decide +kernel))) (by decide +kernel)), Or.inl rfl, by decide +kernel, rfl, fun h => nomatch h⟩
theorem kf_X4_217 : gFl RX4 217 0 0 .int false := ⟨RX0, TX0, 8, "AllotmentLedger$Account", rfl, by decide, (wG_in (tb_1 (List.mem_of_getElem? (i := 105) (by decide +kernel))) (by decide +kernel)), Or.inl rfl, by decide +kernel, rfl, fun h => nomatch h⟩
theorem kf_X4_220 : gFl RX4 220 0 1 .int false := ⟨RX0, TX0, 8, "AllotmentLedger$Account", rfl, by decide, (wG_in (tb_1 (List.mem_of_getElem? (i := 107) (by decide +kernel))) (by decide +kernel)), Or.inl rfl, by decide +kernel, rfl, fun h => nomatch h⟩
theorem kf_X4_223 : gFl RX4 223 0 2 .int false := ⟨RX0, TX0, 8, "AllotmentLedger$Account", rfl, by decide, (wG_in (tb_1 (List.mem_of_getElem? (i := 109) (by decide +kernel))) (by decide +kernel)), Or.inl rfl, by decide +kernel, rfl, fun h => nomatch h⟩
theorem kf_X4_253 : gFl RX4 253 0 5 .int false := ⟨RX0, TX0, 8, "AllotmentLedger$Account", rfl, by decide, (wG_in (tb_1 (List.mem_of_getElem? (i := 115) (by decide +kernel))) (by decide +kernel)), Or.inl rfl, by decide +kernel, rfl, fun h => nomatch h⟩
theorem kg_X0_9 : gFg RX0 9 0 0 := ⟨RX0, TX0, 8, "AllotmentLedger$Account", rfl, by decide, (wG_in (tb_1 (List.mem_of_getElem? (i := 104) (by decide +kernel))) (by decide +kernel)), Or.inl rfl⟩
theorem kg_X0_15 : gFg RX0 15 0 1 := ⟨RX0, TX0, 8, "AllotmentLedger$Account", rfl, by decide, (wG_in (tb_1 (List.mem_of_getElem? (i := 106) (by decide +kernel))) (by decide +kernel)), Or.inl rfl⟩
theorem kg_X0_18 : gFg RX0 18 0 2 := ⟨RX0, TX0, 8, "AllotmentLedger$Account", rfl, by decide, (wG_in (tb_1 (List.mem_of_getElem? (i := 108) (by decide +kernel))) (by decide +kernel)), Or.inl rfl⟩
theorem kg_X0_21 : gFg RX0 21 0 3 := ⟨RX0, TX0, 8, "AllotmentLedger$Account", rfl, by decide, (wG_in (tb_1 (List.mem_of_getElem? (i := 110) (by decide +kernel))) (by decide +kernel)), Or.inl rfl⟩
theorem kg_X0_24 : gFg RX0 24 0 4 := ⟨RX0, TX0, 8, "AllotmentLedger$Account", rfl, by decide, (wG_in (tb_1 (List.mem_of_getElem? (i := 112) (by decide +kernel))) (by decide +kernel)), Or.inl rfl⟩
theorem kg_X0_30 : gFg RX0 30 0 6 := ⟨RX0, TX0, 8, "AllotmentLedger$Account", rfl, by decide, (wG_in (tb_1 (List.mem_of_getElem? (i := 116) (by decide +kernel))) (by decide +kernel)), Or.inl rfl⟩
theorem kg_X0_34 : gFg RX0 34 0 7 := ⟨RX0, TX0, 8, "AllotmentLedger$Account", rfl, by decide, (wG_in (tb_1 (List.mem_of_getElem? (i := 117) (by decide +kernel))) (by decide +kernel)), Or.inl rfl⟩
theorem ko_X0_3 : Cond.methodLink RX0 3 objectInit ∈ wG ∧ Cond.instanceMethod objectInit ∈ wG ∧ Cond.code objectInit ⟨#[0xb1]⟩ 1 none ∈ wG := ⟨(wG_in (tb_1 (List.mem_of_getElem? (i := 103) (by decide +kernel))) (by decide +kernel)), (wG_in (tb_1 (List.mem_of_getElem? (i := 37) (by decide +kernel))) (by decide +kernel)), (wG_in (tb_1 (List.mem_of_getElem? (i := 38) (by decide +kernel))) (by decide +kernel))⟩
theorem ks_X0_37 : gSl RX0 37 yJ9_max_7cf53 := ⟨(wG_in (tb_4 (List.mem_of_getElem? (i := 130) (by decide +kernel))) (by decide +kernel)), (wG_in (tb_1 (List.mem_of_getElem? (i := 155) (by decide +kernel))) (by decide +kernel))⟩
theorem kv_X0_43 : gVl RX0 43 RX0 yX0_graceLeft := ⟨(wG_in (tb_4 (List.mem_of_getElem? (i := 126) (by decide +kernel))) (by decide +kernel)), (wG_in (tb_4 (List.mem_of_getElem? (i := 127) (by decide +kernel))) (by decide +kernel)), (wG_in (tb_4 (List.mem_of_getElem? (i := 128) (by decide +kernel))) (by decide +kernel))⟩
theorem kv_X0_47 : gVl RX0 47 RX0 yX0_blocksLeft := ⟨(wG_in (tb_4 (List.mem_of_getElem? (i := 122) (by decide +kernel))) (by decide +kernel)), (wG_in (tb_4 (List.mem_of_getElem? (i := 123) (by decide +kernel))) (by decide +kernel)), (wG_in (tb_4 (List.mem_of_getElem? (i := 124) (by decide +kernel))) (by decide +kernel))⟩
theorem kf_X0_9 : gFl RX0 9 0 0 .int false := ⟨RX0, TX0, 8, "AllotmentLedger$Account", rfl, by decide, (wG_in (tb_1 (List.mem_of_getElem? (i := 104) (by decide +kernel))) (by decide +kernel)), Or.inl rfl, by decide +kernel, rfl, fun h => nomatch h⟩
theorem kf_X0_15 : gFl RX0 15 0 1 .int false := ⟨RX0, TX0, 8, "AllotmentLedger$Account", rfl, by decide, (wG_in (tb_1 (List.mem_of_getElem? (i := 106) (by decide +kernel))) (by decide +kernel)), Or.inl rfl, by decide +kernel, rfl, fun h => nomatch h⟩
theorem kf_X0_18 : gFl RX0 18 0 2 .int false := ⟨RX0, TX0, 8, "AllotmentLedger$Account", rfl, by decide, (wG_in (tb_1 (List.mem_of_getElem? (i := 108) (by decide +kernel))) (by decide +kernel)), Or.inl rfl, by decide +kernel, rfl, fun h => nomatch h⟩
theorem kf_X0_21 : gFl RX0 21 0 3 .int false := ⟨RX0, TX0, 8, "AllotmentLedger$Account", rfl, by decide, (wG_in (tb_1 (List.mem_of_getElem? (i := 110) (by decide +kernel))) (by decide +kernel)), Or.inl rfl, by decide +kernel, rfl, fun h => nomatch h⟩
theorem kf_X0_24 : gFl RX0 24 0 4 .int false := ⟨RX0, TX0, 8, "AllotmentLedger$Account", rfl, by decide, (wG_in (tb_1 (List.mem_of_getElem? (i := 112) (by decide +kernel))) (by decide +kernel)), Or.inl rfl, by decide +kernel, rfl, fun h => nomatch h⟩
theorem kf_X0_27 : gFl RX0 27 0 5 .int false := ⟨RX0, TX0, 8, "AllotmentLedger$Account", rfl, by decide, (wG_in (tb_1 (List.mem_of_getElem? (i := 114) (by decide +kernel))) (by decide +kernel)), Or.inl rfl, by decide +kernel, rfl, fun h => nomatch h⟩
theorem kf_X0_30 : gFl RX0 30 0 6 .boolean false := ⟨RX0, TX0, 8, "AllotmentLedger$Account", rfl, by decide, (wG_in (tb_1 (List.mem_of_getElem? (i := 116) (by decide +kernel))) (by decide +kernel)), Or.inl rfl, by decide +kernel, rfl, fun h => nomatch h⟩
theorem kf_X0_34 : gFl RX0 34 0 7 .int false := ⟨RX0, TX0, 8, "AllotmentLedger$Account", rfl, by decide, (wG_in (tb_1 (List.mem_of_getElem? (i := 117) (by decide +kernel))) (by decide +kernel)), Or.inl rfl, by decide +kernel, rfl, fun h => nomatch h⟩
theorem kg_X1_20 : gFg RX1 20 1 3 := ⟨RX1, TX1, 4, "AllotmentLedger$Project", rfl, by decide, (wG_in (tb_1 (List.mem_of_getElem? (i := 210) (by decide +kernel))) (by decide +kernel)), Or.inl rfl⟩
theorem ko_X1_1 : Cond.methodLink RX1 1 objectInit ∈ wG ∧ Cond.instanceMethod objectInit ∈ wG ∧ Cond.code objectInit ⟨#[0xb1]⟩ 1 none ∈ wG := ⟨(wG_in (tb_1 (List.mem_of_getElem? (i := 201) (by decide +kernel))) (by decide +kernel)), (wG_in (tb_1 (List.mem_of_getElem? (i := 37) (by decide +kernel))) (by decide +kernel)), (wG_in (tb_1 (List.mem_of_getElem? (i := 38) (by decide +kernel))) (by decide +kernel))⟩
theorem kn_X1_7 : gNw RX1 7 0 RX0 TX0 8 := ⟨rfl, (wG_in (tb_1 (List.mem_of_getElem? (i := 202) (by decide +kernel))) (by decide +kernel)), (wG_in (tb_1 (List.mem_of_getElem? (i := 99) (by decide +kernel))) (by decide +kernel)), (wG_in (tb_1 (List.mem_of_getElem? (i := 9) (by decide +kernel))) (by decide +kernel))⟩
theorem kf_X1_10 : gFl RX1 10 1 2 (.object "AllotmentLedger$Account") true := ⟨RX1, TX1, 4, "AllotmentLedger$Project", rfl, by decide, (wG_in (tb_1 (List.mem_of_getElem? (i := 208) (by decide +kernel))) (by decide +kernel)), Or.inl rfl, by decide +kernel, rfl, fun _ => rfl⟩
theorem kf_X1_16 : gFl RX1 16 1 0 .int true := ⟨RX1, TX1, 4, "AllotmentLedger$Project", rfl, by decide, (wG_in (tb_1 (List.mem_of_getElem? (i := 204) (by decide +kernel))) (by decide +kernel)), Or.inl rfl, by decide +kernel, rfl, fun _ => rfl⟩
theorem kf_X1_20 : gFl RX1 20 1 3 (.object "AllotmentLedger$Project") false := ⟨RX1, TX1, 4, "AllotmentLedger$Project", rfl, by decide, (wG_in (tb_1 (List.mem_of_getElem? (i := 210) (by decide +kernel))) (by decide +kernel)), Or.inl rfl, by decide +kernel, rfl, fun h => nomatch h⟩
theorem kf_X1_24 : gFl RX1 24 1 1 .char true := ⟨RX1, TX1, 4, "AllotmentLedger$Project", rfl, by decide, (wG_in (tb_1 (List.mem_of_getElem? (i := 206) (by decide +kernel))) (by decide +kernel)), Or.inl rfl, by decide +kernel, rfl, fun _ => rfl⟩
theorem ko_X2_1 : Cond.methodLink RX2 1 objectInit ∈ wG ∧ Cond.instanceMethod objectInit ∈ wG ∧ Cond.code objectInit ⟨#[0xb1]⟩ 1 none ∈ wG := ⟨(wG_in (tb_4 (List.mem_of_getElem? (i := 173) (by decide +kernel))) (by decide +kernel)), (wG_in (tb_1 (List.mem_of_getElem? (i := 37) (by decide +kernel))) (by decide +kernel)), (wG_in (tb_1 (List.mem_of_getElem? (i := 38) (by decide +kernel))) (by decide +kernel))⟩
theorem kf_X2_7 : gFl RX2 7 2 2 .boolean false := ⟨RX2, TX2, 3, "AllotmentLedger$Reservation", rfl, by decide, (wG_in (tb_4 (List.mem_of_getElem? (i := 178) (by decide +kernel))) (by decide +kernel)), Or.inl rfl, by decide +kernel, rfl, fun h => nomatch h⟩
theorem kf_X2_13 : gFl RX2 13 2 0 (.object "AllotmentLedger$StoredFile") true := ⟨RX2, TX2, 3, "AllotmentLedger$Reservation", rfl, by decide, (wG_in (tb_4 (List.mem_of_getElem? (i := 174) (by decide +kernel))) (by decide +kernel)), Or.inl rfl, by decide +kernel, rfl, fun _ => rfl⟩
theorem kf_X2_17 : gFl RX2 17 2 1 .int true := ⟨RX2, TX2, 3, "AllotmentLedger$Reservation", rfl, by decide, (wG_in (tb_4 (List.mem_of_getElem? (i := 176) (by decide +kernel))) (by decide +kernel)), Or.inl rfl, by decide +kernel, rfl, fun _ => rfl⟩
theorem ko_X3_1 : Cond.methodLink RX3 1 objectInit ∈ wG ∧ Cond.instanceMethod objectInit ∈ wG ∧ Cond.code objectInit ⟨#[0xb1]⟩ 1 none ∈ wG := ⟨(wG_in (tb_4 (List.mem_of_getElem? (i := 88) (by decide +kernel))) (by decide +kernel)), (wG_in (tb_1 (List.mem_of_getElem? (i := 37) (by decide +kernel))) (by decide +kernel)), (wG_in (tb_1 (List.mem_of_getElem? (i := 38) (by decide +kernel))) (by decide +kernel))⟩
theorem kf_X3_7 : gFl RX3 7 3 4 .int false := ⟨RX3, TX3, 6, "AllotmentLedger$StoredFile", rfl, by decide, (wG_in (tb_4 (List.mem_of_getElem? (i := 97) (by decide +kernel))) (by decide +kernel)), Or.inl rfl, by decide +kernel, rfl, fun h => nomatch h⟩
theorem kf_X3_13 : gFl RX3 13 3 5 .boolean false := ⟨RX3, TX3, 6, "AllotmentLedger$StoredFile", rfl, by decide, (wG_in (tb_4 (List.mem_of_getElem? (i := 99) (by decide +kernel))) (by decide +kernel)), Or.inl rfl, by decide +kernel, rfl, fun h => nomatch h⟩
theorem kf_X3_17 : gFl RX3 17 3 0 .int true := ⟨RX3, TX3, 6, "AllotmentLedger$StoredFile", rfl, by decide, (wG_in (tb_4 (List.mem_of_getElem? (i := 89) (by decide +kernel))) (by decide +kernel)), Or.inl rfl, by decide +kernel, rfl, fun _ => rfl⟩
theorem kf_X3_20 : gFl RX3 20 3 1 (.object "AllotmentLedger$Account") true := ⟨RX3, TX3, 6, "AllotmentLedger$StoredFile", rfl, by decide, (wG_in (tb_4 (List.mem_of_getElem? (i := 91) (by decide +kernel))) (by decide +kernel)), Or.inl rfl, by decide +kernel, rfl, fun _ => rfl⟩
theorem kf_X3_24 : gFl RX3 24 3 2 (.object "AllotmentLedger$Account") true := ⟨RX3, TX3, 6, "AllotmentLedger$StoredFile", rfl, by decide, (wG_in (tb_4 (List.mem_of_getElem? (i := 93) (by decide +kernel))) (by decide +kernel)), Or.inl rfl, by decide +kernel, rfl, fun _ => rfl⟩
theorem kf_X3_27 : gFl RX3 27 3 3 (.object "AllotmentLedger$Project") false := ⟨RX3, TX3, 6, "AllotmentLedger$StoredFile", rfl, by decide, (wG_in (tb_4 (List.mem_of_getElem? (i := 95) (by decide +kernel))) (by decide +kernel)), Or.inl rfl, by decide +kernel, rfl, fun h => nomatch h⟩
theorem ki_L_81 : gIl RL 81 yX4_init := ⟨(wG_in (tb_1 (List.mem_of_getElem? (i := 33) (by decide +kernel))) (by decide +kernel)), (wG_in (tb_1 (List.mem_of_getElem? (i := 34) (by decide +kernel))) (by decide +kernel)), rfl⟩
theorem ki_L_84 : gIl RL 84 yX5_init := ⟨(wG_in (tb_5 (List.mem_of_getElem? (i := 39) (by decide +kernel))) (by decide +kernel)), (wG_in (tb_5 (List.mem_of_getElem? (i := 40) (by decide +kernel))) (by decide +kernel)), rfl⟩
theorem ks_L_85 : gSl RL 85 yL_type := ⟨(wG_in (tb_3 (List.mem_of_getElem? (i := 159) (by decide +kernel))) (by decide +kernel)), (wG_in (tb_3 (List.mem_of_getElem? (i := 160) (by decide +kernel))) (by decide +kernel))⟩
theorem ks_L_94 : gSl RL 94 yL_back := ⟨(wG_in (tb_3 (List.mem_of_getElem? (i := 204) (by decide +kernel))) (by decide +kernel)), (wG_in (tb_3 (List.mem_of_getElem? (i := 205) (by decide +kernel))) (by decide +kernel))⟩
theorem ks_L_102 : gSl RL 102 yL_makeProject := ⟨(wG_in (tb_3 (List.mem_of_getElem? (i := 212) (by decide +kernel))) (by decide +kernel)), (wG_in (tb_3 (List.mem_of_getElem? (i := 213) (by decide +kernel))) (by decide +kernel))⟩
theorem ks_L_109 : gSl RL 109 yL_moveProject := ⟨(wG_in (tb_3 (List.mem_of_getElem? (i := 222) (by decide +kernel))) (by decide +kernel)), (wG_in (tb_3 (List.mem_of_getElem? (i := 223) (by decide +kernel))) (by decide +kernel))⟩
theorem ks_L_113 : gSl RL 113 yL_letterAt := ⟨(wG_in (tb_4 (List.mem_of_getElem? (i := 63) (by decide +kernel))) (by decide +kernel)), (wG_in (tb_4 (List.mem_of_getElem? (i := 64) (by decide +kernel))) (by decide +kernel))⟩
theorem ks_L_121 : gSl RL 121 yL_makeFile := ⟨(wG_in (tb_4 (List.mem_of_getElem? (i := 71) (by decide +kernel))) (by decide +kernel)), (wG_in (tb_4 (List.mem_of_getElem? (i := 72) (by decide +kernel))) (by decide +kernel))⟩
theorem ks_L_124 : gSl RL 124 yL_write := ⟨(wG_in (tb_4 (List.mem_of_getElem? (i := 134) (by decide +kernel))) (by decide +kernel)), (wG_in (tb_4 (List.mem_of_getElem? (i := 135) (by decide +kernel))) (by decide +kernel))⟩
theorem ks_L_127 : gSl RL 127 yL_delete := ⟨(wG_in (tb_4 (List.mem_of_getElem? (i := 147) (by decide +kernel))) (by decide +kernel)), (wG_in (tb_4 (List.mem_of_getElem? (i := 148) (by decide +kernel))) (by decide +kernel))⟩
theorem ks_L_130 : gSl RL 130 yL_moveFile := ⟨(wG_in (tb_4 (List.mem_of_getElem? (i := 154) (by decide +kernel))) (by decide +kernel)), (wG_in (tb_4 (List.mem_of_getElem? (i := 155) (by decide +kernel))) (by decide +kernel))⟩
theorem ks_L_133 : gSl RL 133 yL_reserve := ⟨(wG_in (tb_4 (List.mem_of_getElem? (i := 161) (by decide +kernel))) (by decide +kernel)), (wG_in (tb_4 (List.mem_of_getElem? (i := 162) (by decide +kernel))) (by decide +kernel))⟩
theorem ks_L_136 : gSl RL 136 yL_settle := ⟨(wG_in (tb_4 (List.mem_of_getElem? (i := 187) (by decide +kernel))) (by decide +kernel)), (wG_in (tb_4 (List.mem_of_getElem? (i := 188) (by decide +kernel))) (by decide +kernel))⟩
theorem ks_L_139 : gSl RL 139 yL_setLimits := ⟨(wG_in (tb_4 (List.mem_of_getElem? (i := 195) (by decide +kernel))) (by decide +kernel)), (wG_in (tb_4 (List.mem_of_getElem? (i := 196) (by decide +kernel))) (by decide +kernel))⟩
theorem ks_L_143 : gSl RL 143 yL_pass := ⟨(wG_in (tb_4 (List.mem_of_getElem? (i := 207) (by decide +kernel))) (by decide +kernel)), (wG_in (tb_4 (List.mem_of_getElem? (i := 208) (by decide +kernel))) (by decide +kernel))⟩
theorem ks_L_146 : gSl RL 146 yL_used := ⟨(wG_in (tb_4 (List.mem_of_getElem? (i := 216) (by decide +kernel))) (by decide +kernel)), (wG_in (tb_4 (List.mem_of_getElem? (i := 217) (by decide +kernel))) (by decide +kernel))⟩
theorem ks_L_149 : gSl RL 149 yL_filesOf := ⟨(wG_in (tb_4 (List.mem_of_getElem? (i := 223) (by decide +kernel))) (by decide +kernel)), (wG_in (tb_4 (List.mem_of_getElem? (i := 224) (by decide +kernel))) (by decide +kernel))⟩
theorem ks_L_152 : gSl RL 152 yL_usedByFiles := ⟨(wG_in (tb_4 (List.mem_of_getElem? (i := 230) (by decide +kernel))) (by decide +kernel)), (wG_in (tb_4 (List.mem_of_getElem? (i := 231) (by decide +kernel))) (by decide +kernel))⟩
theorem ks_L_155 : gSl RL 155 yL_grace := ⟨(wG_in (tb_5 (List.mem_of_getElem? (i := 1) (by decide +kernel))) (by decide +kernel)), (wG_in (tb_5 (List.mem_of_getElem? (i := 2) (by decide +kernel))) (by decide +kernel))⟩
theorem ks_L_158 : gSl RL 158 yL_room := ⟨(wG_in (tb_5 (List.mem_of_getElem? (i := 9) (by decide +kernel))) (by decide +kernel)), (wG_in (tb_5 (List.mem_of_getElem? (i := 10) (by decide +kernel))) (by decide +kernel))⟩
theorem ks_L_165 : gSl RL 165 yL_recount := ⟨(wG_in (tb_5 (List.mem_of_getElem? (i := 17) (by decide +kernel))) (by decide +kernel)), (wG_in (tb_5 (List.mem_of_getElem? (i := 18) (by decide +kernel))) (by decide +kernel))⟩
theorem ks_L_168 : gSl RL 168 yL_counted := ⟨(wG_in (tb_5 (List.mem_of_getElem? (i := 30) (by decide +kernel))) (by decide +kernel)), (wG_in (tb_5 (List.mem_of_getElem? (i := 31) (by decide +kernel))) (by decide +kernel))⟩
theorem kv_L_7 : gVl RL 7 RX4 yX4_type := ⟨(wG_in (tb_3 (List.mem_of_getElem? (i := 164) (by decide +kernel))) (by decide +kernel)), (wG_in (tb_3 (List.mem_of_getElem? (i := 165) (by decide +kernel))) (by decide +kernel)), (wG_in (tb_3 (List.mem_of_getElem? (i := 166) (by decide +kernel))) (by decide +kernel))⟩
theorem kv_L_17 : gVl RL 17 RX4 yX4_back := ⟨(wG_in (tb_3 (List.mem_of_getElem? (i := 207) (by decide +kernel))) (by decide +kernel)), (wG_in (tb_3 (List.mem_of_getElem? (i := 208) (by decide +kernel))) (by decide +kernel)), (wG_in (tb_3 (List.mem_of_getElem? (i := 209) (by decide +kernel))) (by decide +kernel))⟩
theorem kv_L_21 : gVl RL 21 RX4 yX4_makeProject := ⟨(wG_in (tb_3 (List.mem_of_getElem? (i := 215) (by decide +kernel))) (by decide +kernel)), (wG_in (tb_3 (List.mem_of_getElem? (i := 216) (by decide +kernel))) (by decide +kernel)), (wG_in (tb_3 (List.mem_of_getElem? (i := 217) (by decide +kernel))) (by decide +kernel))⟩
theorem kv_L_24 : gVl RL 24 RX4 yX4_moveProject := ⟨(wG_in (tb_3 (List.mem_of_getElem? (i := 226) (by decide +kernel))) (by decide +kernel)), (wG_in (tb_3 (List.mem_of_getElem? (i := 227) (by decide +kernel))) (by decide +kernel)), (wG_in (tb_3 (List.mem_of_getElem? (i := 228) (by decide +kernel))) (by decide +kernel))⟩
theorem kv_L_30 : gVl RL 30 RX4 yX4_letterAt := ⟨(wG_in (tb_4 (List.mem_of_getElem? (i := 66) (by decide +kernel))) (by decide +kernel)), (wG_in (tb_4 (List.mem_of_getElem? (i := 67) (by decide +kernel))) (by decide +kernel)), (wG_in (tb_4 (List.mem_of_getElem? (i := 68) (by decide +kernel))) (by decide +kernel))⟩
theorem kv_L_34 : gVl RL 34 RX4 yX4_makeFile := ⟨(wG_in (tb_4 (List.mem_of_getElem? (i := 74) (by decide +kernel))) (by decide +kernel)), (wG_in (tb_4 (List.mem_of_getElem? (i := 75) (by decide +kernel))) (by decide +kernel)), (wG_in (tb_4 (List.mem_of_getElem? (i := 76) (by decide +kernel))) (by decide +kernel))⟩
theorem kv_L_38 : gVl RL 38 RX4 yX4_write := ⟨(wG_in (tb_4 (List.mem_of_getElem? (i := 137) (by decide +kernel))) (by decide +kernel)), (wG_in (tb_4 (List.mem_of_getElem? (i := 138) (by decide +kernel))) (by decide +kernel)), (wG_in (tb_4 (List.mem_of_getElem? (i := 139) (by decide +kernel))) (by decide +kernel))⟩
theorem kv_L_41 : gVl RL 41 RX4 yX4_delete := ⟨(wG_in (tb_4 (List.mem_of_getElem? (i := 150) (by decide +kernel))) (by decide +kernel)), (wG_in (tb_4 (List.mem_of_getElem? (i := 151) (by decide +kernel))) (by decide +kernel)), (wG_in (tb_4 (List.mem_of_getElem? (i := 152) (by decide +kernel))) (by decide +kernel))⟩
theorem kv_L_44 : gVl RL 44 RX4 yX4_moveFile := ⟨(wG_in (tb_4 (List.mem_of_getElem? (i := 157) (by decide +kernel))) (by decide +kernel)), (wG_in (tb_4 (List.mem_of_getElem? (i := 158) (by decide +kernel))) (by decide +kernel)), (wG_in (tb_4 (List.mem_of_getElem? (i := 159) (by decide +kernel))) (by decide +kernel))⟩
theorem kv_L_47 : gVl RL 47 RX4 yX4_reserve := ⟨(wG_in (tb_4 (List.mem_of_getElem? (i := 164) (by decide +kernel))) (by decide +kernel)), (wG_in (tb_4 (List.mem_of_getElem? (i := 165) (by decide +kernel))) (by decide +kernel)), (wG_in (tb_4 (List.mem_of_getElem? (i := 166) (by decide +kernel))) (by decide +kernel))⟩
theorem kv_L_50 : gVl RL 50 RX4 yX4_settle := ⟨(wG_in (tb_4 (List.mem_of_getElem? (i := 190) (by decide +kernel))) (by decide +kernel)), (wG_in (tb_4 (List.mem_of_getElem? (i := 191) (by decide +kernel))) (by decide +kernel)), (wG_in (tb_4 (List.mem_of_getElem? (i := 192) (by decide +kernel))) (by decide +kernel))⟩
theorem kv_L_53 : gVl RL 53 RX4 yX4_setLimits := ⟨(wG_in (tb_4 (List.mem_of_getElem? (i := 198) (by decide +kernel))) (by decide +kernel)), (wG_in (tb_4 (List.mem_of_getElem? (i := 199) (by decide +kernel))) (by decide +kernel)), (wG_in (tb_4 (List.mem_of_getElem? (i := 200) (by decide +kernel))) (by decide +kernel))⟩
theorem kv_L_57 : gVl RL 57 RX4 yX4_pass := ⟨(wG_in (tb_4 (List.mem_of_getElem? (i := 210) (by decide +kernel))) (by decide +kernel)), (wG_in (tb_4 (List.mem_of_getElem? (i := 211) (by decide +kernel))) (by decide +kernel)), (wG_in (tb_4 (List.mem_of_getElem? (i := 212) (by decide +kernel))) (by decide +kernel))⟩
theorem kv_L_60 : gVl RL 60 RX4 yX4_used := ⟨(wG_in (tb_4 (List.mem_of_getElem? (i := 219) (by decide +kernel))) (by decide +kernel)), (wG_in (tb_4 (List.mem_of_getElem? (i := 220) (by decide +kernel))) (by decide +kernel)), (wG_in (tb_4 (List.mem_of_getElem? (i := 221) (by decide +kernel))) (by decide +kernel))⟩
theorem kv_L_63 : gVl RL 63 RX4 yX4_filesOf := ⟨(wG_in (tb_4 (List.mem_of_getElem? (i := 226) (by decide +kernel))) (by decide +kernel)), (wG_in (tb_4 (List.mem_of_getElem? (i := 227) (by decide +kernel))) (by decide +kernel)), (wG_in (tb_4 (List.mem_of_getElem? (i := 228) (by decide +kernel))) (by decide +kernel))⟩
theorem kv_L_66 : gVl RL 66 RX4 yX4_usedByFiles := ⟨(wG_in (tb_4 (List.mem_of_getElem? (i := 233) (by decide +kernel))) (by decide +kernel)), (wG_in (tb_4 (List.mem_of_getElem? (i := 234) (by decide +kernel))) (by decide +kernel)), (wG_in (tb_4 (List.mem_of_getElem? (i := 235) (by decide +kernel))) (by decide +kernel))⟩
theorem kv_L_69 : gVl RL 69 RX4 yX4_grace := ⟨(wG_in (tb_5 (List.mem_of_getElem? (i := 4) (by decide +kernel))) (by decide +kernel)), (wG_in (tb_5 (List.mem_of_getElem? (i := 5) (by decide +kernel))) (by decide +kernel)), (wG_in (tb_5 (List.mem_of_getElem? (i := 6) (by decide +kernel))) (by decide +kernel))⟩
theorem kv_L_72 : gVl RL 72 RX4 yX4_room := ⟨(wG_in (tb_5 (List.mem_of_getElem? (i := 12) (by decide +kernel))) (by decide +kernel)), (wG_in (tb_5 (List.mem_of_getElem? (i := 13) (by decide +kernel))) (by decide +kernel)), (wG_in (tb_5 (List.mem_of_getElem? (i := 14) (by decide +kernel))) (by decide +kernel))⟩
theorem kv_L_75 : gVl RL 75 RX4 yX4_recount := ⟨(wG_in (tb_5 (List.mem_of_getElem? (i := 20) (by decide +kernel))) (by decide +kernel)), (wG_in (tb_5 (List.mem_of_getElem? (i := 21) (by decide +kernel))) (by decide +kernel)), (wG_in (tb_5 (List.mem_of_getElem? (i := 22) (by decide +kernel))) (by decide +kernel))⟩
theorem kv_L_78 : gVl RL 78 RX4 yX4_counted := ⟨(wG_in (tb_5 (List.mem_of_getElem? (i := 33) (by decide +kernel))) (by decide +kernel)), (wG_in (tb_5 (List.mem_of_getElem? (i := 34) (by decide +kernel))) (by decide +kernel)), (wG_in (tb_5 (List.mem_of_getElem? (i := 35) (by decide +kernel))) (by decide +kernel))⟩
theorem kv_L_90 : gVl RL 90 RX5 yX5_type := ⟨(wG_in (tb_5 (List.mem_of_getElem? (i := 120) (by decide +kernel))) (by decide +kernel)), (wG_in (tb_5 (List.mem_of_getElem? (i := 121) (by decide +kernel))) (by decide +kernel)), (wG_in (tb_5 (List.mem_of_getElem? (i := 122) (by decide +kernel))) (by decide +kernel))⟩
theorem kv_L_91 : gVl RL 91 RX5 yX5_thrown := ⟨(wG_in (tb_5 (List.mem_of_getElem? (i := 116) (by decide +kernel))) (by decide +kernel)), (wG_in (tb_5 (List.mem_of_getElem? (i := 117) (by decide +kernel))) (by decide +kernel)), (wG_in (tb_5 (List.mem_of_getElem? (i := 118) (by decide +kernel))) (by decide +kernel))⟩
theorem kv_L_97 : gVl RL 97 RX5 yX5_back := ⟨(wG_in (tb_5 (List.mem_of_getElem? (i := 128) (by decide +kernel))) (by decide +kernel)), (wG_in (tb_5 (List.mem_of_getElem? (i := 129) (by decide +kernel))) (by decide +kernel)), (wG_in (tb_5 (List.mem_of_getElem? (i := 130) (by decide +kernel))) (by decide +kernel))⟩
theorem kv_L_98 : gVl RL 98 RX4 yX4_clearPath := ⟨(wG_in (tb_2 (List.mem_of_getElem? (i := 15) (by decide +kernel))) (by decide +kernel)), (wG_in (tb_2 (List.mem_of_getElem? (i := 16) (by decide +kernel))) (by decide +kernel)), (wG_in (tb_2 (List.mem_of_getElem? (i := 17) (by decide +kernel))) (by decide +kernel))⟩
theorem kv_L_101 : gVl RL 101 RX5 yX5_clearPath := ⟨(wG_in (tb_5 (List.mem_of_getElem? (i := 132) (by decide +kernel))) (by decide +kernel)), (wG_in (tb_5 (List.mem_of_getElem? (i := 133) (by decide +kernel))) (by decide +kernel)), (wG_in (tb_5 (List.mem_of_getElem? (i := 134) (by decide +kernel))) (by decide +kernel))⟩
theorem kv_L_104 : gVl RL 104 RX5 yX5_makeProject := ⟨(wG_in (tb_5 (List.mem_of_getElem? (i := 140) (by decide +kernel))) (by decide +kernel)), (wG_in (tb_5 (List.mem_of_getElem? (i := 141) (by decide +kernel))) (by decide +kernel)), (wG_in (tb_5 (List.mem_of_getElem? (i := 142) (by decide +kernel))) (by decide +kernel))⟩
theorem kv_L_105 : gVl RL 105 RX4 yX4_findProject := ⟨(wG_in (tb_3 (List.mem_of_getElem? (i := 108) (by decide +kernel))) (by decide +kernel)), (wG_in (tb_3 (List.mem_of_getElem? (i := 109) (by decide +kernel))) (by decide +kernel)), (wG_in (tb_3 (List.mem_of_getElem? (i := 110) (by decide +kernel))) (by decide +kernel))⟩
theorem kv_L_108 : gVl RL 108 RX5 yX5_findProject := ⟨(wG_in (tb_5 (List.mem_of_getElem? (i := 148) (by decide +kernel))) (by decide +kernel)), (wG_in (tb_5 (List.mem_of_getElem? (i := 149) (by decide +kernel))) (by decide +kernel)), (wG_in (tb_5 (List.mem_of_getElem? (i := 150) (by decide +kernel))) (by decide +kernel))⟩
theorem kv_L_112 : gVl RL 112 RX5 yX5_moveProject := ⟨(wG_in (tb_5 (List.mem_of_getElem? (i := 152) (by decide +kernel))) (by decide +kernel)), (wG_in (tb_5 (List.mem_of_getElem? (i := 153) (by decide +kernel))) (by decide +kernel)), (wG_in (tb_5 (List.mem_of_getElem? (i := 154) (by decide +kernel))) (by decide +kernel))⟩
theorem kv_L_116 : gVl RL 116 RX5 yX5_letterAt := ⟨(wG_in (tb_5 (List.mem_of_getElem? (i := 199) (by decide +kernel))) (by decide +kernel)), (wG_in (tb_5 (List.mem_of_getElem? (i := 200) (by decide +kernel))) (by decide +kernel)), (wG_in (tb_5 (List.mem_of_getElem? (i := 201) (by decide +kernel))) (by decide +kernel))⟩
theorem kv_L_117 : gVl RL 117 RX4 yX4_projects := ⟨(wG_in (tb_3 (List.mem_of_getElem? (i := 151) (by decide +kernel))) (by decide +kernel)), (wG_in (tb_3 (List.mem_of_getElem? (i := 152) (by decide +kernel))) (by decide +kernel)), (wG_in (tb_3 (List.mem_of_getElem? (i := 153) (by decide +kernel))) (by decide +kernel))⟩
theorem kv_L_120 : gVl RL 120 RX5 yX5_projects := ⟨(wG_in (tb_5 (List.mem_of_getElem? (i := 203) (by decide +kernel))) (by decide +kernel)), (wG_in (tb_5 (List.mem_of_getElem? (i := 204) (by decide +kernel))) (by decide +kernel)), (wG_in (tb_5 (List.mem_of_getElem? (i := 205) (by decide +kernel))) (by decide +kernel))⟩
theorem kv_L_123 : gVl RL 123 RX5 yX5_makeFile := ⟨(wG_in (tb_5 (List.mem_of_getElem? (i := 207) (by decide +kernel))) (by decide +kernel)), (wG_in (tb_5 (List.mem_of_getElem? (i := 208) (by decide +kernel))) (by decide +kernel)), (wG_in (tb_5 (List.mem_of_getElem? (i := 209) (by decide +kernel))) (by decide +kernel))⟩
theorem kv_L_126 : gVl RL 126 RX5 yX5_write := ⟨(wG_in (tb_5 (List.mem_of_getElem? (i := 227) (by decide +kernel))) (by decide +kernel)), (wG_in (tb_5 (List.mem_of_getElem? (i := 228) (by decide +kernel))) (by decide +kernel)), (wG_in (tb_5 (List.mem_of_getElem? (i := 229) (by decide +kernel))) (by decide +kernel))⟩
theorem kv_L_129 : gVl RL 129 RX5 yX5_delete := ⟨(wG_in (tb_5 (List.mem_of_getElem? (i := 235) (by decide +kernel))) (by decide +kernel)), (wG_in (tb_5 (List.mem_of_getElem? (i := 236) (by decide +kernel))) (by decide +kernel)), (wG_in (tb_5 (List.mem_of_getElem? (i := 237) (by decide +kernel))) (by decide +kernel))⟩
theorem kv_L_132 : gVl RL 132 RX5 yX5_moveFile := ⟨(wG_in (tb_5 (List.mem_of_getElem? (i := 239) (by decide +kernel))) (by decide +kernel)), (wG_in (tb_6 (List.mem_of_getElem? (i := 0) (by decide +kernel))) (by decide +kernel)), (wG_in (tb_6 (List.mem_of_getElem? (i := 1) (by decide +kernel))) (by decide +kernel))⟩
theorem kv_L_135 : gVl RL 135 RX5 yX5_reserve := ⟨(wG_in (tb_6 (List.mem_of_getElem? (i := 3) (by decide +kernel))) (by decide +kernel)), (wG_in (tb_6 (List.mem_of_getElem? (i := 4) (by decide +kernel))) (by decide +kernel)), (wG_in (tb_6 (List.mem_of_getElem? (i := 5) (by decide +kernel))) (by decide +kernel))⟩
theorem kv_L_138 : gVl RL 138 RX5 yX5_settle := ⟨(wG_in (tb_6 (List.mem_of_getElem? (i := 7) (by decide +kernel))) (by decide +kernel)), (wG_in (tb_6 (List.mem_of_getElem? (i := 8) (by decide +kernel))) (by decide +kernel)), (wG_in (tb_6 (List.mem_of_getElem? (i := 9) (by decide +kernel))) (by decide +kernel))⟩
theorem kv_L_142 : gVl RL 142 RX5 yX5_setLimits := ⟨(wG_in (tb_6 (List.mem_of_getElem? (i := 11) (by decide +kernel))) (by decide +kernel)), (wG_in (tb_6 (List.mem_of_getElem? (i := 12) (by decide +kernel))) (by decide +kernel)), (wG_in (tb_6 (List.mem_of_getElem? (i := 13) (by decide +kernel))) (by decide +kernel))⟩
theorem kv_L_145 : gVl RL 145 RX5 yX5_pass := ⟨(wG_in (tb_6 (List.mem_of_getElem? (i := 20) (by decide +kernel))) (by decide +kernel)), (wG_in (tb_6 (List.mem_of_getElem? (i := 21) (by decide +kernel))) (by decide +kernel)), (wG_in (tb_6 (List.mem_of_getElem? (i := 22) (by decide +kernel))) (by decide +kernel))⟩
theorem kv_L_148 : gVl RL 148 RX5 yX5_used := ⟨(wG_in (tb_6 (List.mem_of_getElem? (i := 24) (by decide +kernel))) (by decide +kernel)), (wG_in (tb_6 (List.mem_of_getElem? (i := 25) (by decide +kernel))) (by decide +kernel)), (wG_in (tb_6 (List.mem_of_getElem? (i := 26) (by decide +kernel))) (by decide +kernel))⟩
theorem kv_L_151 : gVl RL 151 RX5 yX5_filesOf := ⟨(wG_in (tb_6 (List.mem_of_getElem? (i := 32) (by decide +kernel))) (by decide +kernel)), (wG_in (tb_6 (List.mem_of_getElem? (i := 33) (by decide +kernel))) (by decide +kernel)), (wG_in (tb_6 (List.mem_of_getElem? (i := 34) (by decide +kernel))) (by decide +kernel))⟩
theorem kv_L_154 : gVl RL 154 RX5 yX5_usedByFiles := ⟨(wG_in (tb_6 (List.mem_of_getElem? (i := 36) (by decide +kernel))) (by decide +kernel)), (wG_in (tb_6 (List.mem_of_getElem? (i := 37) (by decide +kernel))) (by decide +kernel)), (wG_in (tb_6 (List.mem_of_getElem? (i := 38) (by decide +kernel))) (by decide +kernel))⟩
theorem kv_L_157 : gVl RL 157 RX5 yX5_grace := ⟨(wG_in (tb_6 (List.mem_of_getElem? (i := 41) (by decide +kernel))) (by decide +kernel)), (wG_in (tb_6 (List.mem_of_getElem? (i := 42) (by decide +kernel))) (by decide +kernel)), (wG_in (tb_6 (List.mem_of_getElem? (i := 43) (by decide +kernel))) (by decide +kernel))⟩
theorem kv_L_160 : gVl RL 160 RX5 yX5_room := ⟨(wG_in (tb_6 (List.mem_of_getElem? (i := 45) (by decide +kernel))) (by decide +kernel)), (wG_in (tb_6 (List.mem_of_getElem? (i := 46) (by decide +kernel))) (by decide +kernel)), (wG_in (tb_6 (List.mem_of_getElem? (i := 47) (by decide +kernel))) (by decide +kernel))⟩
theorem kv_L_161 : gVl RL 161 RX4 yX4_beginRecount := ⟨(wG_in (tb_3 (List.mem_of_getElem? (i := 155) (by decide +kernel))) (by decide +kernel)), (wG_in (tb_3 (List.mem_of_getElem? (i := 156) (by decide +kernel))) (by decide +kernel)), (wG_in (tb_3 (List.mem_of_getElem? (i := 157) (by decide +kernel))) (by decide +kernel))⟩
theorem kv_L_164 : gVl RL 164 RX5 yX5_beginRecount := ⟨(wG_in (tb_6 (List.mem_of_getElem? (i := 49) (by decide +kernel))) (by decide +kernel)), (wG_in (tb_6 (List.mem_of_getElem? (i := 50) (by decide +kernel))) (by decide +kernel)), (wG_in (tb_6 (List.mem_of_getElem? (i := 51) (by decide +kernel))) (by decide +kernel))⟩
theorem kv_L_167 : gVl RL 167 RX5 yX5_recount := ⟨(wG_in (tb_6 (List.mem_of_getElem? (i := 53) (by decide +kernel))) (by decide +kernel)), (wG_in (tb_6 (List.mem_of_getElem? (i := 54) (by decide +kernel))) (by decide +kernel)), (wG_in (tb_6 (List.mem_of_getElem? (i := 55) (by decide +kernel))) (by decide +kernel))⟩
theorem kv_L_170 : gVl RL 170 RX5 yX5_counted := ⟨(wG_in (tb_6 (List.mem_of_getElem? (i := 57) (by decide +kernel))) (by decide +kernel)), (wG_in (tb_6 (List.mem_of_getElem? (i := 58) (by decide +kernel))) (by decide +kernel)), (wG_in (tb_6 (List.mem_of_getElem? (i := 59) (by decide +kernel))) (by decide +kernel))⟩
theorem kn_L_8 : gNw RL 8 4 RX4 TX4 11 := ⟨rfl, (wG_in (tb_1 (List.mem_of_getElem? (i := 31) (by decide +kernel))) (by decide +kernel)), (wG_in (tb_1 (List.mem_of_getElem? (i := 32) (by decide +kernel))) (by decide +kernel)), (wG_in (tb_1 (List.mem_of_getElem? (i := 1) (by decide +kernel))) (by decide +kernel))⟩
theorem kn_L_82 : gNw RL 82 5 RX5 TX5 23 := ⟨rfl, (wG_in (tb_5 (List.mem_of_getElem? (i := 37) (by decide +kernel))) (by decide +kernel)), (wG_in (tb_5 (List.mem_of_getElem? (i := 38) (by decide +kernel))) (by decide +kernel)), (wG_in (tb_1 (List.mem_of_getElem? (i := 15) (by decide +kernel))) (by decide +kernel))⟩
theorem kg_X5_7 : gFg RX5 7 5 2 := ⟨RX5, TX5, 23, "AllotmentLedgerModel", rfl, by decide, (wG_in (tb_5 (List.mem_of_getElem? (i := 45) (by decide +kernel))) (by decide +kernel)), Or.inl rfl⟩
theorem kg_X5_13 : gFg RX5 13 5 4 := ⟨RX5, TX5, 23, "AllotmentLedgerModel", rfl, by decide, (wG_in (tb_5 (List.mem_of_getElem? (i := 47) (by decide +kernel))) (by decide +kernel)), Or.inl rfl⟩
theorem kg_X5_16 : gFg RX5 16 5 5 := ⟨RX5, TX5, 23, "AllotmentLedgerModel", rfl, by decide, (wG_in (tb_5 (List.mem_of_getElem? (i := 48) (by decide +kernel))) (by decide +kernel)), Or.inl rfl⟩
theorem kg_X5_20 : gFg RX5 20 5 6 := ⟨RX5, TX5, 23, "AllotmentLedgerModel", rfl, by decide, (wG_in (tb_5 (List.mem_of_getElem? (i := 49) (by decide +kernel))) (by decide +kernel)), Or.inl rfl⟩
theorem kg_X5_23 : gFg RX5 23 5 7 := ⟨RX5, TX5, 23, "AllotmentLedgerModel", rfl, by decide, (wG_in (tb_5 (List.mem_of_getElem? (i := 50) (by decide +kernel))) (by decide +kernel)), Or.inl rfl⟩
theorem kg_X5_27 : gFg RX5 27 5 9 := ⟨RX5, TX5, 23, "AllotmentLedgerModel", rfl, by decide, (wG_in (tb_5 (List.mem_of_getElem? (i := 52) (by decide +kernel))) (by decide +kernel)), Or.inl rfl⟩
theorem kg_X5_30 : gFg RX5 30 5 10 := ⟨RX5, TX5, 23, "AllotmentLedgerModel", rfl, by decide, (wG_in (tb_5 (List.mem_of_getElem? (i := 53) (by decide +kernel))) (by decide +kernel)), Or.inl rfl⟩
theorem kg_X5_33 : gFg RX5 33 5 11 := ⟨RX5, TX5, 23, "AllotmentLedgerModel", rfl, by decide, (wG_in (tb_5 (List.mem_of_getElem? (i := 54) (by decide +kernel))) (by decide +kernel)), Or.inl rfl⟩
theorem kg_X5_36 : gFg RX5 36 5 12 := ⟨RX5, TX5, 23, "AllotmentLedgerModel", rfl, by decide, (wG_in (tb_5 (List.mem_of_getElem? (i := 55) (by decide +kernel))) (by decide +kernel)), Or.inl rfl⟩
theorem kg_X5_40 : gFg RX5 40 5 14 := ⟨RX5, TX5, 23, "AllotmentLedgerModel", rfl, by decide, (wG_in (tb_5 (List.mem_of_getElem? (i := 57) (by decide +kernel))) (by decide +kernel)), Or.inl rfl⟩
theorem kg_X5_43 : gFg RX5 43 5 15 := ⟨RX5, TX5, 23, "AllotmentLedgerModel", rfl, by decide, (wG_in (tb_5 (List.mem_of_getElem? (i := 58) (by decide +kernel))) (by decide +kernel)), Or.inl rfl⟩
theorem kg_X5_46 : gFg RX5 46 5 16 := ⟨RX5, TX5, 23, "AllotmentLedgerModel", rfl, by decide, (wG_in (tb_5 (List.mem_of_getElem? (i := 59) (by decide +kernel))) (by decide +kernel)), Or.inl rfl⟩
theorem kg_X5_49 : gFg RX5 49 5 17 := ⟨RX5, TX5, 23, "AllotmentLedgerModel", rfl, by decide, (wG_in (tb_5 (List.mem_of_getElem? (i := 60) (by decide +kernel))) (by decide +kernel)), Or.inl rfl⟩
theorem kg_X5_52 : gFg RX5 52 5 18 := ⟨RX5, TX5, 23, "AllotmentLedgerModel", rfl, by decide, (wG_in (tb_5 (List.mem_of_getElem? (i := 61) (by decide +kernel))) (by decide +kernel)), Or.inl rfl⟩
theorem kg_X5_55 : gFg RX5 55 5 19 := ⟨RX5, TX5, 23, "AllotmentLedgerModel", rfl, by decide, (wG_in (tb_5 (List.mem_of_getElem? (i := 62) (by decide +kernel))) (by decide +kernel)), Or.inl rfl⟩
theorem kg_X5_58 : gFg RX5 58 5 20 := ⟨RX5, TX5, 23, "AllotmentLedgerModel", rfl, by decide, (wG_in (tb_5 (List.mem_of_getElem? (i := 63) (by decide +kernel))) (by decide +kernel)), Or.inl rfl⟩
theorem kg_X5_61 : gFg RX5 61 5 0 := ⟨RX5, TX5, 23, "AllotmentLedgerModel", rfl, by decide, (wG_in (tb_5 (List.mem_of_getElem? (i := 43) (by decide +kernel))) (by decide +kernel)), Or.inl rfl⟩
theorem kg_X5_64 : gFg RX5 64 5 3 := ⟨RX5, TX5, 23, "AllotmentLedgerModel", rfl, by decide, (wG_in (tb_5 (List.mem_of_getElem? (i := 46) (by decide +kernel))) (by decide +kernel)), Or.inl rfl⟩
theorem kg_X5_106 : gFg RX5 106 5 13 := ⟨RX5, TX5, 23, "AllotmentLedgerModel", rfl, by decide, (wG_in (tb_5 (List.mem_of_getElem? (i := 56) (by decide +kernel))) (by decide +kernel)), Or.inl rfl⟩
theorem kg_X5_115 : gFg RX5 115 5 8 := ⟨RX5, TX5, 23, "AllotmentLedgerModel", rfl, by decide, (wG_in (tb_5 (List.mem_of_getElem? (i := 51) (by decide +kernel))) (by decide +kernel)), Or.inl rfl⟩
theorem kg_X5_122 : gFg RX5 122 5 1 := ⟨RX5, TX5, 23, "AllotmentLedgerModel", rfl, by decide, (wG_in (tb_5 (List.mem_of_getElem? (i := 44) (by decide +kernel))) (by decide +kernel)), Or.inl rfl⟩
theorem kg_X5_152 : gFg RX5 152 5 21 := ⟨RX5, TX5, 23, "AllotmentLedgerModel", rfl, by decide, (wG_in (tb_5 (List.mem_of_getElem? (i := 64) (by decide +kernel))) (by decide +kernel)), Or.inl rfl⟩
theorem kg_X5_156 : gFg RX5 156 5 22 := ⟨RX5, TX5, 23, "AllotmentLedgerModel", rfl, by decide, (wG_in (tb_5 (List.mem_of_getElem? (i := 65) (by decide +kernel))) (by decide +kernel)), Or.inl rfl⟩
theorem ko_X5_1 : Cond.methodLink RX5 1 objectInit ∈ wG ∧ Cond.instanceMethod objectInit ∈ wG ∧ Cond.code objectInit ⟨#[0xb1]⟩ 1 none ∈ wG := ⟨(wG_in (tb_5 (List.mem_of_getElem? (i := 42) (by decide +kernel))) (by decide +kernel)), (wG_in (tb_1 (List.mem_of_getElem? (i := 37) (by decide +kernel))) (by decide +kernel)), (wG_in (tb_1 (List.mem_of_getElem? (i := 38) (by decide +kernel))) (by decide +kernel))⟩
theorem ks_X5_78 : gSl RX5 78 yX5_in := ⟨(wG_in (tb_5 (List.mem_of_getElem? (i := 160) (by decide +kernel))) (by decide +kernel)), (wG_in (tb_5 (List.mem_of_getElem? (i := 161) (by decide +kernel))) (by decide +kernel))⟩
theorem kv_X5_67 : gVl RX5 67 RX5 yX5_refused := ⟨(wG_in (tb_5 (List.mem_of_getElem? (i := 124) (by decide +kernel))) (by decide +kernel)), (wG_in (tb_5 (List.mem_of_getElem? (i := 126) (by decide +kernel))) (by decide +kernel)), (wG_in (tp_2 (y := yX5_refused) (i := 23) (List.mem_of_getElem? (i := 4) (by decide +kernel))) (by decide +kernel))⟩
theorem kv_X5_71 : gVl RX5 71 RX5 yX5_fine := ⟨(wG_in (tb_5 (List.mem_of_getElem? (i := 136) (by decide +kernel))) (by decide +kernel)), (wG_in (tb_5 (List.mem_of_getElem? (i := 138) (by decide +kernel))) (by decide +kernel)), (wG_in (tp_2 (y := yX5_fine) (i := 23) (List.mem_of_getElem? (i := 5) (by decide +kernel))) (by decide +kernel))⟩
theorem kv_X5_75 : gVl RX5 75 RX5 yX5_find := ⟨(wG_in (tb_5 (List.mem_of_getElem? (i := 144) (by decide +kernel))) (by decide +kernel)), (wG_in (tb_5 (List.mem_of_getElem? (i := 146) (by decide +kernel))) (by decide +kernel)), (wG_in (tp_2 (y := yX5_find) (i := 23) (List.mem_of_getElem? (i := 6) (by decide +kernel))) (by decide +kernel))⟩
theorem kv_X5_82 : gVl RX5 82 RX5 yX5_isWithin := ⟨(wG_in (tb_5 (List.mem_of_getElem? (i := 167) (by decide +kernel))) (by decide +kernel)), (wG_in (tb_5 (List.mem_of_getElem? (i := 169) (by decide +kernel))) (by decide +kernel)), (wG_in (tp_2 (y := yX5_isWithin) (i := 23) (List.mem_of_getElem? (i := 9) (by decide +kernel))) (by decide +kernel))⟩
theorem kv_X5_86 : gVl RX5 86 RX5 yX5_child := ⟨(wG_in (tb_5 (List.mem_of_getElem? (i := 171) (by decide +kernel))) (by decide +kernel)), (wG_in (tb_5 (List.mem_of_getElem? (i := 173) (by decide +kernel))) (by decide +kernel)), (wG_in (tp_2 (y := yX5_child) (i := 23) (List.mem_of_getElem? (i := 10) (by decide +kernel))) (by decide +kernel))⟩
theorem kv_X5_90 : gVl RX5 90 RX5 yX5_deepest := ⟨(wG_in (tb_5 (List.mem_of_getElem? (i := 175) (by decide +kernel))) (by decide +kernel)), (wG_in (tb_5 (List.mem_of_getElem? (i := 177) (by decide +kernel))) (by decide +kernel)), (wG_in (tp_2 (y := yX5_deepest) (i := 23) (List.mem_of_getElem? (i := 11) (by decide +kernel))) (by decide +kernel))⟩
theorem kv_X5_93 : gVl RX5 93 RX5 yX5_isProject := ⟨(wG_in (tb_5 (List.mem_of_getElem? (i := 156) (by decide +kernel))) (by decide +kernel)), (wG_in (tb_5 (List.mem_of_getElem? (i := 158) (by decide +kernel))) (by decide +kernel)), (wG_in (tp_2 (y := yX5_isProject) (i := 23) (List.mem_of_getElem? (i := 7) (by decide +kernel))) (by decide +kernel))⟩
theorem kv_X5_96 : gVl RX5 96 RX5 yX5_canMove := ⟨(wG_in (tb_5 (List.mem_of_getElem? (i := 163) (by decide +kernel))) (by decide +kernel)), (wG_in (tb_5 (List.mem_of_getElem? (i := 165) (by decide +kernel))) (by decide +kernel)), (wG_in (tp_2 (y := yX5_canMove) (i := 23) (List.mem_of_getElem? (i := 8) (by decide +kernel))) (by decide +kernel))⟩
theorem kv_X5_99 : gVl RX5 99 RX5 yX5_lead := ⟨(wG_in (tb_5 (List.mem_of_getElem? (i := 179) (by decide +kernel))) (by decide +kernel)), (wG_in (tb_5 (List.mem_of_getElem? (i := 181) (by decide +kernel))) (by decide +kernel)), (wG_in (tp_2 (y := yX5_lead) (i := 23) (List.mem_of_getElem? (i := 12) (by decide +kernel))) (by decide +kernel))⟩
theorem kv_X5_103 : gVl RX5 103 RX5 yX5_look := ⟨(wG_in (tb_5 (List.mem_of_getElem? (i := 183) (by decide +kernel))) (by decide +kernel)), (wG_in (tb_5 (List.mem_of_getElem? (i := 185) (by decide +kernel))) (by decide +kernel)), (wG_in (tp_2 (y := yX5_look) (i := 23) (List.mem_of_getElem? (i := 13) (by decide +kernel))) (by decide +kernel))⟩
theorem kv_X5_109 : gVl RX5 109 RX5 yX5_counts := ⟨(wG_in (tb_5 (List.mem_of_getElem? (i := 191) (by decide +kernel))) (by decide +kernel)), (wG_in (tb_5 (List.mem_of_getElem? (i := 193) (by decide +kernel))) (by decide +kernel)), (wG_in (tp_2 (y := yX5_counts) (i := 23) (List.mem_of_getElem? (i := 15) (by decide +kernel))) (by decide +kernel))⟩
theorem kv_X5_112 : gVl RX5 112 RX5 yX5_usage := ⟨(wG_in (tb_5 (List.mem_of_getElem? (i := 195) (by decide +kernel))) (by decide +kernel)), (wG_in (tb_5 (List.mem_of_getElem? (i := 197) (by decide +kernel))) (by decide +kernel)), (wG_in (tp_3 (y := yX5_usage) (i := 23) (List.mem_of_getElem? (i := 0) (by decide +kernel))) (by decide +kernel))⟩
theorem kv_X5_118 : gVl RX5 118 RX5 yX5_sum := ⟨(wG_in (tb_5 (List.mem_of_getElem? (i := 187) (by decide +kernel))) (by decide +kernel)), (wG_in (tb_5 (List.mem_of_getElem? (i := 189) (by decide +kernel))) (by decide +kernel)), (wG_in (tp_2 (y := yX5_sum) (i := 23) (List.mem_of_getElem? (i := 14) (by decide +kernel))) (by decide +kernel))⟩
theorem kv_X5_125 : gVl RX5 125 RX5 yX5_asked := ⟨(wG_in (tb_5 (List.mem_of_getElem? (i := 215) (by decide +kernel))) (by decide +kernel)), (wG_in (tb_5 (List.mem_of_getElem? (i := 217) (by decide +kernel))) (by decide +kernel)), (wG_in (tp_3 (y := yX5_asked) (i := 23) (List.mem_of_getElem? (i := 2) (by decide +kernel))) (by decide +kernel))⟩
theorem kv_X5_129 : gVl RX5 129 RX5 yX5_isGraceGone := ⟨(wG_in (tb_5 (List.mem_of_getElem? (i := 219) (by decide +kernel))) (by decide +kernel)), (wG_in (tb_5 (List.mem_of_getElem? (i := 221) (by decide +kernel))) (by decide +kernel)), (wG_in (tp_3 (y := yX5_isGraceGone) (i := 23) (List.mem_of_getElem? (i := 3) (by decide +kernel))) (by decide +kernel))⟩
theorem kv_X5_132 : gVl RX5 132 RX5 yX5_countFiles := ⟨(wG_in (tb_5 (List.mem_of_getElem? (i := 223) (by decide +kernel))) (by decide +kernel)), (wG_in (tb_5 (List.mem_of_getElem? (i := 225) (by decide +kernel))) (by decide +kernel)), (wG_in (tp_3 (y := yX5_countFiles) (i := 23) (List.mem_of_getElem? (i := 4) (by decide +kernel))) (by decide +kernel))⟩
theorem kv_X5_135 : gVl RX5 135 RX5 yX5_barring := ⟨(wG_in (tb_5 (List.mem_of_getElem? (i := 211) (by decide +kernel))) (by decide +kernel)), (wG_in (tb_5 (List.mem_of_getElem? (i := 213) (by decide +kernel))) (by decide +kernel)), (wG_in (tp_3 (y := yX5_barring) (i := 23) (List.mem_of_getElem? (i := 1) (by decide +kernel))) (by decide +kernel))⟩
theorem kv_X5_139 : gVl RX5 139 RX5 yX5_isFile := ⟨(wG_in (tb_5 (List.mem_of_getElem? (i := 231) (by decide +kernel))) (by decide +kernel)), (wG_in (tb_5 (List.mem_of_getElem? (i := 233) (by decide +kernel))) (by decide +kernel)), (wG_in (tp_3 (y := yX5_isFile) (i := 23) (List.mem_of_getElem? (i := 5) (by decide +kernel))) (by decide +kernel))⟩
theorem kv_X5_142 : gVl RX5 142 RX5 yX5_accountOf := ⟨(wG_in (tb_6 (List.mem_of_getElem? (i := 15) (by decide +kernel))) (by decide +kernel)), (wG_in (tb_6 (List.mem_of_getElem? (i := 17) (by decide +kernel))) (by decide +kernel)), (wG_in (tp_3 (y := yX5_accountOf) (i := 23) (List.mem_of_getElem? (i := 6) (by decide +kernel))) (by decide +kernel))⟩
theorem kv_X5_146 : gVl RX5 146 RX5 yX5_noAccount := ⟨(wG_in (tb_6 (List.mem_of_getElem? (i := 28) (by decide +kernel))) (by decide +kernel)), (wG_in (tb_6 (List.mem_of_getElem? (i := 30) (by decide +kernel))) (by decide +kernel)), (wG_in (tp_3 (y := yX5_noAccount) (i := 23) (List.mem_of_getElem? (i := 7) (by decide +kernel))) (by decide +kernel))⟩
theorem kv_X5_149 : gVl RX5 149 RX5 yX5_used := ⟨(wG_in (tb_6 (List.mem_of_getElem? (i := 40) (by decide +kernel))) (by decide +kernel)), (wG_in (tb_6 (List.mem_of_getElem? (i := 25) (by decide +kernel))) (by decide +kernel)), (wG_in (tb_6 (List.mem_of_getElem? (i := 26) (by decide +kernel))) (by decide +kernel))⟩
theorem kk_X5_145 : Cond.constant RX5 145 (100000 : Int32) ∈ wG := (wG_in (tb_6 (List.mem_of_getElem? (i := 19) (by decide +kernel))) (by decide +kernel))
theorem kf_X5_7 : gFl RX5 7 5 2 (.array .char) true := ⟨RX5, TX5, 23, "AllotmentLedgerModel", rfl, by decide, (wG_in (tb_5 (List.mem_of_getElem? (i := 45) (by decide +kernel))) (by decide +kernel)), Or.inl rfl, by decide +kernel, rfl, fun _ => rfl⟩
theorem kf_X5_13 : gFl RX5 13 5 4 (.array .char) true := ⟨RX5, TX5, 23, "AllotmentLedgerModel", rfl, by decide, (wG_in (tb_5 (List.mem_of_getElem? (i := 47) (by decide +kernel))) (by decide +kernel)), Or.inl rfl, by decide +kernel, rfl, fun _ => rfl⟩
theorem kf_X5_16 : gFl RX5 16 5 5 .int false := ⟨RX5, TX5, 23, "AllotmentLedgerModel", rfl, by decide, (wG_in (tb_5 (List.mem_of_getElem? (i := 48) (by decide +kernel))) (by decide +kernel)), Or.inl rfl, by decide +kernel, rfl, fun h => nomatch h⟩
theorem kf_X5_20 : gFl RX5 20 5 6 (.array .char) true := ⟨RX5, TX5, 23, "AllotmentLedgerModel", rfl, by decide, (wG_in (tb_5 (List.mem_of_getElem? (i := 49) (by decide +kernel))) (by decide +kernel)), Or.inl rfl, by decide +kernel, rfl, fun _ => rfl⟩
theorem kf_X5_23 : gFl RX5 23 5 7 (.array .int) true := ⟨RX5, TX5, 23, "AllotmentLedgerModel", rfl, by decide, (wG_in (tb_5 (List.mem_of_getElem? (i := 50) (by decide +kernel))) (by decide +kernel)), Or.inl rfl, by decide +kernel, rfl, fun _ => rfl⟩
theorem kf_X5_27 : gFl RX5 27 5 9 (.array .int) true := ⟨RX5, TX5, 23, "AllotmentLedgerModel", rfl, by decide, (wG_in (tb_5 (List.mem_of_getElem? (i := 52) (by decide +kernel))) (by decide +kernel)), Or.inl rfl, by decide +kernel, rfl, fun _ => rfl⟩
theorem kf_X5_30 : gFl RX5 30 5 10 (.array .int) true := ⟨RX5, TX5, 23, "AllotmentLedgerModel", rfl, by decide, (wG_in (tb_5 (List.mem_of_getElem? (i := 53) (by decide +kernel))) (by decide +kernel)), Or.inl rfl, by decide +kernel, rfl, fun _ => rfl⟩
theorem kf_X5_33 : gFl RX5 33 5 11 (.array .int) true := ⟨RX5, TX5, 23, "AllotmentLedgerModel", rfl, by decide, (wG_in (tb_5 (List.mem_of_getElem? (i := 54) (by decide +kernel))) (by decide +kernel)), Or.inl rfl, by decide +kernel, rfl, fun _ => rfl⟩
theorem kf_X5_36 : gFl RX5 36 5 12 (.array .boolean) true := ⟨RX5, TX5, 23, "AllotmentLedgerModel", rfl, by decide, (wG_in (tb_5 (List.mem_of_getElem? (i := 55) (by decide +kernel))) (by decide +kernel)), Or.inl rfl, by decide +kernel, rfl, fun _ => rfl⟩
theorem kf_X5_40 : gFl RX5 40 5 14 (.array .int) true := ⟨RX5, TX5, 23, "AllotmentLedgerModel", rfl, by decide, (wG_in (tb_5 (List.mem_of_getElem? (i := 57) (by decide +kernel))) (by decide +kernel)), Or.inl rfl, by decide +kernel, rfl, fun _ => rfl⟩
theorem kf_X5_43 : gFl RX5 43 5 15 (.array .int) true := ⟨RX5, TX5, 23, "AllotmentLedgerModel", rfl, by decide, (wG_in (tb_5 (List.mem_of_getElem? (i := 58) (by decide +kernel))) (by decide +kernel)), Or.inl rfl, by decide +kernel, rfl, fun _ => rfl⟩
theorem kf_X5_46 : gFl RX5 46 5 16 (.array .boolean) true := ⟨RX5, TX5, 23, "AllotmentLedgerModel", rfl, by decide, (wG_in (tb_5 (List.mem_of_getElem? (i := 59) (by decide +kernel))) (by decide +kernel)), Or.inl rfl, by decide +kernel, rfl, fun _ => rfl⟩
theorem kf_X5_49 : gFl RX5 49 5 17 (.array .int) true := ⟨RX5, TX5, 23, "AllotmentLedgerModel", rfl, by decide, (wG_in (tb_5 (List.mem_of_getElem? (i := 60) (by decide +kernel))) (by decide +kernel)), Or.inl rfl, by decide +kernel, rfl, fun _ => rfl⟩
theorem kf_X5_52 : gFl RX5 52 5 18 (.array .int) true := ⟨RX5, TX5, 23, "AllotmentLedgerModel", rfl, by decide, (wG_in (tb_5 (List.mem_of_getElem? (i := 61) (by decide +kernel))) (by decide +kernel)), Or.inl rfl, by decide +kernel, rfl, fun _ => rfl⟩
theorem kf_X5_55 : gFl RX5 55 5 19 (.array .int) true := ⟨RX5, TX5, 23, "AllotmentLedgerModel", rfl, by decide, (wG_in (tb_5 (List.mem_of_getElem? (i := 62) (by decide +kernel))) (by decide +kernel)), Or.inl rfl, by decide +kernel, rfl, fun _ => rfl⟩
theorem kf_X5_58 : gFl RX5 58 5 20 (.array .int) true := ⟨RX5, TX5, 23, "AllotmentLedgerModel", rfl, by decide, (wG_in (tb_5 (List.mem_of_getElem? (i := 63) (by decide +kernel))) (by decide +kernel)), Or.inl rfl, by decide +kernel, rfl, fun _ => rfl⟩
theorem kf_X5_61 : gFl RX5 61 5 0 .int false := ⟨RX5, TX5, 23, "AllotmentLedgerModel", rfl, by decide, (wG_in (tb_5 (List.mem_of_getElem? (i := 43) (by decide +kernel))) (by decide +kernel)), Or.inl rfl, by decide +kernel, rfl, fun h => nomatch h⟩
theorem kf_X5_64 : gFl RX5 64 5 3 .int false := ⟨RX5, TX5, 23, "AllotmentLedgerModel", rfl, by decide, (wG_in (tb_5 (List.mem_of_getElem? (i := 46) (by decide +kernel))) (by decide +kernel)), Or.inl rfl, by decide +kernel, rfl, fun h => nomatch h⟩
theorem kf_X5_106 : gFl RX5 106 5 13 .int false := ⟨RX5, TX5, 23, "AllotmentLedgerModel", rfl, by decide, (wG_in (tb_5 (List.mem_of_getElem? (i := 56) (by decide +kernel))) (by decide +kernel)), Or.inl rfl, by decide +kernel, rfl, fun h => nomatch h⟩
theorem kf_X5_115 : gFl RX5 115 5 8 .int false := ⟨RX5, TX5, 23, "AllotmentLedgerModel", rfl, by decide, (wG_in (tb_5 (List.mem_of_getElem? (i := 51) (by decide +kernel))) (by decide +kernel)), Or.inl rfl, by decide +kernel, rfl, fun h => nomatch h⟩
theorem kf_X5_122 : gFl RX5 122 5 1 .int false := ⟨RX5, TX5, 23, "AllotmentLedgerModel", rfl, by decide, (wG_in (tb_5 (List.mem_of_getElem? (i := 44) (by decide +kernel))) (by decide +kernel)), Or.inl rfl, by decide +kernel, rfl, fun h => nomatch h⟩
theorem kf_X5_152 : gFl RX5 152 5 21 .boolean false := ⟨RX5, TX5, 23, "AllotmentLedgerModel", rfl, by decide, (wG_in (tb_5 (List.mem_of_getElem? (i := 64) (by decide +kernel))) (by decide +kernel)), Or.inl rfl, by decide +kernel, rfl, fun h => nomatch h⟩
theorem kf_X5_156 : gFl RX5 156 5 22 .int false := ⟨RX5, TX5, 23, "AllotmentLedgerModel", rfl, by decide, (wG_in (tb_5 (List.mem_of_getElem? (i := 65) (by decide +kernel))) (by decide +kernel)), Or.inl rfl, by decide +kernel, rfl, fun h => nomatch h⟩
theorem kg_J5_15 : gFg RJ5 15 7 0 := ⟨RJ4, TJ4, 4, "java/lang/AbstractStringBuilder", rfl, by decide, (wG_in (tb_1 (List.mem_of_getElem? (i := 83) (by decide +kernel))) (by decide +kernel)), Or.inl rfl⟩
theorem kg_J5_22 : gFg RJ5 22 7 1 := ⟨RJ4, TJ4, 4, "java/lang/AbstractStringBuilder", rfl, by decide, (wG_in (tb_1 (List.mem_of_getElem? (i := 84) (by decide +kernel))) (by decide +kernel)), Or.inl rfl⟩
theorem kg_J5_79 : gFg RJ5 79 7 3 := ⟨RJ4, TJ4, 4, "java/lang/AbstractStringBuilder", rfl, by decide, (wG_in (tb_1 (List.mem_of_getElem? (i := 87) (by decide +kernel))) (by decide +kernel)), Or.inl rfl⟩
theorem kt_J5_18 : Cond.fieldLink RJ5 18 "java/lang/String" "COMPACT_STRINGS" "Z" ∈ wG := (wG_in (tb_1 (List.mem_of_getElem? (i := 74) (by decide +kernel))) (by decide +kernel))
theorem ko_J5_3 : Cond.methodLink RJ5 3 objectInit ∈ wG ∧ Cond.instanceMethod objectInit ∈ wG ∧ Cond.code objectInit ⟨#[0xb1]⟩ 1 none ∈ wG := ⟨(wG_in (tb_1 (List.mem_of_getElem? (i := 73) (by decide +kernel))) (by decide +kernel)), (wG_in (tb_1 (List.mem_of_getElem? (i := 37) (by decide +kernel))) (by decide +kernel)), (wG_in (tb_1 (List.mem_of_getElem? (i := 38) (by decide +kernel))) (by decide +kernel))⟩
theorem ks_J5_138 : gSl RJ5 138 yJ9_min_7cf53 := ⟨(wG_in (tb_3 (List.mem_of_getElem? (i := 123) (by decide +kernel))) (by decide +kernel)), (wG_in (tb_1 (List.mem_of_getElem? (i := 189) (by decide +kernel))) (by decide +kernel))⟩
theorem ks_J5_144 : gSl RJ5 144 yJ0_checkIndex_df160 := ⟨(wG_in (tb_3 (List.mem_of_getElem? (i := 124) (by decide +kernel))) (by decide +kernel)), (wG_in (tb_3 (List.mem_of_getElem? (i := 125) (by decide +kernel))) (by decide +kernel))⟩
theorem ks_J5_191 : gSl RJ5 191 yJ1_canEncode_fc78d := ⟨(wG_in (tb_3 (List.mem_of_getElem? (i := 194) (by decide +kernel))) (by decide +kernel)), (wG_in (tb_3 (List.mem_of_getElem? (i := 195) (by decide +kernel))) (by decide +kernel))⟩
theorem kv_J5_83 : gVl RJ5 83 RJ4 yJ5_isLatin1_aae02 := ⟨(wG_in (tb_2 (List.mem_of_getElem? (i := 72) (by decide +kernel))) (by decide +kernel)), (wG_in (tb_2 (List.mem_of_getElem? (i := 73) (by decide +kernel))) (by decide +kernel)), (wG_in (tb_2 (List.mem_of_getElem? (i := 75) (by decide +kernel))) (by decide +kernel))⟩
theorem kv_J5_100 : gVl RJ5 100 RJ4 yJ5_ensureCapacityInternal_d00df := ⟨(wG_in (tb_2 (List.mem_of_getElem? (i := 52) (by decide +kernel))) (by decide +kernel)), (wG_in (tb_2 (List.mem_of_getElem? (i := 54) (by decide +kernel))) (by decide +kernel)), (wG_ext (List.mem_of_getElem? (i := 0) rfl) (by decide +kernel))⟩
theorem kf_J5_15 : gFl RJ5 15 7 0 (.array .byte) false := ⟨RJ4, TJ4, 4, "java/lang/AbstractStringBuilder", rfl, by decide, (wG_in (tb_1 (List.mem_of_getElem? (i := 83) (by decide +kernel))) (by decide +kernel)), Or.inl rfl, by decide +kernel, rfl, fun h => nomatch h⟩
theorem kf_J5_22 : gFl RJ5 22 7 1 .byte false := ⟨RJ4, TJ4, 4, "java/lang/AbstractStringBuilder", rfl, by decide, (wG_in (tb_1 (List.mem_of_getElem? (i := 84) (by decide +kernel))) (by decide +kernel)), Or.inl rfl, by decide +kernel, rfl, fun h => nomatch h⟩
theorem kf_J5_73 : gFl RJ5 73 7 2 .boolean false := ⟨RJ4, TJ4, 4, "java/lang/AbstractStringBuilder", rfl, by decide, (wG_in (tb_1 (List.mem_of_getElem? (i := 85) (by decide +kernel))) (by decide +kernel)), Or.inl rfl, by decide +kernel, rfl, fun h => nomatch h⟩
theorem kf_J5_79 : gFl RJ5 79 7 3 .int false := ⟨RJ4, TJ4, 4, "java/lang/AbstractStringBuilder", rfl, by decide, (wG_in (tb_1 (List.mem_of_getElem? (i := 87) (by decide +kernel))) (by decide +kernel)), Or.inl rfl, by decide +kernel, rfl, fun h => nomatch h⟩
theorem kt_J0_1053 : Cond.fieldLink RJ0 1053 "jdk/internal/util/Preconditions" "SIOOBE_FORMATTER" "Ljava/util/function/BiFunction;" ∈ wG := (wG_in (tb_2 (List.mem_of_getElem? (i := 89) (by decide +kernel))) (by decide +kernel))
theorem ks_J0_1059 : gSl RJ0 1059 yJ3_checkIndex_8e157 := ⟨(wG_in (tb_3 (List.mem_of_getElem? (i := 127) (by decide +kernel))) (by decide +kernel)), (wG_in (tb_3 (List.mem_of_getElem? (i := 128) (by decide +kernel))) (by decide +kernel))⟩
theorem ki_J4_1 : gIl RJ4 1 yJ5_init_d00df := ⟨(wG_in (tb_1 (List.mem_of_getElem? (i := 70) (by decide +kernel))) (by decide +kernel)), (wG_in (tb_1 (List.mem_of_getElem? (i := 71) (by decide +kernel))) (by decide +kernel)), rfl⟩
theorem ku_J4_50 : gUl RJ4 50 yJ5_append_3fe6f := ⟨(wG_in (tb_3 (List.mem_of_getElem? (i := 191) (by decide +kernel))) (by decide +kernel)), (wG_in (tb_6 (List.mem_of_getElem? (i := 75) (by decide +kernel))) (by decide +kernel)), (wG_in (tb_1 (List.mem_of_getElem? (i := 96) (by decide +kernel))) (by decide +kernel)), (wG_in (tb_3 (List.mem_of_getElem? (i := 192) (by decide +kernel))) (by decide +kernel)), by decide⟩
theorem ku_J4_329 : gUl RJ4 329 yJ5_charAt_5068e := ⟨(wG_in (tb_3 (List.mem_of_getElem? (i := 120) (by decide +kernel))) (by decide +kernel)), (wG_in (tb_6 (List.mem_of_getElem? (i := 74) (by decide +kernel))) (by decide +kernel)), (wG_in (tb_1 (List.mem_of_getElem? (i := 96) (by decide +kernel))) (by decide +kernel)), (wG_in (tb_3 (List.mem_of_getElem? (i := 121) (by decide +kernel))) (by decide +kernel)), by decide⟩
theorem ku_J4_333 : gUl RJ4 333 yJ5_setLength_d00df := ⟨(wG_in (tb_2 (List.mem_of_getElem? (i := 30) (by decide +kernel))) (by decide +kernel)), (wG_in (tb_6 (List.mem_of_getElem? (i := 63) (by decide +kernel))) (by decide +kernel)), (wG_in (tb_1 (List.mem_of_getElem? (i := 96) (by decide +kernel))) (by decide +kernel)), (wG_in (tb_2 (List.mem_of_getElem? (i := 31) (by decide +kernel))) (by decide +kernel)), by decide⟩
theorem ku_J4_343 : gUl RJ4 343 yJ5_length_8abf5 := ⟨(wG_in (tb_2 (List.mem_of_getElem? (i := 23) (by decide +kernel))) (by decide +kernel)), (wG_in (tb_6 (List.mem_of_getElem? (i := 62) (by decide +kernel))) (by decide +kernel)), (wG_in (tb_1 (List.mem_of_getElem? (i := 96) (by decide +kernel))) (by decide +kernel)), (wG_in (tb_2 (List.mem_of_getElem? (i := 24) (by decide +kernel))) (by decide +kernel)), by decide⟩
theorem ko_Jxa1e45_1 : Cond.methodLink RJxa1e45 1 objectInit ∈ wG ∧ Cond.instanceMethod objectInit ∈ wG ∧ Cond.code objectInit ⟨#[0xb1]⟩ 1 none ∈ wG := ⟨(wG_in (tb_1 (List.mem_of_getElem? (i := 50) (by decide +kernel))) (by decide +kernel)), (wG_in (tb_1 (List.mem_of_getElem? (i := 37) (by decide +kernel))) (by decide +kernel)), (wG_in (tb_1 (List.mem_of_getElem? (i := 38) (by decide +kernel))) (by decide +kernel))⟩
theorem ki_Jxc12de_1 : gIl RJxc12de 1 yJxa1e45_init_da8c8 := ⟨(wG_in (tb_1 (List.mem_of_getElem? (i := 47) (by decide +kernel))) (by decide +kernel)), (wG_in (tb_1 (List.mem_of_getElem? (i := 48) (by decide +kernel))) (by decide +kernel)), rfl⟩
theorem kc_Jx4a65c_7 : Cond.classLink RJx4a65c 7 "java/lang/Object" ∈ wG := (wG_in (tb_1 (List.mem_of_getElem? (i := 195) (by decide +kernel))) (by decide +kernel))
theorem kg_Jx4a65c_9 : gFg RJx4a65c 9 6 1 := ⟨RJx4a65c, TJx4a65c, 3, "java/util/ArrayList", rfl, by decide, (wG_in (tb_1 (List.mem_of_getElem? (i := 53) (by decide +kernel))) (by decide +kernel)), Or.inl rfl⟩
theorem kg_Jx4a65c_48 : gFg RJx4a65c 48 6 2 := ⟨RJx4a65c, TJx4a65c, 3, "java/util/ArrayList", rfl, by decide, (wG_in (tb_1 (List.mem_of_getElem? (i := 54) (by decide +kernel))) (by decide +kernel)), Or.inl rfl⟩
theorem kg_Jx4a65c_63 : gFg RJx4a65c 63 6 0 := ⟨RJx4a65c, TJx4a65c, 3, "java/util/ArrayList", rfl, by decide, (wG_in (tb_1 (List.mem_of_getElem? (i := 56) (by decide +kernel))) (by decide +kernel)), Or.inr (wG_in (tb_1 (List.mem_of_getElem? (i := 57) (by decide +kernel))) (by decide +kernel))⟩
theorem kt_Jx4a65c_39 : Cond.fieldLink RJx4a65c 39 "java/util/ArrayList" "DEFAULTCAPACITY_EMPTY_ELEMENTDATA" "[Ljava/lang/Object;" ∈ wG := (wG_in (tb_1 (List.mem_of_getElem? (i := 51) (by decide +kernel))) (by decide +kernel))
theorem ki_Jx4a65c_1 : gIl RJx4a65c 1 yJxc12de_init_da8c8 := ⟨(wG_in (tb_1 (List.mem_of_getElem? (i := 44) (by decide +kernel))) (by decide +kernel)), (wG_in (tb_1 (List.mem_of_getElem? (i := 45) (by decide +kernel))) (by decide +kernel)), rfl⟩
theorem ks_Jx4a65c_66 : gSl RJx4a65c 66 yJ7_copyOf_1904c := ⟨(wG_in (tb_1 (List.mem_of_getElem? (i := 161) (by decide +kernel))) (by decide +kernel)), (wG_in (tb_1 (List.mem_of_getElem? (i := 162) (by decide +kernel))) (by decide +kernel))⟩
theorem ks_Jx4a65c_73 : gSl RJx4a65c 73 yJ8_newLength_cabcc := ⟨(wG_in (tb_1 (List.mem_of_getElem? (i := 151) (by decide +kernel))) (by decide +kernel)), (wG_in (tb_1 (List.mem_of_getElem? (i := 152) (by decide +kernel))) (by decide +kernel))⟩
theorem ks_Jx4a65c_79 : gSl RJx4a65c 79 yJ9_max_7cf53 := ⟨(wG_in (tb_1 (List.mem_of_getElem? (i := 194) (by decide +kernel))) (by decide +kernel)), (wG_in (tb_1 (List.mem_of_getElem? (i := 155) (by decide +kernel))) (by decide +kernel))⟩
theorem ks_Jx4a65c_118 : gSl RJx4a65c 118 yJ15_checkIndex_7cf53 := ⟨(wG_in (tb_3 (List.mem_of_getElem? (i := 143) (by decide +kernel))) (by decide +kernel)), (wG_in (tb_3 (List.mem_of_getElem? (i := 144) (by decide +kernel))) (by decide +kernel))⟩
theorem kv_Jx4a65c_69 : gVl RJx4a65c 69 RJx4a65c yJx4a65c_grow_92f84 := ⟨(wG_in (tb_1 (List.mem_of_getElem? (i := 147) (by decide +kernel))) (by decide +kernel)), (wG_in (tb_1 (List.mem_of_getElem? (i := 149) (by decide +kernel))) (by decide +kernel)), (wG_in (tp_1 (y := yJx4a65c_grow_92f84) (i := 3) (List.mem_of_getElem? (i := 2) (by decide +kernel))) (by decide +kernel))⟩
theorem kv_Jx4a65c_123 : gVl RJx4a65c 123 RJx4a65c yJx4a65c_elementData_915e3 := ⟨(wG_in (tb_3 (List.mem_of_getElem? (i := 147) (by decide +kernel))) (by decide +kernel)), (wG_in (tb_3 (List.mem_of_getElem? (i := 148) (by decide +kernel))) (by decide +kernel)), (wG_in (tb_3 (List.mem_of_getElem? (i := 149) (by decide +kernel))) (by decide +kernel))⟩
theorem kv_Jx4a65c_129 : gVl RJx4a65c 129 RJx4a65c yJx4a65c_grow_d5877 := ⟨(wG_in (tb_1 (List.mem_of_getElem? (i := 143) (by decide +kernel))) (by decide +kernel)), (wG_in (tb_1 (List.mem_of_getElem? (i := 145) (by decide +kernel))) (by decide +kernel)), (wG_in (tp_1 (y := yJx4a65c_grow_d5877) (i := 3) (List.mem_of_getElem? (i := 1) (by decide +kernel))) (by decide +kernel))⟩
theorem kv_Jx4a65c_131 : gVl RJx4a65c 131 RJx4a65c yJx4a65c_add_72be8 := ⟨(wG_in (tb_1 (List.mem_of_getElem? (i := 139) (by decide +kernel))) (by decide +kernel)), (wG_in (tb_1 (List.mem_of_getElem? (i := 141) (by decide +kernel))) (by decide +kernel)), (wG_in (tp_1 (y := yJx4a65c_add_72be8) (i := 3) (List.mem_of_getElem? (i := 0) (by decide +kernel))) (by decide +kernel))⟩
theorem kf_Jx4a65c_9 : gFl RJx4a65c 9 6 1 (.array (.object "java/lang/Object")) false := ⟨RJx4a65c, TJx4a65c, 3, "java/util/ArrayList", rfl, by decide, (wG_in (tb_1 (List.mem_of_getElem? (i := 53) (by decide +kernel))) (by decide +kernel)), Or.inl rfl, by decide +kernel, rfl, fun h => nomatch h⟩
theorem kf_Jx4a65c_48 : gFl RJx4a65c 48 6 2 .int false := ⟨RJx4a65c, TJx4a65c, 3, "java/util/ArrayList", rfl, by decide, (wG_in (tb_1 (List.mem_of_getElem? (i := 54) (by decide +kernel))) (by decide +kernel)), Or.inl rfl, by decide +kernel, rfl, fun h => nomatch h⟩
theorem kf_Jx4a65c_63 : gFl RJx4a65c 63 6 0 .int false := ⟨RJx4a65c, TJx4a65c, 3, "java/util/ArrayList", rfl, by decide, (wG_in (tb_1 (List.mem_of_getElem? (i := 56) (by decide +kernel))) (by decide +kernel)), Or.inr (wG_in (tb_1 (List.mem_of_getElem? (i := 57) (by decide +kernel))) (by decide +kernel)), by decide +kernel, rfl, fun h => nomatch h⟩
theorem kc_J7_2 : Cond.classLink RJ7 2 "java/lang/Object" ∈ wG := (wG_in (tb_1 (List.mem_of_getElem? (i := 187) (by decide +kernel))) (by decide +kernel))
theorem kc_J7_110 : Cond.classLink RJ7 110 "[Ljava/lang/Object;" ∈ wG := (wG_in (tb_1 (List.mem_of_getElem? (i := 185) (by decide +kernel))) (by decide +kernel))
theorem ks_J7_300 : gSl RJ7 300 yJ7_copyOf_6403c := ⟨(wG_in (tb_1 (List.mem_of_getElem? (i := 182) (by decide +kernel))) (by decide +kernel)), (wG_in (tb_1 (List.mem_of_getElem? (i := 183) (by decide +kernel))) (by decide +kernel))⟩
theorem ks_J7_304 : gSl RJ7 304 yJ9_min_7cf53 := ⟨(wG_in (tb_1 (List.mem_of_getElem? (i := 188) (by decide +kernel))) (by decide +kernel)), (wG_in (tb_1 (List.mem_of_getElem? (i := 189) (by decide +kernel))) (by decide +kernel))⟩
theorem ks_J15_105 : gSl RJ15 105 yJ3_checkIndex_8e157 := ⟨(wG_in (tb_3 (List.mem_of_getElem? (i := 146) (by decide +kernel))) (by decide +kernel)), (wG_in (tb_3 (List.mem_of_getElem? (i := 128) (by decide +kernel))) (by decide +kernel))⟩
theorem ks_J8_194 : gSl RJ8 194 yJ9_max_7cf53 := ⟨(wG_in (tb_1 (List.mem_of_getElem? (i := 154) (by decide +kernel))) (by decide +kernel)), (wG_in (tb_1 (List.mem_of_getElem? (i := 155) (by decide +kernel))) (by decide +kernel))⟩
theorem kk_J8_200 : Cond.constant RJ8 200 (2147483639 : Int32) ∈ wG := (wG_in (tb_1 (List.mem_of_getElem? (i := 157) (by decide +kernel))) (by decide +kernel))
end
