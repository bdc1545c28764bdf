/-! ===== calls, ends and throws ===== -/
section GC
variable {X : gX} {M : gMT} {own : String} {cc : ByteArray} {nL d mc ms : Nat} {Q : State → Prop} {k n : Nat} {σ : gS} {pc q : Nat} {lv : List (Nat × Value)} {st st0 rest : List Value}
variable {P : Option Value → gS → Prop} {PX : String → gS → Prop}
/-- a call's run, at every heap that the map holds of -/
def gRun (X : gX) (M : gMT) (nL k n mc9 ms9 : Nat) (σ : gS) (pc : Nat) (lv : List (Nat × Value)) (st0 rest : List Value) (P : Option Value → gS → Prop) (PX : String → gS → Prop) : Prop :=
  ∀ (H : Heap) (locs : List Loc) (ls : Array Slot), gRep M σ H → va_S (gA M) (xs X).heap H locs → lOk ls nL lv →
    vx_Run (xp X) (xl X) (xe X) (xR X) (xs X) (xm X) (xa X) (xbl X) (xmt X) (xc X) H locs k n mc9 ms9 (F0 (xm X) pc ls st0) rest (fun st o t => ∃ (v : Option Value) (σ : gS), o = .returned v ∧ P v σ ∧ gRep M σ t.heap ∧ va_F (gA M) st t) (gXC M PX) (gA M)
theorem g_call {mc9 ms9 : Nat} (hr : gRun X M nL k n mc9 ms9 σ pc lv st0 rest P PX) (hq : pc + 3 = q) (kk : ∀ v σ2, P v σ2 → G X M nL Q (k + mc9) (n + ms9) σ2 q lv (v.toList ++ rest)) (kx : ∀ E σ2, PX E σ2 → GX X M nL Q (k + mc9) (n + ms9) σ2 pc lv E) : G X M nL Q k n σ pc lv st0 := by
  subst hq
  intro H locs ls hP hS hl T hT X0
  rcases hr H locs ls hP hS hl T hT X0 with ⟨v, st₀, t, T', L, h0, X', hL, e1, e2, ⟨v', σ', hv, hp, hR, hF⟩, st⟩ | ⟨q, st₀, t, T', L, E, ce, h0, X', hL, e1, e2, ⟨σ', hp, hR, hF⟩, hce, hcv, hcl, st⟩
  · cases hv
    obtain ⟨-, -, k3⟩ := vx_keep h0 e1 hS (fun _ _ h => h) (fun _ h => h) hL hF
    obtain ⟨t2, a1, b1⟩ := kk v σ' hp T'.heap (locs ++ L) ls (by rw [e1]; exact hR) k3 hl T' rfl X'
    exact ⟨t2, st t2 a1, b1⟩
  · obtain ⟨-, -, k3⟩ := vx_keep h0 e1 hS (fun _ _ h => h) (fun _ h => h) hL hF
    obtain ⟨t2, a1, b1⟩ := kx E σ' hp T'.heap (locs ++ L) ls rest q ce (by rw [e1]; exact hR) k3 hl (by rw [e1]; exact hce) hcv hcl T' rfl X'
    exact ⟨t2, st.trans a1, b1⟩
/-- what a method gives: an int, nothing, a reference, a reference or null -/
def rI (P : Int32 → gS → Prop) : Option Value → gS → Prop := fun v σ => ∃ r : Int32, v = some (.int r) ∧ P r σ
def rV (P : gS → Prop) : Option Value → gS → Prop := fun v σ => v = none ∧ P σ
def rR (P : Nat → gS → Prop) : Option Value → gS → Prop := fun v σ => ∃ r : Nat, v = some (.ref r) ∧ P r σ
def rQ (P : Option Nat → gS → Prop) : Option Value → gS → Prop := fun v σ => ∃ r : Option Nat, v = some (va_rf r) ∧ P r σ
def nX : String → gS → Prop := fun _ _ => False
theorem g_ci {mc9 ms9 : Nat} {P : Int32 → gS → Prop} (hr : gRun X M nL k n mc9 ms9 σ pc lv st0 rest (rI P) PX) (hq : pc + 3 = q) (kk : ∀ r σ2, P r σ2 → G X M nL Q (k + mc9) (n + ms9) σ2 q lv (.int r :: rest)) (kx : ∀ E σ2, PX E σ2 → GX X M nL Q (k + mc9) (n + ms9) σ2 pc lv E) : G X M nL Q k n σ pc lv st0 :=
  g_call hr hq (fun v σ2 h => by obtain ⟨r, rfl, h⟩ := h; exact kk r σ2 h) kx
theorem g_cv {mc9 ms9 : Nat} {P : gS → Prop} (hr : gRun X M nL k n mc9 ms9 σ pc lv st0 rest (rV P) PX) (hq : pc + 3 = q) (kk : ∀ σ2, P σ2 → G X M nL Q (k + mc9) (n + ms9) σ2 q lv rest) (kx : ∀ E σ2, PX E σ2 → GX X M nL Q (k + mc9) (n + ms9) σ2 pc lv E) : G X M nL Q k n σ pc lv st0 :=
  g_call hr hq (fun v σ2 h => by obtain ⟨rfl, h⟩ := h; exact kk σ2 h) kx
theorem g_cr {mc9 ms9 : Nat} {P : Nat → gS → Prop} (hr : gRun X M nL k n mc9 ms9 σ pc lv st0 rest (rR P) PX) (hq : pc + 3 = q) (kk : ∀ r σ2, P r σ2 → G X M nL Q (k + mc9) (n + ms9) σ2 q lv (.ref r :: rest)) (kx : ∀ E σ2, PX E σ2 → GX X M nL Q (k + mc9) (n + ms9) σ2 pc lv E) : G X M nL Q k n σ pc lv st0 :=
  g_call hr hq (fun v σ2 h => by obtain ⟨r, rfl, h⟩ := h; exact kk r σ2 h) kx
theorem g_cq {mc9 ms9 : Nat} {P : Option Nat → gS → Prop} (hr : gRun X M nL k n mc9 ms9 σ pc lv st0 rest (rQ P) PX) (hq : pc + 3 = q) (kk : ∀ r σ2, P r σ2 → G X M nL Q (k + mc9) (n + ms9) σ2 q lv (va_rf r :: rest)) (kx : ∀ E σ2, PX E σ2 → GX X M nL Q (k + mc9) (n + ms9) σ2 pc lv E) : G X M nL Q k n σ pc lv st0 :=
  g_call hr hq (fun v σ2 h => by obtain ⟨r, rfl, h⟩ := h; exact kk r σ2 h) kx
/-- the words of a call: its place in the caller's pool -/
def gMd (y : MethodName) (cw : Cond) (na : Nat) : Prop := Cond.initialized y.cls ∈ wG ∧ cw ∈ wG ∧ (y.cls ≠ "java/lang/invoke/MethodHandle" ∧ y.cls ≠ "java/lang/invoke/VarHandle") ∧ (parseMethodDescriptor y.desc).map (fun d => d.parameters.length) = some na
theorem gMd.len {y : MethodName} {cw : Cond} {na : Nat} (h : gMd y cw na) : ∀ sig, parseMethodDescriptor y.desc = some sig → na = sig.parameters.length := by
  intro sig hs
  have h2 := h.2.2.2
  rw [hs] at h2
  exact (Option.some.inj h2).symm
theorem gPre (hC : gOk X M own cc nL d mc ms) {av : List Value} {H : Heap} {locs : List Loc} (hP : gRep M σ H) (hS : va_S (gA M) (xs X).heap H locs) : ∀ U : State, U.heap = H → (xs X).WarmedH U.vm → gPc M av σ av.toArray U :=
  fun U hU hW => ⟨rfl, gAmb.warm hW (by rw [hU]; exact hC.at hS), by rw [hU]; exact hP, fun q hq => hC.base q (Nat.le_trans hS.1 (by rw [hU] at hq; exact hq))⟩
theorem gRecv (hC : gOk X M own cc nL d mc ms) {b ci : Nat} {C : String} {T : u_T} {N : Nat} {fs : List Value} {H : Heap} (hP : gRep M σ H) (hc : gCl[ci]? = some (C, T, N)) (hb : σ b = some (oB ci fs)) : ∃ cell : Cell, H[b]? = some cell ∧ cell.vm.isStatics = false ∧ (xs X).vm.findClass C = some cell.cls :=
  va_recv (q := (C, T, N)) hC.k (hP.one hb) (q0 := 0) hc rfl
theorem gRm {d9 mc9 ms9 maxL : Nat} (hC : gOk X M own cc nL d mc ms) (hd : d9 < d) (hm : maxL ≤ 40) : (gRoom d9 mc9 ms9).frames + 1 ≤ (xR X).frames ∧ 8 + (maxL + 11) + (gRoom d9 mc9 ms9).locals ≤ (xR X).locals := by
  have h1 := hC.2.2.2.2.2.2.1
  have h2 := hC.2.2.2.2.2.2.2.1
  show d9 + 1 ≤ _ ∧ 8 + (maxL + 11) + 64 * d9 ≤ _
  omega
theorem gFt {mc9 ms9 : Nat} (hC : gOk X M own cc nL d mc ms) (hk : k + mc9 ≤ mc) (hn : n + ms9 ≤ ms) : k + mc9 ≤ (xR X).cells ∧ n + ms9 ≤ (xR X).slots := ⟨Nat.le_trans hk hC.2.2.2.2.2.2.2.2.1, Nat.le_trans hn hC.2.2.2.2.2.2.2.2.2.1⟩
def gVl (own : String) (index : Nat) (C : String) (y : MethodName) : Prop := Cond.methodLink own index y ∈ wG ∧ Cond.instanceMethod y ∈ wG ∧ Cond.selects C y y ∈ wG
theorem g_runV (hC : gOk X M own cc nL d mc ms) {index ci b na d9 mc9 ms9 maxL : Nat} {C : String} {T : u_T} {N : Nat} {y : MethodName} {bytes : ByteArray} {ret : Option FieldType} {As fs : List Value} (hw : gVl own index C y) (hm : gMd y (.code y bytes maxL ret) na) (hcon : Con (xl X) M y (.code y bytes maxL ret) d9 mc9 ms9 (.ref b :: As) σ P PX) (hc : gCl[ci]? = some (C, T, N)) (hb : σ b = some (oB ci fs)) (hdg : decode cc pc = .ok (.invokevirtual index, 3)) (hd : d9 < d) (hml : maxL ≤ 40) (hk : k + mc9 ≤ mc) (hn : n + ms9 ≤ ms) (hna : As.length = na) (hst : st0 = As.reverse ++ .ref b :: rest) (hcat : (rest.map fun v => v.category).sum ≤ 8) : gRun X M nL k n mc9 ms9 σ pc lv st0 rest P PX := by
  intro H locs ls hP hS hl
  obtain ⟨hr1, hr2⟩ := gRm (maxL := maxL) (mc9 := mc9) (ms9 := ms9) hC hd hml
  exact vx_runV (As := As) (C := C) hC.fix hcon ⟨⟨rfl, rfl, hr1, hr2, wG_pay hC.2.2.2.2.1 hm.2.1, List.mem_cons_self, hC.ts hm.2.1, hC.ts hm.1, hm.2.2.1, hm.len, hC.ts hw.1⟩, hC.ts hw.2.1, hC.ts hw.2.2⟩ ⟨gPc_blind, gRecv hC hP hc hb, gPre hC hP hS⟩ rfl hna hl.1 hst (lv_room hcat) hdg (gFt hC hk hn)
def gSl (own : String) (index : Nat) (y : MethodName) : Prop := Cond.methodLink own index y ∈ wG ∧ Cond.static y ∈ wG
theorem g_runS (hC : gOk X M own cc nL d mc ms) {index na d9 mc9 ms9 maxL : Nat} {y : MethodName} {bytes : ByteArray} {ret : Option FieldType} {As : List Value} (hw : gSl own index y) (hm : gMd y (.code y bytes maxL ret) na) (hcon : Con (xl X) M y (.code y bytes maxL ret) d9 mc9 ms9 As σ P PX) (hdg : decode cc pc = .ok (.invokestatic index, 3)) (hd : d9 < d) (hml : maxL ≤ 40) (hk : k + mc9 ≤ mc) (hn : n + ms9 ≤ ms) (hna : As.length = na) (hst : st0 = As.reverse ++ rest) (hcat : (rest.map fun v => v.category).sum ≤ 8) : gRun X M nL k n mc9 ms9 σ pc lv st0 rest P PX := by
  intro H locs ls hP hS hl
  obtain ⟨hr1, hr2⟩ := gRm (maxL := maxL) (mc9 := mc9) (ms9 := ms9) hC hd hml
  exact vx_runS (As := As) hC.fix hcon ⟨⟨rfl, rfl, hr1, hr2, wG_pay hC.2.2.2.2.1 hm.2.1, List.mem_cons_self, hC.ts hm.2.1, hC.ts hm.1, hm.2.2.1, hm.len, hC.ts hw.1⟩, hC.ts hw.2⟩ ⟨gPc_blind, gPre hC hP hS⟩ rfl hna hl.1 hst (lv_room hcat) hdg (gFt hC hk hn)
def gIl (own : String) (index : Nat) (y : MethodName) : Prop := Cond.methodLink own index y ∈ wG ∧ Cond.instanceMethod y ∈ wG ∧ y.name = "<init>"
theorem g_runI (hC : gOk X M own cc nL d mc ms) {index b na d9 mc9 ms9 maxL : Nat} {y : MethodName} {bytes : ByteArray} {As : List Value} (hw : gIl own index y) (hm : gMd y (.code y bytes maxL none) na) (hcon : Con (xl X) M y (.code y bytes maxL none) d9 mc9 ms9 (.ref b :: As) σ P PX) (hdg : decode cc pc = .ok (.invokespecial index, 3)) (hd : d9 < d) (hml : maxL ≤ 40) (hk : k + mc9 ≤ mc) (hn : n + ms9 ≤ ms) (hna : As.length = na) (hst : st0 = As.reverse ++ .ref b :: rest) (hcat : (rest.map fun v => v.category).sum ≤ 8) : gRun X M nL k n mc9 ms9 σ pc lv st0 rest P PX := by
  intro H locs ls hP hS hl
  obtain ⟨hr1, hr2⟩ := gRm (maxL := maxL) (mc9 := mc9) (ms9 := ms9) hC hd hml
  exact vx_runI (As := As) hC.fix hcon ⟨⟨rfl, rfl, hr1, hr2, wG_pay hC.2.2.2.2.1 hm.2.1, List.mem_cons_self, hC.ts hm.2.1, hC.ts hm.1, hm.2.2.1, hm.len, hC.ts hw.1⟩, hw.2.2, hC.ts hw.2.1⟩ ⟨gPc_blind, gPre hC hP hS⟩ rfl hna hl.1 hst (lv_room hcat) hdg (gFt hC hk hn)
/-- Object() -/
theorem g_objInit (hC : gOk X M own cc nL d mc ms) {index a : Nat} (hw : Cond.methodLink own index objectInit ∈ wG ∧ Cond.instanceMethod objectInit ∈ wG ∧ Cond.code objectInit ⟨#[0xb1]⟩ 1 none ∈ wG) (hdg : decode cc pc = .ok (.invokespecial index, 3)) (hd : 1 ≤ d) (hcat : (st.map fun v => v.category).sum ≤ 8) (hq : pc + 3 = q) (kk : G X M nL Q k n σ q lv st) : G X M nL Q k n σ pc lv (.ref a :: st) := by
  subst hq
  intro H locs ls hP hS hl
  have h1 := hC.2.2.2.2.2.2.1
  have h2 := hC.2.2.2.2.2.2.2.1
  refine W.objInit hC.x hC.b hC.ow (hC.ts hw.1) (hC.ts hw.2.1) (hC.ts hw.2.2) rfl (hl.1.trans hC.nl.symm) rfl hdg (by omega) ?_ (kk H locs ls hP hS hl)
  have h3 := lv_room (m := xm X) (pc := pc) (ls := ls) (rest := .ref a :: st) hcat
  omega
/-! ===== ends ===== -/
theorem g_iret {nm : String} {v : Int32} (hC : gOk X M own cc nL d mc ms) (hR : gRet X (some .int) nm) (hdg : decode cc pc = .ok (.ireturn, 1)) (hk : k ≤ mc) (hn : n ≤ ms) (hp : P (some (.int v)) σ) : G X M nL (gQ X M mc ms P PX) k n σ pc lv [.int v] := by
  intro H locs ls hP hS hl
  refine W.widen hk hn (vx_ret ?_)
  exact W.iret (v := v) hC.x hC.b hR.1 (fun t ht hW => ⟨_, σ, rfl, hp, by rw [ht]; exact hP, hS.F ht⟩) hS.2.2 hdg hR.2.1
theorem g_zret {ty : FieldType} {nm : String} {v : Int32} (hC : gOk X M own cc nL d mc ms) (hR : gRet X (some ty) nm) (hz : narrow ty (.int v) = .int v) (hdg : decode cc pc = .ok (.ireturn, 1)) (hk : k ≤ mc) (hn : n ≤ ms) (hp : P (some (.int v)) σ) : G X M nL (gQ X M mc ms P PX) k n σ pc lv [.int v] := by
  intro H locs ls hP hS hl
  refine W.widen hk hn (vx_ret ?_)
  exact W.zret (v := v) hC.x hC.b hR.1 hz (fun t ht hW => ⟨_, σ, rfl, hp, by rw [ht]; exact hP, hS.F ht⟩) hS.2.2 hdg hR.2.1
theorem g_vret {nm : String} (hC : gOk X M own cc nL d mc ms) (hR : gRet X none nm) (hdg : decode cc pc = .ok (.return_, 1)) (hk : k ≤ mc) (hn : n ≤ ms) (hp : P none σ) : G X M nL (gQ X M mc ms P PX) k n σ pc lv [] := by
  intro H locs ls hP hS hl
  refine W.widen hk hn (vx_ret ?_)
  exact W.vret hC.x hC.b hR.1 (fun t ht hW => ⟨_, σ, rfl, hp, by rw [ht]; exact hP, hS.F ht⟩) hS.2.2 hdg hR.2.1
theorem g_aret {rt : FieldType} {nm : String} {o : Option Nat} (hC : gOk X M own cc nL d mc ms) (hR : gRet X (some rt) nm) (hrt : (∃ z, rt = .object z) ∨ ∃ t, rt = .array t) (hdg : decode cc pc = .ok (.areturn, 1)) (hk : k ≤ mc) (hn : n ≤ ms) (hp : P (some (va_rf o)) σ) : G X M nL (gQ X M mc ms P PX) k n σ pc lv [va_rf o] := by
  intro H locs ls hP hS hl
  refine W.widen hk hn (vx_ret ?_)
  exact W.aret (v := va_rf o) hC.x hC.b hR.1 hrt (va_rf_or o) (fun t ht hW => ⟨_, σ, rfl, hp, by rw [ht]; exact hP, hS.F ht⟩) hS.2.2 hdg hR.2.1
/-- an exception that goes on to the caller -/
theorem g_out {ret : Option FieldType} {nm : String} {E : String} (hR : gRet X ret nm) (htb : ∀ x ∈ (xc X).exceptionTable.toList, False) (hk : k ≤ mc) (hn : n ≤ ms) (hp : PX E σ) : GX X M nL (gQ X M mc ms P PX) k n σ pc lv E := by
  intro H locs ls rest q ce hP hS hl hc hv hcl
  exact vx_out (fun x hx => (htb x hx).elim) hR.2.1 hc hv hcl (fun t ht hW => ⟨σ, hp, by rw [ht]; exact hP, hS.F ht⟩) hS.2.2 hk hn
def gUl (own : String) (index : Nat) (y : MethodName) : Prop := Cond.methodLink own index y ∈ wG ∧ Cond.sameMethod y.cls y.cls y.name y.desc ∈ wG ∧ Cond.superclass own y.cls ∈ wG ∧ Cond.instanceMethod y ∈ wG ∧ y.name ≠ "<init>"
/-- 'super.f(..)' -/
theorem g_runSU (hC : gOk X M own cc nL d mc ms) {index ci b na d9 mc9 ms9 maxL : Nat} {C : String} {T : u_T} {N : Nat} {y : MethodName} {bytes : ByteArray} {ret : Option FieldType} {As fs : List Value} (hw : gUl own index y) (hm : gMd y (.code y bytes maxL ret) na) (hcon : Con (xl X) M y (.code y bytes maxL ret) d9 mc9 ms9 (.ref b :: As) σ P PX) (hc : gCl[ci]? = some (C, T, N)) (hb : σ b = some (oB ci fs)) (hdg : decode cc pc = .ok (.invokespecial index, 3)) (hd : d9 < d) (hml : maxL ≤ 40) (hk : k + mc9 ≤ mc) (hn : n + ms9 ≤ ms) (hna : As.length = na) (hst : st0 = As.reverse ++ .ref b :: rest) (hcat : (rest.map fun v => v.category).sum ≤ 8) : gRun X M nL k n mc9 ms9 σ pc lv st0 rest P PX := by
  intro H locs ls hP hS hl
  obtain ⟨hr1, hr2⟩ := gRm (maxL := maxL) (mc9 := mc9) (ms9 := ms9) hC hd hml
  exact vx_runSU (As := As) (C := C) (hC.k.1 ci _ hc).2 hC.fix hcon ⟨⟨rfl, rfl, hr1, hr2, wG_pay hC.2.2.2.2.1 hm.2.1, List.mem_cons_self⟩, hC.ts hw.1, hC.ts hw.2.1, hC.ts hw.2.2.1, hC.ts hw.2.2.2.1, hC.ts hm.1, hC.ts hm.2.1, hw.2.2.2.2, hm.len⟩ ⟨gPc_blind, gRecv hC hP hc hb, gPre hC hP hS⟩ rfl hna hl.1 hst (lv_room hcat) hdg (gFt hC hk hn)
/-- a nest mate's private constructor -/
theorem g_runIN (hC : gOk X M own cc nL d mc ms) {index b na d9 mc9 ms9 maxL : Nat} {host : String} {y : MethodName} {bytes : ByteArray} {As : List Value} (hw : (own, index, y, host) ∈ gNest) (hi : Cond.instanceMethod y ∈ wG ∧ y.name = "<init>") (hm : gMd y (.code y bytes maxL none) na) (hcon : Con (xl X) M y (.code y bytes maxL none) d9 mc9 ms9 (.ref b :: As) σ P PX) (hdg : decode cc pc = .ok (.invokespecial index, 3)) (hd : d9 < d) (hml : maxL ≤ 40) (hk : k + mc9 ≤ mc) (hn : n + ms9 ≤ ms) (hna : As.length = na) (hst : st0 = As.reverse ++ .ref b :: rest) (hcat : (rest.map fun v => v.category).sum ≤ 8) : gRun X M nL k n mc9 ms9 σ pc lv st0 rest P PX := by
  intro H locs ls hP hS hl
  obtain ⟨hr1, hr2⟩ := gRm (maxL := maxL) (mc9 := mc9) (ms9 := ms9) hC hd hml
  have hnst := hC.amb.2.2.2.2.2.2.2.2.2.2.2.1 _ hw
  exact vx_runIN (As := As) hC.fix hcon ⟨⟨⟨rfl, rfl, hr1, hr2, wG_pay hC.2.2.2.2.1 hm.2.1, List.mem_cons_self⟩, hC.ts hm.2.1, hC.ts hm.1, hm.2.2.1, hm.len, va_Nw.use rfl hnst⟩, hi.2, hC.ts hi.1⟩ ⟨gPc_blind, gPre hC hP hS⟩ rfl hna hl.1 hst (lv_room hcat) hdg (gFt hC hk hn)
def iMax (x y : Int32) : Int32 := if x < y then y else x
def iMin (x y : Int32) : Int32 := if y < x then y else x
theorem g_max (hC : gOk X M own cc nL d mc ms) {index : Nat} {x y : Int32} (hw : gSl own index yJ9_max_7cf53) (hm : gMd yJ9_max_7cf53 (.code yJ9_max_7cf53 cJ9_max_7cf53 2 (some .int)) 2) (hdg : decode cc pc = .ok (.invokestatic index, 3)) (hd : 1 ≤ d) (hcat : (st.map fun v => v.category).sum ≤ 8) (hk : k ≤ mc) (hn : n ≤ ms) (hq : pc + 3 = q) (kk : G X M nL Q k n σ q lv (.int (iMax x y) :: st)) : G X M nL Q k n σ pc lv (.int y :: .int x :: st) := by
  subst hq
  intro H locs ls hP hS hl
  have h1 := hC.2.2.2.2.2.2.1
  have h2 := hC.2.2.2.2.2.2.2.1
  exact va_mmax hC.x hC.b (hC.nl.trans hl.1.symm) hC.ow (hC.ts hw.1) (hC.ts hw.2) (hC.ts hm.1) (hC.ts hm.2.1) (by omega) (by omega) (Nat.le_trans hk hC.2.2.2.2.2.2.2.2.1) (Nat.le_trans hn hC.2.2.2.2.2.2.2.2.2.1) hdg (kk H locs ls hP hS hl)
theorem g_min (hC : gOk X M own cc nL d mc ms) {index : Nat} {x y : Int32} (hw : gSl own index yJ9_min_7cf53) (hm : gMd yJ9_min_7cf53 (.code yJ9_min_7cf53 cJ9_min_7cf53 2 (some .int)) 2) (hdg : decode cc pc = .ok (.invokestatic index, 3)) (hd : 1 ≤ d) (hcat : (st.map fun v => v.category).sum ≤ 8) (hk : k ≤ mc) (hn : n ≤ ms) (hq : pc + 3 = q) (kk : G X M nL Q k n σ q lv (.int (iMin x y) :: st)) : G X M nL Q k n σ pc lv (.int y :: .int x :: st) := by
  subst hq
  intro H locs ls hP hS hl
  have h1 := hC.2.2.2.2.2.2.1
  have h2 := hC.2.2.2.2.2.2.2.1
  exact va_mmin hC.x hC.b (hC.nl.trans hl.1.symm) hC.ow (hC.ts hw.1) (hC.ts hw.2) (hC.ts hm.1) (hC.ts hm.2.1) (by omega) (by omega) (Nat.le_trans hk hC.2.2.2.2.2.2.2.2.1) (Nat.le_trans hn hC.2.2.2.2.2.2.2.2.2.1) hdg (kk H locs ls hP hS hl)
end GC
