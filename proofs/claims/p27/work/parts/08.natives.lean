/-! ===== getClass, the Class constant, arraycopy of references; throws' words; methods with handlers ===== -/
section GN
variable {X : gX} {M : gMT} {own : String} {cc : ByteArray} {nL d mc ms : Nat} {Q : State → Prop} {k n : Nat} {σ : gS} {pc q : Nat} {lv : List (Nat × Value)} {st st0 rest : List Value}
variable {P : Option Value → gS → Prop} {PX : String → gS → Prop}
theorem g_arrCell (hC : gOk X M own cc nL d mc ms) {a len : Nat} {f : Nat → Option Nat} {H : Heap} (hP : gRep M σ H) (hσ : σ a = some (aQ M len f)) : ∃ cell : Cell, H[a]? = some cell ∧ cell.vm.isStatics = false ∧ (xs X).vm.findClass "[Ljava/lang/Object;" = some cell.cls := by
  obtain ⟨kB, comp2, g1, g2, g3, g4⟩ := (hC.k.2 5 _ rfl).2
  refine ⟨_, (hP a _ hσ).1, rfl, ?_⟩
  exact g4
theorem g_getC (hC : gOk X M own cc nL d mc ms) {index a len : Nat} {f : Nat → Option Nat} (hw : Cond.methodLink own index yGetClass ∈ wG ∧ Cond.selects "[Ljava/lang/Object;" yGetClass yGetClass ∈ wG ∧ Cond.instanceMethod yGetClass ∈ wG ∧ Cond.native yGetClass ∈ wG) (hdg : decode cc pc = .ok (.invokevirtual index, 3)) (hσ : σ a = some (aQ M len f)) (hd : 1 ≤ d) (hcat : (st.map fun v => v.category).sum ≤ 8) (hq : pc + 3 = q) (kk : G X M nL Q k n σ q lv (.ref (gMi M) :: st)) : G X M nL Q k n σ pc lv (.ref a :: st) := by
  subst hq
  intro H locs ls hP hS hl
  have h1 := hC.2.2.2.2.2.2.1
  have h2 := hC.2.2.2.2.2.2.2.1
  exact va_getC hC.x hC.b (hC.nl.trans hl.1.symm) hC.ow (hC.ts hw.1) (va_Nw.use rfl (hC.amb.2.2.2.2.2.2.2.2.2.2.1 yGetClass (by decide +kernel))) (hC.ts hw.2.1) (hC.ts hw.2.2.1) (hC.ts hw.2.2.2) hC.amb.2.2.2.2.2.2.2.2.2.2.2.2.1 (g_arrCell hC hP hσ) (by omega) (by omega) hdg (kk H locs ls hP hS hl)
theorem g_ldcM (hC : gOk X M own cc nL d mc ms) {index : Nat} (hw : Cond.classLink own index "[Ljava/lang/Object;" ∈ wG) (hdg : decode cc pc = .ok (.ldc index, 2)) (hq : pc + 2 = q) (kk : G X M nL Q k n σ q lv (.ref (gMi M) :: st)) : G X M nL Q k n σ pc lv st := by
  subst hq
  exact fun H locs ls hP hS hl => va_ldcM hC.x hC.b hC.ow (hC.ts hw) hC.amb.2.2.2.2.2.2.2.2.2.2.2.2.1 hdg (kk H locs ls hP hS hl)
theorem g_copyQ (hC : gOk X M own cc nL d mc ms) {index a a0 n0 n1 : Nat} {f g : Nat → Option Nat} {sp dp len : Int32} {s9 d9 l9 : Nat} (hw : Cond.methodLink own index arraycopyName ∈ wG ∧ Cond.native arraycopyName ∈ wG ∧ Cond.static arraycopyName ∈ wG ∧ Cond.initialized "java/lang/System" ∈ wG) (hdg : decode cc pc = .ok (.invokestatic index, 3)) (h0 : σ a0 = some (aQ M n0 f)) (h1 : σ a = some (aQ M n1 g)) (hs : ¬ sp < 0 ∧ sp.toNatClampNeg = s9) (hd : ¬ dp < 0 ∧ dp.toNatClampNeg = d9) (hn : ¬ len < 0 ∧ len.toNatClampNeg = l9) (h4 : s9 + l9 ≤ n0) (h5 : d9 + l9 ≤ n1)
    (hel : ∀ i : Nat, i < l9 → ∀ y : Nat, f (s9 + i) = some y → ∃ (ci : Nat) (C : String) (T : u_T) (N : Nat) (fs : List Value), gCl[ci]? = some (C, T, N) ∧ (C, "java/lang/Object") ∈ gCast ∧ σ y = some (oB ci fs)) (hdd : 1 ≤ d) (hcat : (st.map fun v => v.category).sum ≤ 8) (hq : pc + 3 = q) (kk : G X M nL Q k n (gUp σ a (aQ M n1 (va_cpy f g s9 d9 l9))) q lv st) : G X M nL Q k n σ pc lv (.int len :: .int dp :: .ref a :: .int sp :: .ref a0 :: st) := by
  subst hq
  obtain ⟨hs1, rfl⟩ := hs
  obtain ⟨hd1, rfl⟩ := hd
  obtain ⟨hn1, rfl⟩ := hn
  intro H locs ls hP hS hl
  obtain ⟨k0, hk0⟩ := gWs_at hP h0
  obtain ⟨k1, hk1⟩ := gWs_at hP h1
  have r1 := hC.2.2.2.2.2.2.1
  have r2 := hC.2.2.2.2.2.2.2.1
  refine va_copyM hC.x hC.b (hC.nl.trans hl.1.symm) hC.ow (hC.ts hw.1) (hC.ts hw.2.1) (hC.ts hw.2.2.1) (hC.ts hw.2.2.2) hC.k (gWs_P hP) (gWs_D hP) hS k0 k1 5 5 (E0 := "java/lang/Object") (E1 := "java/lang/Object") hk0 hk1 rfl rfl hs1 hd1 hn1 h4 h5 ?_ (by omega) ?_ hdg (fun H1 locs1 h1 _ hS1 => kk H1 locs1 ls (gWs_up hP hk1 h1) hS1 hl)
  · intro i hi y hy
    obtain ⟨ci, C, T, N, fs, e1, e2, e3⟩ := hel i hi y hy
    obtain ⟨cell, c1, c2, c3⟩ := gRecv hC hP e1 e3
    exact va_rAny (r := (C, T, N)) (E := "java/lang/Object") hC.k (gWs_P hP) (gWs_at hP e3).choose_spec e1 (fun comp c0 h1 h2 => vb_asgC (hC.amb.2.2.2.2.2.2.2.2.1 _ e2) comp c0 h1 h2)
  · have : nativeFrameWords "java/lang/System" "arraycopy" 5 ≤ 30 := by decide +kernel
    omega
end GN
theorem thr6 (cls : String) (ic : Nat) (h : (cls = eA ∧ ic = 69) ∨ (cls = eS ∧ ic = 80) ∨ (cls = eI ∧ ic = 138)) :
    ((vx_atS RX4 ic cls ["java/lang/RuntimeException", "java/lang/Exception"]).all (fun w => (goodWord w && decide (w ∈ lw_tbl)) || decide (w = .castable cls cls) || decide (w ∈ gDecl.map Cond.declares))) = true ∧
    ((Cond.classLink RX4 (if ic = 69 then 65 else if ic = 80 then 76 else 134) cls :: Cond.initialized cls :: vx_atS RX4 ic cls ["java/lang/RuntimeException", "java/lang/Exception"]).all vx_ot) = true := by
  rcases h with ⟨rfl, rfl⟩ | ⟨rfl, rfl⟩ | ⟨rfl, rfl⟩
  · exact ⟨by decide +kernel, by decide +kernel⟩
  · exact ⟨by decide +kernel, by decide +kernel⟩
  · exact ⟨by decide +kernel, by decide +kernel⟩
