/-! ===== the law: its own rows; a call that is refused; a number drawn ===== -/
section LW
variable {X : gX} {M : gMT} {own : String} {cc : ByteArray} {nL d mc ms : Nat} {Q : State → Prop} {k n9 : Nat} {σ σ2 σ3 : gS} {pc q : Nat} {lv : List (Nat × Value)} {st : List Value}
theorem g_idiv (hC : gOk X M own cc nL d mc ms) {x y v : Int32} (hdg : decode cc pc = .ok (.idiv, 1)) (hne : ¬ y = 0) (hv : x / y = v) (hq : pc + 1 = q) (kk : G X M nL Q k n9 σ q lv (.int v :: st)) : G X M nL Q k n9 σ pc lv (.int y :: .int x :: st) := by
  subst hq
  subst hv
  exact fun H locs ls hP hS hl => lv_idiv hC.x hC.b hdg hne (kk H locs ls hP hS hl)
theorem gX_of (hC : gOk X M own cc nL d mc ms) : va_X (gScB M) (gScL M) (gScV M) (xs X) (xs X).heap ∧ gScB M < (xs X).heap.size ∧ ¬ gA M (gScB M) := by
  have h := hC.amb.2.1.2.2
  obtain ⟨⟨scr, h1, h2⟩, h3⟩ := h
  exact ⟨⟨scr, h1, h2⟩, (Array.getElem?_eq_some_iff.mp h1).1, fun z => Nat.not_le.mpr h3 z.1⟩
theorem g_sld (hC : gOk X M own cc nL d mc ms) {i v : Int32} (hdg : decode cc pc = .ok (.iaload, 1)) (hin : vp_in i (gScL M)) (hv : gScV M i.toNatClampNeg = v) (hq : pc + 1 = q) (kk : G X M nL Q k n9 σ q lv (.int v :: st)) : G X M nL Q k n9 σ pc lv (.int i :: .ref (gScB M) :: st) := by
  subst hq
  subst hv
  obtain ⟨h1, h2, h3⟩ := gX_of hC
  exact fun H locs ls hP hS hl => va_sld hC.x hC.b h1 h2 h3 hS hin hdg (kk H locs ls hP hS hl)
theorem g_slen (hC : gOk X M own cc nL d mc ms) (hdg : decode cc pc = .ok (.arraylength, 1)) (hq : pc + 1 = q) (kk : G X M nL Q k n9 σ q lv (.int (nI (gScL M)) :: st)) : G X M nL Q k n9 σ pc lv (.ref (gScB M) :: st) := by
  subst hq
  obtain ⟨h1, h2, h3⟩ := gX_of hC
  exact fun H locs ls hP hS hl => va_slen hC.x hC.b h1 h2 h3 hS hdg (kk H locs ls hP hS hl)
theorem g_tsIn (hC : gOk X M own cc nL d mc ms) {dflt lo hi : Int} {offs : Array Int} {len : Nat} {x : Int32} {off : Int} {tgt : Nat} (hdg : decode cc pc = .ok (.tableswitch dflt lo hi offs, len)) (h1 : ¬ x.toInt < lo) (h2 : ¬ hi < x.toInt) (ho : offs[(x.toInt - lo).toNat]? = some off) (ht : (pc : Int) + off = (tgt : Int)) (kk : G X M nL Q k n9 σ tgt lv st) : G X M nL Q k n9 σ pc lv (.int x :: st) := fun H locs ls hP hS hl => lv_tableIn hC.x hC.b hdg h1 h2 ho ht (kk H locs ls hP hS hl)
theorem g_tsOut (hC : gOk X M own cc nL d mc ms) {dflt lo hi : Int} {offs : Array Int} {len : Nat} {x : Int32} {tgt : Nat} (hdg : decode cc pc = .ok (.tableswitch dflt lo hi offs, len)) (h : x.toInt < lo ∨ hi < x.toInt) (ht : (pc : Int) + dflt = (tgt : Int)) (kk : G X M nL Q k n9 σ tgt lv st) : G X M nL Q k n9 σ pc lv (.int x :: st) := fun H locs ls hP hS hl => lv_tableOut hC.x hC.b hdg h ht (kk H locs ls hP hS hl)
end LW
section CN
variable {l : Launch} {M : gMT} {y : MethodName} {cw : Cond} {d mc ms : Nat} {av : List Value} {φ σ : gS} {a0 : Nat} {ρ ρ' : gSt} {L : lRes} {v : Int32}
theorem con_I (h : Con l M y cw d mc ms av σ (rI (sQ M φ a0 (wR L) (nx ρ L))) nX) (e : L = (eI, 0, ρ)) : Con l M y cw d mc ms av σ (rI (sQ M φ a0 cI ρ)) nX := by
  obtain ⟨h1, h2⟩ := no_I e
  rw [h1, h2] at h
  exact h
theorem con_A (h : Con l M y cw d mc ms av σ (rI (sQ M φ a0 (wR L) (nx ρ L))) nX) (e : L = (eA, 0, ρ)) : Con l M y cw d mc ms av σ (rI (sQ M φ a0 cA ρ)) nX := by
  obtain ⟨h1, h2⟩ := no_A e
  rw [h1, h2] at h
  exact h
theorem con_S (h : Con l M y cw d mc ms av σ (rI (sQ M φ a0 (wR L) (nx ρ L))) nX) (e : L = (eS, 0, ρ)) : Con l M y cw d mc ms av σ (rI (sQ M φ a0 cS ρ)) nX := by
  obtain ⟨h1, h2⟩ := no_S e
  rw [h1, h2] at h
  exact h
theorem con_v (h : Con l M y cw d mc ms av σ (rI (sQ M φ a0 (wR L) (nx ρ L))) nX) (e : L = ("", v, ρ')) : Con l M y cw d mc ms av σ (rI (sQ M φ a0 v ρ')) nX := by
  subst e
  exact h
end CN
theorem msk_31 (x : Int32) : ∃ j : Nat, j < 2 ^ 31 ∧ x &&& 2147483647 = nI j := by
  have h := Jvm.Kit.i32_mask x 2147483647 (k := 31) (by decide) (by decide)
  refine nI_of (fun z => ?_)
  rw [Int32.lt_iff_toInt_lt, h, show (0 : Int32).toInt = 0 by decide] at z
  have := Int.emod_nonneg x.toInt (show ((2 : Int) ^ 31) ≠ 0 by decide)
  omega
set_option maxRecDepth 100000 in
set_option maxHeartbeats 4000000 in
theorem c_drawn (l : Launch) (hfl : l.stackTraces = false) (M : gMT) (σ : gS) (k : Nat) (hk : k ≤ 100) (hL : gScL M ≤ 260) : Con l M yL_drawn (.code yL_drawn cL_drawn 2 (Option.some FieldType.int)) 1 0 0 [.ref (gScB M), .int (nI k)] σ (rI fun r σ2 => (∃ j : Nat, j < 2 ^ 31 ∧ r = nI j) ∧ σ2 = σ) (nX) := by
  refine g_con hfl (by decide) (lv := [(0, .ref (gScB M)), (1, .int (nI k))]) rfl rfl (Nat.le_of_ble_eq_true rfl) (fun X hX hC hR htb => ?_)
  have fin : ∀ v : Int32, G X M 2 (gQ X M 0 0 (rI fun r σ2 => (∃ j : Nat, j < 2 ^ 31 ∧ r = nI j) ∧ σ2 = σ) nX) 0 0 σ 22 [(0, .ref (gScB M)), (1, .int (nI k))] [.int v] := by
    intro v
    refine g_ldc (q := 24) hC kk_L_85 dL_drawn_22 rfl ?_
    refine g_iand (q := 25) hC dL_drawn_24 rfl rfl ?_
    exact g_iret hC hR dL_drawn_25 (by omega) (by omega) (⟨_, rfl, msk_31 v, rfl⟩)
  refine g_iload_n (q := 1) (i := 1) hC dL_drawn_0 rfl rfl rfl ?_
  refine g_aload_n (q := 2) (i := 0) hC dL_drawn_1 rfl rfl rfl ?_
  refine g_slen (q := 3) hC dL_drawn_2 rfl ?_
  refine g_icmp_ge (tgt := 12) (q := 6) hC dL_drawn_3 (by decide) rfl (fun c_3 => ?_) (fun c_3 => ?_)
  · refine g_ldc (q := 14) hC kk_L_84 dL_drawn_12 rfl ?_
    refine g_iload_n (q := 15) (i := 1) hC dL_drawn_14 rfl rfl rfl ?_
    refine g_iconst (q := 16) (v := (3)) hC dL_drawn_15 rfl rfl ?_
    refine g_iadd (q := 17) hC dL_drawn_16 rfl rfl ?_
    refine g_imul (q := 18) hC dL_drawn_17 rfl rfl ?_
    refine g_sipush (q := 21) (v := (13619)) hC dL_drawn_18 rfl rfl ?_
    refine g_iadd (q := 22) hC dL_drawn_21 rfl rfl ?_
    exact fin _
  · have hlt : k < gScL M := Nat.not_le.mp (fun z => c_3 (nI_le z (by omega)))
    refine g_aload_n (q := 7) (i := 0) hC dL_drawn_6 rfl rfl rfl ?_
    refine g_iload_n (q := 8) (i := 1) hC dL_drawn_7 rfl rfl rfl ?_
    refine g_sld (q := 9) (v := gScV M k) hC dL_drawn_8 (vp_in_nI hlt (by omega)) (congrArg (gScV M) (nI_clamp (by omega))) rfl ?_
    refine g_goto (tgt := 22) hC dL_drawn_9 (by decide) ?_
    exact fin _
