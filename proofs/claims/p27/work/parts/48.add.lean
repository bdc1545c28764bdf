/-! ===== the ledger: add to a list of its own; the path ===== -/
section GAD
variable {X : gX} {M : gMT} {own : String} {cc : ByteArray} {nL d mc ms : Nat} {Q : State → Prop} {k n9 : Nat} {σ : gS} {pc q : Nat} {lv : List (Nat × Value)} {st st0 rest : List Value}
theorem g_addG (hC : gOk X M RX4 cc nL d mc ms) {a dd c n e ms9 : Nat} {md : Int32} {f : Nat → Option Nat} (hA : σ a = some (oB 6 (lV md dd c))) (hD : gArr M σ dd n f) (hcn : c ≤ n) (hn : n ≤ 200) (hc : c ≤ 60) (hg : gGrow c ≤ ms9) (hel : ∀ i, i < c → ∀ y, f i = some y → gObj σ y) (he : gObj σ e) (hdg : decode cc pc = .ok (.invokevirtual 52, 3)) (hd : 7 < d) (hk : k + 1 ≤ mc) (hs : n9 + ms9 ≤ ms) (hcat : (rest.map fun v => v.category).sum ≤ 8) (hq : pc + 3 = q)
    (kk : ∀ σ2 d2 n2, gAdded M σ σ2 a (md + 1) dd n c e f d2 n2 → G X M nL Q (k + 1) (n9 + ms9) σ2 q lv (.int 1 :: rest)) : G X M nL Q k n9 σ pc lv (.ref e :: .ref a :: rest) := by
  by_cases z : c < n
  · have hD2 : σ dd = some (aQ M n f) := by
      rcases hD with ⟨-, h⟩ | ⟨h, -⟩
      · exact h
      · omega
    refine g_ci (q := q) (g_runV hC kv_X4_52 md_Jx4a65c_add_9ea2d (c_addr _ hC.fl M _ a n dd c e md f hA hD2 z (by omega) he) (ci := 6) rfl hA hdg hd (by decide) (by omega) (by omega) rfl rfl hcat) hq (fun r σ2 h => ?_) (fun _ _ h9 => False.elim h9)
    obtain ⟨rfl, h⟩ := h
    exact g_widen (by omega) (by omega) (kk σ2 dd n h)
  · have e9 : n = c := by omega
    subst e9
    refine g_ci (q := q) (g_runV hC kv_X4_52 md_Jx4a65c_add_9ea2d (c_addg _ hC.fl M _ ms9 a dd n e md f hA hD hc hg hel he) (ci := 6) rfl hA hdg hd (by decide) (by omega) (by omega) rfl rfl hcat) hq (fun r σ2 h => ?_) (fun _ _ h9 => False.elim h9)
    obtain ⟨rfl, d2, h⟩ := h
    exact kk σ2 d2 _ h
end GAD
section RP
variable {M : gMT} {σ σ2 : gS} {A : gAd} {ρ ρ' : gSt} {W : gWt}
theorem Raw.gobj (h : Raw M σ A ρ W) {k i : Nat} (hk : k ≤ 4) (hk0 : k ≠ 0) (hi : i < ρ.1 11 k) : gObj σ (A k i) := by
  refine ⟨kCl k, _, ?_, h.1 k i hk hi⟩
  have hh : k = 1 ∨ k = 2 ∨ k = 3 ∨ k = 4 := by omega
  rcases hh with rfl | rfl | rfl | rfl <;> decide
/-- a list's elements are objects -/
theorem Raw.els (h : Raw M σ A ρ W) (hW : RW ρ) {j : Nat} (hj : lix j) (h7 : j = 7 → ∀ i, i < wRc W → wRe W i < ρ.1 11 1) : ∀ i, i < cntL ρ W j → ∀ y, wF W j i = some y → gObj σ y := by
  intro i hi y hy
  obtain ⟨⟨w1, w2, w3, w4⟩, ⟨w5, w6, w7⟩, ⟨w8, w9⟩, ⟨w10, w11⟩, -⟩ := hW
  rw [(h.2.2.1 j hj).2.2.2.2 i hi] at hy
  cases hy
  obtain ⟨h1, h2, h3⟩ := hj
  have hk : j = 1 ∨ j = 2 ∨ j = 3 ∨ j = 4 ∨ j = 5 ∨ j = 7 := by omega
  rcases hk with rfl | rfl | rfl | rfl | rfl | rfl
  · have hi : i < ρ.1 10 1 := hi
    exact h.gobj (k := 1) (by decide) (by decide) (by omega)
  · have hi : i < ρ.1 10 2 := hi
    exact h.gobj (k := 1) (by decide) (by decide) (by omega)
  · have hi : i < ρ.1 10 3 := hi
    exact h.gobj (k := 2) (by decide) (by decide) (by omega)
  · have hi : i < ρ.1 10 4 := hi
    exact h.gobj (k := 3) (by decide) (by decide) (by omega)
  · have hi : i < ρ.1 10 5 := hi
    exact h.gobj (k := 4) (by decide) (by decide) (by omega)
  · exact h.gobj (k := 1) (by decide) (by decide) (h7 rfl i hi)
/-- the path changed -/
theorem Raw.pth (h : Raw M σ A ρ W) {ml : Int32} {c : Nat} {f : Nat → Int32} (g1 : σ2 (A 5 6) = some (oB 7 (sbV (wSv W) ml c))) (g2 : σ2 (wSv W) = some (aI M 0 16 f)) (g3 : ∀ b, b ≠ A 5 6 → b ≠ wSv W → σ2 b = σ b) (g4 : ∀ i, i < c → f i = nI (ρ'.1 1 i))
    (o1 : ∀ k i, k ≤ 4 → i < ρ'.1 11 k → cel A ρ' k i = cel A ρ k i) (o2 : ∀ k, ρ'.1 11 k = ρ.1 11 k) (o3 : ∀ j, ρ'.1 10 j = ρ.1 10 j) (o4 : ρ'.1 0 0 = c) : RawE M σ2 A ρ' ∧ gFF σ σ2 := by
  obtain ⟨h1, h2, h3, h4, h5, h6, h7, h8⟩ := h
  have hob : ∀ b ci l, σ b = some (oB ci l) → ci ≠ 7 → σ2 b = some (oB ci l) := by
    intro b ci l hb hci
    rw [g3 b (fun z => ?_) (fun z => ?_)]
    · exact hb
    · rw [z, h6] at hb
      cases hb
      exact hci rfl
    · rw [z, h7] at hb
      cases hb
  refine ⟨⟨(W.1, W.2.1, W.2.2.1, W.2.2.2.1, (wSv W, ml, f), W.2.2.2.2.2), fun k i hk hi => ?_, fun k i i' hk hi hi' => ?_, fun j' hj' => ?_, h4, h5, ?_, g2, ?_⟩, fun b e hb he => ?_⟩
  · rw [o1 k i hk hi]
    rw [o2] at hi
    have hl := kCl_lt hk
    exact hob _ _ _ (h1 k i hk hi) (by omega)
  · rw [o2] at hi hi'
    exact h2 k i i' hk hi hi'
  · obtain ⟨q1, q2, q3, q4, q5⟩ := h3 j' hj'
    have ec : cntL ρ' (W.1, W.2.1, W.2.2.1, W.2.2.2.1, (wSv W, ml, f), W.2.2.2.2.2) j' = cntL ρ W j' := by
      unfold cntL
      by_cases y : j' = 7
      · rw [if_pos y, if_pos y]
        rfl
      · rw [if_neg y, if_neg y, o3 j']
    unfold LR
    rw [ec]
    refine ⟨hob _ _ _ q1 (by decide), ?_, q3, q4, fun i hi => ?_⟩
    · rcases q2 with ⟨q2, q2'⟩ | q2
      · refine Or.inl ⟨q2, ?_⟩
        show σ2 (wDd W j') = _
        rw [g3 _ (fun w => ?_) (fun w => ?_)]
        · exact q2'
        · rw [w, h6] at q2'
          cases q2'
        · rw [w, h7] at q2'
          simp [aQ, aI] at q2'
      · exact Or.inr q2
    · show wF W j' i = _
      rw [q5 i hi]
      rw [elA_ne A (W := W) (W' := (W.1, W.2.1, W.2.2.1, W.2.2.2.1, (wSv W, ml, f), W.2.2.2.2.2)) (Or.inr rfl) hj']
  · rw [o4]
    exact g1
  · intro i hi
    rw [o4] at hi
    exact g4 i hi
  · rw [g3 b (fun z => ?_) (fun z => ?_)]
    · exact hb
    · rw [z, h6] at hb
      cases hb
      exact absurd he (by show ¬ (7 : Nat) = 5; decide)
    · rw [z, h7] at hb
      cases hb
      exact absurd rfl he
end RP
