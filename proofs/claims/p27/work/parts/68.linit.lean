/-! ===== the ledger's constructor ===== -/
def mkL (M : gMT) (σ : gS) (a0 : Nat) (fs : List Value) (L : List Nat) : Prop := σ a0 = some (oB 4 fs) ∧ (∀ y ∈ L, σ y = some (oB 6 (lV 0 (gE M) 0))) ∧ L.Nodup
theorem mkL.add {M : gMT} {σ : gS} {a0 y : Nat} {fs fs' : List Value} {L : List Nat} (h : mkL M σ a0 fs L) (hy : σ y = none) : mkL M (gUp (gUp σ y (oB 6 (lV 0 (gE M) 0))) a0 (oB 4 fs')) a0 fs' (y :: L) ∧ gFF σ (gUp (gUp σ y (oB 6 (lV 0 (gE M) 0))) a0 (oB 4 fs')) := by
  obtain ⟨h1, h2, h3⟩ := h
  have hya : y ≠ a0 := fun e => by rw [e, h1] at hy; cases hy
  refine ⟨⟨gUp_self _ _ _, fun x hx => ?_, List.nodup_cons.mpr ⟨fun hx => (by rw [h2 y hx] at hy; cases hy), h3⟩⟩, (gFF.new hy).trans (gFF.obj (fs := fs) (ci := 4) ?_ (by decide))⟩
  · rcases List.mem_cons.mp hx with rfl | hx
    · rw [gUp_ne _ _ hya]
      exact gUp_self _ _ _
    · have := h2 x hx
      rw [gUp_ne _ _ (fun e => by rw [e, h1] at this; cases this), gUp_ne _ _ (fun e => by rw [e, hy] at this; cases this)]
      exact this
  · rw [gUp_ne _ _ (fun e => hya e.symm)]
    exact h1
theorem mkL.sb {M : gMT} {σ : gS} {a0 y v : Nat} {fs fs' : List Value} {L : List Nat} (h : mkL M σ a0 fs L) (hy : σ y = none) (hv : σ v = none) (hne : v ≠ y) (e1 e2 : va_E) : mkL M (gUp (gUp (gUp σ v e2) y e1) a0 (oB 4 fs')) a0 fs' L ∧ gFF σ (gUp (gUp (gUp σ v e2) y e1) a0 (oB 4 fs')) := by
  obtain ⟨h1, h2, h3⟩ := h
  have hya : a0 ≠ y := fun e => by rw [← e, h1] at hy; cases hy
  have hva : a0 ≠ v := fun e => by rw [← e, h1] at hv; cases hv
  refine ⟨⟨gUp_self _ _ _, fun x hx => ?_, h3⟩, ((gFF.new hv).trans (gFF.new (by rw [gUp_ne _ _ (fun e => hne e.symm)]; exact hy))).trans (gFF.obj (fs := fs) (ci := 4) ?_ (by decide))⟩
  · have := h2 x hx
    rw [gUp_ne _ _ (fun e => by rw [e, h1] at this; cases this), gUp_ne _ _ (fun e => by rw [e, hy] at this; cases this), gUp_ne _ _ (fun e => by rw [e, hv] at this; cases this)]
    exact this
  · rw [gUp_ne _ _ hya, gUp_ne _ _ hva]
    exact h1
theorem mkL.set {M : gMT} {σ : gS} {a0 : Nat} {fs fs' : List Value} {L : List Nat} (h : mkL M σ a0 fs L) : mkL M (gUp σ a0 (oB 4 fs')) a0 fs' L ∧ gFF σ (gUp σ a0 (oB 4 fs')) := by
  obtain ⟨h1, h2, h3⟩ := h
  refine ⟨⟨gUp_self _ _ _, fun x hx => ?_, h3⟩, gFF.obj h1 (by decide)⟩
  have := h2 x hx
  rw [gUp_ne _ _ (fun e => by rw [e, h1] at this; cases this)]
  exact this
def cN (x0 x1 x2 y1 y2 y3 : Nat) : Nat → Nat → Nat := fun c i => if c = 11 then (if i = 0 then x0 else if i = 1 then x1 else if i = 2 then x2 else 0) else if c = 10 then (if i = 1 then y1 else if i = 2 then y2 else if i = 3 then y3 else 0) else if c = 2 then 32 else 0
def qs (x0 x1 x2 y1 y2 y3 : Nat) : gSt := (cN x0 x1 x2 y1 y2 y3, fun c _ => if 1 ≤ c ∧ c ≤ 3 then -1 else 0, fun _ _ => false)
def ledN (A : gAd) : List Value := [.ref (A 5 1), .ref (A 5 2), .ref (A 5 3), .ref (A 5 4), .ref (A 5 5), .null, .ref (A 5 6), .ref (A 5 7), .int 0, .int 0, .int 0]
theorem gUp_id {σ : gS} {a : Nat} {e : va_E} (h : σ a = some e) : gUp σ a e = σ := by
  funext b
  unfold gUp
  split
  · subst b
    exact h.symm
  · rfl
theorem cN1 {x1 y1 y2 : Nat} {j : Nat} (hj : j ≠ 1) : (qs 0 (x1 + 1) 0 (y1 + 1) y2 0).1 10 j = (qs 0 (x1 + 1) 0 y1 y2 0).1 10 j := by
  simp [qs, cN, hj]
theorem cN2 {x1 y1 y2 : Nat} {j : Nat} (hj : j ≠ 2) : (qs 0 (x1 + 1) 0 y1 (y2 + 1) 0).1 10 j = (qs 0 (x1 + 1) 0 y1 y2 0).1 10 j := by
  simp [qs, cN, hj]
section CI
variable {M : gMT} {σ σ2 : gS} {A : gAd} {ρ ρ' : gSt} {W : gWt}
/-- the ledger under construction: its lists, its cell -/
def Cst (M : gMT) (σ : gS) (a0 : Nat) (A : gAd) (x1 x2 y1 y2 y3 : Nat) : Prop := σ a0 = some (oB 4 (ledN A)) ∧ ∃ W, Raw M σ A (qs 0 x1 x2 y1 y2 y3) W ∧ wRc W = 0
theorem Raw.addL7 (h : Raw M σ A ρ W) {j : Nat} (hj : lix j) {e d2 n2 : Nat} (hg : gAdded M σ σ2 (A 5 j) (wMd W j + 1) (wDd W j) (wN W j) (cntL ρ W j) e (wF W j) d2 n2) (hn : cntL ρ W j ≤ 60) (hj7 : j ≠ 7) (he : e = elA A W j (cntL ρ W j))
    (o1 : ∀ k i, k ≤ 4 → i < ρ'.1 11 k → cel A ρ' k i = cel A ρ k i) (o2 : ∀ k, ρ'.1 11 k = ρ.1 11 k) (o3 : ∀ j', j' ≠ j → ρ'.1 10 j' = ρ.1 10 j') (o3' : ρ'.1 10 j = ρ.1 10 j + 1) (o4 : ρ'.1 0 0 = ρ.1 0 0) (o5 : ∀ i, ρ'.1 1 i = ρ.1 1 i) : (∃ W', Raw M σ2 A ρ' W' ∧ wRc W' = wRc W) ∧ gFF σ σ2 := by
  obtain ⟨f2, a1, a2, a3, a4, a5, a6, a7⟩ := hg
  obtain ⟨l1, l2, l3, l4, l5⟩ := h.2.2.1 j hj
  have hc : ∀ W', cntL ρ' W' j = cntL ρ W j + 1 := fun W' => by
    unfold cntL
    rw [if_neg hj7, if_neg hj7, o3']
  have hn2 : nOk n2 := by
    rcases a6 with ⟨-, rfl⟩ | ⟨-, z, rfl⟩
    · exact l4
    · exact nOk_g (z ▸ l4) hn
  have key := h.lst (ρ' := ρ') hj (md := wMd W j + 1) (dd := d2) (n := n2) (f := f2) (rc := wRc W) (re := wRe W) (hc _) a1 (Or.inl ⟨by omega, a2⟩) (by omega) hn2 (fun i hi => ?_) ?_ (fun b e' hb h1 h2 => ?_) (fun _ => ⟨rfl, rfl⟩) o1 o2 o3 o4 o5
  · exact ⟨⟨_, key.1, rfl⟩, key.2⟩
  · rw [elA_ne A (Or.inl hj7) hj]
    by_cases z : i < cntL ρ W j
    · rw [a3 i z]
      exact l5 i z
    · rw [show i = cntL ρ W j by omega, a4, he]
  · rcases a6 with ⟨z1, z2⟩ | ⟨z1, -, -⟩
    · exact Or.inr (Or.inl ⟨z1, z2⟩)
    · exact Or.inr (Or.inr z1)
  · rw [a7 b h1 (fun z => ?_)]
    · exact hb
    · rcases a6 with ⟨z1, z2⟩ | ⟨z1, -, -⟩
      · exact h2 ⟨by omega, z.trans z1⟩
      · rw [z, z1] at hb
        cases hb
/-- an object of another class keeps its place when a list grows -/
theorem gAdded.keep {a dd n c e d2 n2 b ci : Nat} {md : Int32} {f : Nat → Option Nat} {l l2 : List Value} (hg : gAdded M σ σ2 a md dd n c e f d2 n2) (ha : σ a = some (oB 6 l2)) (hD : gArr M σ dd n f) (hb : σ b = some (oB ci l)) (hci : ci ≠ 6) : σ2 b = some (oB ci l) := by
  obtain ⟨f2, a1, a2, a3, a4, a5, a6, a7⟩ := hg
  rw [a7 b (fun z => ?_) (fun z => ?_)]
  · exact hb
  · rw [z, ha] at hb
    cases hb
    exact hci rfl
  · rcases a6 with ⟨rfl, rfl⟩ | ⟨z1, -, -⟩
    · rcases hD with ⟨-, h⟩ | ⟨h, -⟩
      · rw [z, h] at hb
        cases hb
      · omega
    · rw [z, z1] at hb
      cases hb
theorem Raw.bare {L1 L2 L3 L4 L5 L7 s v a0 : Nat} {fs : List Value} {f : Nat → Int32} {mb : Int32} (h : mkL M σ a0 fs [L7, L5, L4, L3, L2, L1]) (hs : σ s = some (oB 7 (sbV v mb 0))) (hv : σ v = some (aI M 0 16 f)) : ∃ A : gAd, (A 5 1 = L1 ∧ A 5 2 = L2 ∧ A 5 3 = L3 ∧ A 5 4 = L4 ∧ A 5 5 = L5 ∧ A 5 6 = s ∧ A 5 7 = L7) ∧ ∃ W, Raw M σ A (qs 0 0 0 0 0 0) W ∧ wRc W = 0 := by
  obtain ⟨h1, h2, h3⟩ := h
  refine ⟨fun k i => if i = 1 then L1 else if i = 2 then L2 else if i = 3 then L3 else if i = 4 then L4 else if i = 5 then L5 else if i = 6 then s else L7, ⟨rfl, rfl, rfl, rfl, rfl, rfl, rfl⟩, (fun _ => 0, fun _ => gE M, fun _ => 0, fun _ _ => none, (v, mb, f), (0, fun _ => 0)), ⟨fun k i hk hi => ?_, fun k i i' hk hi => ?_, fun j hj => ?_, fun j j' hj hj' e => ?_, fun j j' hj hj' n1 => absurd n1 (Nat.lt_irrefl _), hs, hv, fun i hi => absurd hi (Nat.not_lt_zero _)⟩, rfl⟩
  · exfalso
    rcases k5 hk with rfl | rfl | rfl | rfl | rfl <;> exact absurd hi (Nat.not_lt_zero _)
  · exfalso
    rcases k5 hk with rfl | rfl | rfl | rfl | rfl <;> exact absurd hi (Nat.not_lt_zero _)
  · obtain ⟨j1, j2, j3⟩ := hj
    have hh : j = 1 ∨ j = 2 ∨ j = 3 ∨ j = 4 ∨ j = 5 ∨ j = 7 := by omega
    rcases hh with rfl | rfl | rfl | rfl | rfl | rfl <;> exact ⟨h2 _ (by simp), Or.inr ⟨rfl, rfl⟩, Nat.le_refl _, ⟨Nat.zero_le _, Or.inl rfl⟩, fun i hi => absurd hi (Nat.not_lt_zero _)⟩
  · simp only [List.nodup_cons, List.mem_cons, List.not_mem_nil, or_false, not_or, List.nodup_nil, and_true, not_false_eq_true] at h3
    obtain ⟨⟨a1, a2, a3, a4, a5⟩, ⟨b1, b2, b3, b4⟩, ⟨c1, c2, c3⟩, ⟨d1, d2⟩, e1⟩ := h3
    obtain ⟨j1, j2, j3⟩ := hj
    obtain ⟨j1', j2', j3'⟩ := hj'
    have hh : j = 1 ∨ j = 2 ∨ j = 3 ∨ j = 4 ∨ j = 5 ∨ j = 7 := by omega
    have hh' : j' = 1 ∨ j' = 2 ∨ j' = 3 ∨ j' = 4 ∨ j' = 5 ∨ j' = 7 := by omega
    rcases hh with rfl | rfl | rfl | rfl | rfl | rfl <;> rcases hh' with rfl | rfl | rfl | rfl | rfl | rfl <;> first | rfl | (exfalso; revert e; simp only []; intro e; first | exact a1 e | exact a1 e.symm | exact a2 e | exact a2 e.symm | exact a3 e | exact a3 e.symm | exact a4 e | exact a4 e.symm | exact a5 e | exact a5 e.symm | exact b1 e | exact b1 e.symm | exact b2 e | exact b2 e.symm | exact b3 e | exact b3 e.symm | exact b4 e | exact b4 e.symm | exact c1 e | exact c1 e.symm | exact c2 e | exact c2 e.symm | exact c3 e | exact c3 e.symm | exact d1 e | exact d1 e.symm | exact d2 e | exact d2 e.symm | exact e1 e | exact e1 e.symm)
/-- an account more, in list j (1 the users', 2 the groups') -/
theorem Cst.acc {a0 z x1 x2 y1 y2 y3 : Nat} (h : Cst M σ a0 A x1 x2 y1 y2 y3) (hz : σ z = none) (hy : y1 ≤ x1) (hx : x1 ≤ 5 → y2 = 0) (hx2 : 6 ≤ x1 → 6 + y2 ≤ x1) (h2 : x2 = 0 ∧ y3 = 0) : Cst M (gUp σ z (oB 0 acc0)) a0 (aN A 1 x1 z) (x1 + 1) x2 y1 y2 y3 ∧ gFF σ (gUp σ z (oB 0 acc0)) := by
  obtain ⟨h1, W, hr, hw⟩ := h
  obtain ⟨rfl, rfl⟩ := h2
  have hA5 : ∀ j, aN A 1 x1 z 5 j = A 5 j := fun j => aN_o A (Or.inl (by decide))
  have key := hr.newO (A' := aN A 1 x1 z) (ρ' := qs 0 (x1 + 1) 0 y1 y2 0) (k := 1) (n := x1) (re := wRe W) (by decide) rfl hz (l := acc0) rfl (aN_s _ _ _ _) (fun k i hk hi => aN_o A (by
    by_cases y : k = 1
    · subst y
      have hi : i < x1 := hi
      exact Or.inr (by omega)
    · exact Or.inl y)) hA5 (fun k i hk hi => ?_) (fun j => rfl) rfl (fun k' hk' hne => ?_) rfl (fun i => rfl) (fun j i hj hi => ?_)
  · refine ⟨⟨?_, _, key.1, hw⟩, key.2⟩
    rw [gUp_ne _ _ (fun e => by rw [e, hz] at h1; cases h1)]
    unfold ledN
    rw [hA5, hA5, hA5, hA5, hA5, hA5, hA5]
    exact h1
  · rcases k5 hk with rfl | rfl | rfl | rfl | rfl
    · exact absurd hi (Nat.not_lt_zero _)
    · rfl
    · exact absurd hi (Nat.not_lt_zero _)
    · exact absurd hi (Nat.not_lt_zero _)
    · exact absurd hi (Nat.not_lt_zero _)
  · rcases k5 hk' with rfl | rfl | rfl | rfl | rfl
    · rfl
    · exact absurd rfl hne
    · rfl
    · rfl
    · rfl
  · obtain ⟨j1, j2, j3⟩ := hj
    have hh : j = 1 ∨ j = 2 ∨ j = 3 ∨ j = 4 ∨ j = 5 ∨ j = 7 := by omega
    rcases hh with rfl | rfl | rfl | rfl | rfl | rfl
    · have hi : i < y1 := hi
      exact aN_o A (Or.inr (by omega))
    · have hi : i < y2 := hi
      exact aN_o A (Or.inr (by omega))
    · exact absurd hi (Nat.not_lt_zero _)
    · exact absurd hi (Nat.not_lt_zero _)
    · exact absurd hi (Nat.not_lt_zero _)
    · have hi : i < wRc W := hi
      omega
/-- the root project -/
theorem Cst.prj {a0 y : Nat} (h : Cst M σ a0 A 10 0 6 3 0) (hy : σ y = none) : Cst M (gUp σ y (oB 1 [.int 0, .int 32, .ref (A 1 9), .null])) a0 (aN A 2 0 y) 10 1 6 3 0 ∧ gFF σ (gUp σ y (oB 1 [.int 0, .int 32, .ref (A 1 9), .null])) := by
  obtain ⟨h1, W, hr, hw⟩ := h
  have hA5 : ∀ j, aN A 2 0 y 5 j = A 5 j := fun j => aN_o A (Or.inl (by decide))
  have key := hr.newO (A' := aN A 2 0 y) (ρ' := qs 0 10 1 6 3 0) (k := 2) (n := 0) (re := wRe W) (by decide) rfl hy (l := [.int 0, .int 32, .ref (A 1 9), .null]) rfl (aN_s _ _ _ _) (fun k i hk hi => aN_o A (by
    by_cases y : k = 2
    · subst y
      exact absurd hi (Nat.not_lt_zero _)
    · exact Or.inl y)) hA5 (fun k i hk hi => ?_) (fun j => rfl) rfl (fun k' hk' hne => ?_) rfl (fun i => rfl) (fun j i hj hi => ?_)
  · refine ⟨⟨?_, _, key.1, hw⟩, key.2⟩
    rw [gUp_ne _ _ (fun e => by rw [e, hy] at h1; cases h1)]
    unfold ledN
    rw [hA5, hA5, hA5, hA5, hA5, hA5, hA5]
    exact h1
  · rcases k5 hk with rfl | rfl | rfl | rfl | rfl
    · exact absurd hi (Nat.not_lt_zero _)
    · rfl
    · exact absurd hi (Nat.not_lt_zero _)
    · exact absurd hi (Nat.not_lt_zero _)
    · exact absurd hi (Nat.not_lt_zero _)
  · rcases k5 hk' with rfl | rfl | rfl | rfl | rfl
    · rfl
    · rfl
    · exact absurd rfl hne
    · rfl
    · rfl
  · obtain ⟨j1, j2, j3⟩ := hj
    have hh : j = 1 ∨ j = 2 ∨ j = 3 ∨ j = 4 ∨ j = 5 ∨ j = 7 := by omega
    rcases hh with rfl | rfl | rfl | rfl | rfl | rfl
    · exact aN_o A (Or.inl (by decide))
    · exact aN_o A (Or.inl (by decide))
    · exact absurd hi (Nat.not_lt_zero _)
    · exact absurd hi (Nat.not_lt_zero _)
    · exact absurd hi (Nat.not_lt_zero _)
    · exact aN_o A (Or.inl (by decide))
theorem Raw.othr {a0 : Nat} {fs fs' : List Value} (h : Raw M σ A ρ W) (h0 : ρ.1 11 0 = 0) (ha : σ a0 = some (oB 4 fs)) : Raw M (gUp σ a0 (oB 4 fs')) A ρ W := by
  obtain ⟨h1, h2, h3, h4, h5, h6, h7, h8⟩ := h
  refine ⟨fun k i hk hi => ?_, h2, fun j hj => ?_, h4, h5, gUp_obj ha h6 (by decide), gUp_inl ha h7, h8⟩
  · refine gUp_obj ha (h1 k i hk hi) (fun e => ?_)
    have : k = 0 := kCl_inj hk (by decide) e
    subst this
    omega
  · obtain ⟨q1, q2, q3, q4, q5⟩ := h3 j hj
    exact ⟨gUp_obj ha q1 (by decide), gArr_ob ha q2, q3, q4, q5⟩
theorem Raw.setLed {a0 : Nat} (h : Raw M σ A (qs 0 10 1 6 3 1) W) (ha : σ a0 = some (oB 4 (ledF A (qs 1 10 1 6 3 1)))) : Raw M σ (aN A 0 0 a0) (qs 1 10 1 6 3 1) W := by
  obtain ⟨h1, h2, h3, h4, h5, h6, h7, h8⟩ := h
  have hA : ∀ k i, k ≠ 0 → aN A 0 0 a0 k i = A k i := fun k i hk => aN_o A (Or.inl hk)
  have hc : ∀ k i, k ≤ 4 → cel (aN A 0 0 a0) (qs 1 10 1 6 3 1) k i = cel A (qs 1 10 1 6 3 1) k i := fun k i hk => by
    rcases k5 hk with rfl | rfl | rfl | rfl | rfl
    · rfl
    · rfl
    · rfl
    · rfl
    · rfl
  refine ⟨fun k i hk hi => ?_, fun k i i' hk hi hi' e => ?_, fun j hj => ?_, ?_, h5, ?_, h7, h8⟩
  · rw [hc k i hk]
    by_cases z : k = 0
    · subst z
      have hi : i < 1 := hi
      obtain rfl : i = 0 := by omega
      rw [aN_s]
      exact ha
    · rw [hA k i z]
      refine (h1 k i hk ?_).trans ?_
      · rcases k5 hk with rfl | rfl | rfl | rfl | rfl
        · exact absurd rfl z
        · exact hi
        · exact hi
        · exact hi
        · exact hi
      · rcases k5 hk with rfl | rfl | rfl | rfl | rfl
        · exact absurd rfl z
        · rfl
        · rfl
        · rfl
        · rfl
  · by_cases z : k = 0
    · subst z
      have hi : i < 1 := hi
      have hi' : i' < 1 := hi'
      omega
    · rw [hA k i z, hA k i' z] at e
      refine h2 k i i' hk ?_ ?_ e
      · rcases k5 hk with rfl | rfl | rfl | rfl | rfl
        · exact absurd rfl z
        · exact hi
        · exact hi
        · exact hi
        · exact hi
      · rcases k5 hk with rfl | rfl | rfl | rfl | rfl
        · exact absurd rfl z
        · exact hi'
        · exact hi'
        · exact hi'
        · exact hi'
  · obtain ⟨q1, q2, q3, q4, q5⟩ := h3 j hj
    refine ⟨by rw [hA 5 j (by decide)]; exact q1, q2, q3, q4, fun i hi => (q5 i hi).trans ?_⟩
    obtain ⟨j1, j2, j3⟩ := hj
    have hh : j = 1 ∨ j = 2 ∨ j = 3 ∨ j = 4 ∨ j = 5 ∨ j = 7 := by omega
    rcases hh with rfl | rfl | rfl | rfl | rfl | rfl <;> rfl
  · intro j j' hj hj' e
    rw [hA 5 j (by decide), hA 5 j' (by decide)] at e
    exact h4 j j' hj hj' e
  · rw [hA 5 6 (by decide)]
    exact h6
end CI
def ldI : gSt := qs 1 10 1 6 3 1
def liP (M : gMT) (σ : gS) (a0 : Nat) : gS → Prop := fun σ2 => (∃ A, A 0 0 = a0 ∧ RawE M σ2 A ldI) ∧ gFF σ σ2
set_option maxRecDepth 100000 in
set_option maxHeartbeats 4000000 in
theorem c_L_init (l : Launch) (hfl : l.stackTraces = false) (M : gMT) (σ : gS) (a0 : Nat) (hA : σ a0 = some (oB 4 [.null, .null, .null, .null, .null, .null, .null, .null, .int 0, .int 0, .int 0])) : Con l M yX4_init (.code yX4_init cX4_init 2 (Option.none : Option FieldType)) 12 60 600 [.ref a0] σ (rV (liP M σ a0)) (nX) := by
  refine g_con hfl (by decide) (lv := [(0, .ref a0)]) rfl rfl (Nat.le_of_ble_eq_true rfl) (fun X hX hC hR htb => ?_)
  have m0 : mkL M σ a0 [.null, .null, .null, .null, .null, .null, .null, .null, .int 0, .int 0, .int 0] [] := ⟨hA, fun y hy => absurd hy List.not_mem_nil, List.nodup_nil⟩
  have f0 : gFF σ σ := gFF.rf
  refine g_aload_n (q := 1) (i := 0) hC dX4_init_0 rfl rfl rfl ?_
  refine g_objInit (q := 4) hC ko_X4_1 dX4_init_1 (by decide) (by decide) rfl ?_
  refine g_aload_n (q := 5) (i := 0) hC dX4_init_4 rfl rfl rfl ?_
  refine g_new (q := 8) (ty := tyJx4a65c) (fs := [.int 0, .null, .int 0]) hC kn_X4_7 tyJx4a65c_ok dX4_init_5 (fun j hj => by
    have h : j = 0 ∨ j = 1 ∨ j = 2 := by omega
    rcases h with rfl | rfl | rfl <;> rfl) (by omega) (by omega) rfl (fun L1 hL1 => ?_)
  refine g_dup (q := 9) hC dX4_init_8 rfl rfl ?_
  refine g_cv (q := 12) (g_runI hC ki_X4_9 md_Jx4a65c_init_da8c8 (c_list_init _ hC.fl M _ L1 .null 0 (gUp_self _ _ _)) dX4_init_9 (by decide) (by decide) (by omega) (by omega) rfl rfl (Nat.le_of_ble_eq_true rfl)) rfl (fun t1 e9 => ?_) (fun _ _ h9 => False.elim h9)
  rw [gUp_up] at e9
  have k1 : t1 a0 = some (oB 4 [.null, .null, .null, .null, .null, .null, .null, .null, .int 0, .int 0, .int 0]) := by
    rw [e9, gUp_ne _ _ (fun e => by rw [← e, m0.1] at hL1; cases hL1)]
    exact m0.1
  refine g_putF (q := 15) hC hR kf_X4_10 dX4_init_12 k1 (Nat.le_of_ble_eq_true rfl) rfl rfl rfl ?_
  show G X M 2 _ _ _ (gUp t1 a0 (oB 4 [.ref L1, .null, .null, .null, .null, .null, .null, .null, .int 0, .int 0, .int 0])) _ _ _
  obtain ⟨m1, g1⟩ := m0.add (fs' := [.ref L1, .null, .null, .null, .null, .null, .null, .null, .int 0, .int 0, .int 0]) hL1
  rw [← e9] at m1 g1
  have f1 := f0.trans g1
  generalize e8 : gUp t1 a0 (oB 4 [.ref L1, .null, .null, .null, .null, .null, .null, .null, .int 0, .int 0, .int 0]) = s1 at *
  refine g_aload_n (q := 16) (i := 0) hC dX4_init_15 rfl rfl rfl ?_
  refine g_new (q := 19) (ty := tyJx4a65c) (fs := [.int 0, .null, .int 0]) hC kn_X4_7 tyJx4a65c_ok dX4_init_16 (fun j hj => by
    have h : j = 0 ∨ j = 1 ∨ j = 2 := by omega
    rcases h with rfl | rfl | rfl <;> rfl) (by omega) (by omega) rfl (fun L2 hL2 => ?_)
  refine g_dup (q := 20) hC dX4_init_19 rfl rfl ?_
  refine g_cv (q := 23) (g_runI hC ki_X4_9 md_Jx4a65c_init_da8c8 (c_list_init _ hC.fl M _ L2 .null 0 (gUp_self _ _ _)) dX4_init_20 (by decide) (by decide) (by omega) (by omega) rfl rfl (Nat.le_of_ble_eq_true rfl)) rfl (fun t2 e9 => ?_) (fun _ _ h9 => False.elim h9)
  rw [gUp_up] at e9
  have k2 : t2 a0 = some (oB 4 [.ref L1, .null, .null, .null, .null, .null, .null, .null, .int 0, .int 0, .int 0]) := by
    rw [e9, gUp_ne _ _ (fun e => by rw [← e, m1.1] at hL2; cases hL2)]
    exact m1.1
  refine g_putF (q := 26) hC hR kf_X4_16 dX4_init_23 k2 (Nat.le_of_ble_eq_true rfl) rfl rfl rfl ?_
  show G X M 2 _ _ _ (gUp t2 a0 (oB 4 [.ref L1, .ref L2, .null, .null, .null, .null, .null, .null, .int 0, .int 0, .int 0])) _ _ _
  obtain ⟨m2, g2⟩ := m1.add (fs' := [.ref L1, .ref L2, .null, .null, .null, .null, .null, .null, .int 0, .int 0, .int 0]) hL2
  rw [← e9] at m2 g2
  have f2 := f1.trans g2
  generalize e8 : gUp t2 a0 (oB 4 [.ref L1, .ref L2, .null, .null, .null, .null, .null, .null, .int 0, .int 0, .int 0]) = s2 at *
  refine g_aload_n (q := 27) (i := 0) hC dX4_init_26 rfl rfl rfl ?_
  refine g_new (q := 30) (ty := tyJx4a65c) (fs := [.int 0, .null, .int 0]) hC kn_X4_7 tyJx4a65c_ok dX4_init_27 (fun j hj => by
    have h : j = 0 ∨ j = 1 ∨ j = 2 := by omega
    rcases h with rfl | rfl | rfl <;> rfl) (by omega) (by omega) rfl (fun L3 hL3 => ?_)
  refine g_dup (q := 31) hC dX4_init_30 rfl rfl ?_
  refine g_cv (q := 34) (g_runI hC ki_X4_9 md_Jx4a65c_init_da8c8 (c_list_init _ hC.fl M _ L3 .null 0 (gUp_self _ _ _)) dX4_init_31 (by decide) (by decide) (by omega) (by omega) rfl rfl (Nat.le_of_ble_eq_true rfl)) rfl (fun t3 e9 => ?_) (fun _ _ h9 => False.elim h9)
  rw [gUp_up] at e9
  have k3 : t3 a0 = some (oB 4 [.ref L1, .ref L2, .null, .null, .null, .null, .null, .null, .int 0, .int 0, .int 0]) := by
    rw [e9, gUp_ne _ _ (fun e => by rw [← e, m2.1] at hL3; cases hL3)]
    exact m2.1
  refine g_putF (q := 37) hC hR kf_X4_19 dX4_init_34 k3 (Nat.le_of_ble_eq_true rfl) rfl rfl rfl ?_
  show G X M 2 _ _ _ (gUp t3 a0 (oB 4 [.ref L1, .ref L2, .ref L3, .null, .null, .null, .null, .null, .int 0, .int 0, .int 0])) _ _ _
  obtain ⟨m3, g3⟩ := m2.add (fs' := [.ref L1, .ref L2, .ref L3, .null, .null, .null, .null, .null, .int 0, .int 0, .int 0]) hL3
  rw [← e9] at m3 g3
  have f3 := f2.trans g3
  generalize e8 : gUp t3 a0 (oB 4 [.ref L1, .ref L2, .ref L3, .null, .null, .null, .null, .null, .int 0, .int 0, .int 0]) = s3 at *
  refine g_aload_n (q := 38) (i := 0) hC dX4_init_37 rfl rfl rfl ?_
  refine g_new (q := 41) (ty := tyJx4a65c) (fs := [.int 0, .null, .int 0]) hC kn_X4_7 tyJx4a65c_ok dX4_init_38 (fun j hj => by
    have h : j = 0 ∨ j = 1 ∨ j = 2 := by omega
    rcases h with rfl | rfl | rfl <;> rfl) (by omega) (by omega) rfl (fun L4 hL4 => ?_)
  refine g_dup (q := 42) hC dX4_init_41 rfl rfl ?_
  refine g_cv (q := 45) (g_runI hC ki_X4_9 md_Jx4a65c_init_da8c8 (c_list_init _ hC.fl M _ L4 .null 0 (gUp_self _ _ _)) dX4_init_42 (by decide) (by decide) (by omega) (by omega) rfl rfl (Nat.le_of_ble_eq_true rfl)) rfl (fun t4 e9 => ?_) (fun _ _ h9 => False.elim h9)
  rw [gUp_up] at e9
  have k4 : t4 a0 = some (oB 4 [.ref L1, .ref L2, .ref L3, .null, .null, .null, .null, .null, .int 0, .int 0, .int 0]) := by
    rw [e9, gUp_ne _ _ (fun e => by rw [← e, m3.1] at hL4; cases hL4)]
    exact m3.1
  refine g_putF (q := 48) hC hR kf_X4_22 dX4_init_45 k4 (Nat.le_of_ble_eq_true rfl) rfl rfl rfl ?_
  show G X M 2 _ _ _ (gUp t4 a0 (oB 4 [.ref L1, .ref L2, .ref L3, .ref L4, .null, .null, .null, .null, .int 0, .int 0, .int 0])) _ _ _
  obtain ⟨m4, g4⟩ := m3.add (fs' := [.ref L1, .ref L2, .ref L3, .ref L4, .null, .null, .null, .null, .int 0, .int 0, .int 0]) hL4
  rw [← e9] at m4 g4
  have f4 := f3.trans g4
  generalize e8 : gUp t4 a0 (oB 4 [.ref L1, .ref L2, .ref L3, .ref L4, .null, .null, .null, .null, .int 0, .int 0, .int 0]) = s4 at *
  refine g_aload_n (q := 49) (i := 0) hC dX4_init_48 rfl rfl rfl ?_
  refine g_new (q := 52) (ty := tyJx4a65c) (fs := [.int 0, .null, .int 0]) hC kn_X4_7 tyJx4a65c_ok dX4_init_49 (fun j hj => by
    have h : j = 0 ∨ j = 1 ∨ j = 2 := by omega
    rcases h with rfl | rfl | rfl <;> rfl) (by omega) (by omega) rfl (fun L5 hL5 => ?_)
  refine g_dup (q := 53) hC dX4_init_52 rfl rfl ?_
  refine g_cv (q := 56) (g_runI hC ki_X4_9 md_Jx4a65c_init_da8c8 (c_list_init _ hC.fl M _ L5 .null 0 (gUp_self _ _ _)) dX4_init_53 (by decide) (by decide) (by omega) (by omega) rfl rfl (Nat.le_of_ble_eq_true rfl)) rfl (fun t5 e9 => ?_) (fun _ _ h9 => False.elim h9)
  rw [gUp_up] at e9
  have k5 : t5 a0 = some (oB 4 [.ref L1, .ref L2, .ref L3, .ref L4, .null, .null, .null, .null, .int 0, .int 0, .int 0]) := by
    rw [e9, gUp_ne _ _ (fun e => by rw [← e, m4.1] at hL5; cases hL5)]
    exact m4.1
  refine g_putF (q := 59) hC hR kf_X4_25 dX4_init_56 k5 (Nat.le_of_ble_eq_true rfl) rfl rfl rfl ?_
  show G X M 2 _ _ _ (gUp t5 a0 (oB 4 [.ref L1, .ref L2, .ref L3, .ref L4, .ref L5, .null, .null, .null, .int 0, .int 0, .int 0])) _ _ _
  obtain ⟨m5, g5⟩ := m4.add (fs' := [.ref L1, .ref L2, .ref L3, .ref L4, .ref L5, .null, .null, .null, .int 0, .int 0, .int 0]) hL5
  rw [← e9] at m5 g5
  have f5 := f4.trans g5
  generalize e8 : gUp t5 a0 (oB 4 [.ref L1, .ref L2, .ref L3, .ref L4, .ref L5, .null, .null, .null, .int 0, .int 0, .int 0]) = s5 at *
  refine g_aload_n (q := 60) (i := 0) hC dX4_init_59 rfl rfl rfl ?_
  refine g_new (q := 63) (ty := tyJ4) (fs := [.null, .int 0, .int 0, .int 0]) hC kn_X4_28 tyJ4_ok dX4_init_60 (fun j hj => by
    have h : j = 0 ∨ j = 1 ∨ j = 2 ∨ j = 3 := by omega
    rcases h with rfl | rfl | rfl | rfl <;> rfl) (by omega) (by omega) rfl (fun sb hsb => ?_)
  refine g_dup (q := 64) hC dX4_init_63 rfl rfl ?_
  refine g_cv (q := 67) (g_runI hC ki_X4_30 md_J4_init_da8c8 (c_sb_init _ hC.fl M _ sb 0 (gUp_self _ _ _)) dX4_init_64 (by decide) (by decide) (by omega) (by omega) rfl rfl (Nat.le_of_ble_eq_true rfl)) rfl (fun t6 ⟨vb, hvb, e9⟩ => ?_) (fun _ _ h9 => False.elim h9)
  have hne : vb ≠ sb := fun e => by rw [e, gUp_self] at hvb; cases hvb
  rw [gUp_ne _ _ hne] at hvb
  rw [gUp_tri (fun e => hne e.symm)] at e9
  have k6 : t6 a0 = some (oB 4 [.ref L1, .ref L2, .ref L3, .ref L4, .ref L5, .null, .null, .null, .int 0, .int 0, .int 0]) := by
    rw [e9, gUp_ne _ _ (fun e => by rw [← e, m5.1] at hsb; cases hsb), gUp_ne _ _ (fun e => by rw [← e, m5.1] at hvb; cases hvb)]
    exact m5.1
  refine g_putF (q := 70) hC hR kf_X4_31 dX4_init_67 k6 (Nat.le_of_ble_eq_true rfl) rfl rfl rfl ?_
  show G X M 2 _ _ _ (gUp t6 a0 (oB 4 [.ref L1, .ref L2, .ref L3, .ref L4, .ref L5, .null, .ref sb, .null, .int 0, .int 0, .int 0])) _ _ _
  obtain ⟨m6, g6⟩ := m5.sb (fs' := [.ref L1, .ref L2, .ref L3, .ref L4, .ref L5, .null, .ref sb, .null, .int 0, .int 0, .int 0]) hsb hvb hne (oB 7 (sbV vb 0 0)) (aI M 0 16 (fun _ => 0))
  have b6 : gUp t6 a0 (oB 4 [.ref L1, .ref L2, .ref L3, .ref L4, .ref L5, .null, .ref sb, .null, .int 0, .int 0, .int 0]) sb = some (oB 7 (sbV vb 0 0)) ∧ gUp t6 a0 (oB 4 [.ref L1, .ref L2, .ref L3, .ref L4, .ref L5, .null, .ref sb, .null, .int 0, .int 0, .int 0]) vb = some (aI M 0 16 (fun _ => 0)) := by
    rw [e9]
    refine ⟨?_, ?_⟩
    · rw [gUp_ne _ _ (fun e => by rw [e, m5.1] at hsb; cases hsb)]
      exact gUp_self _ _ _
    · rw [gUp_ne _ _ (fun e => by rw [e, m5.1] at hvb; cases hvb), gUp_ne _ _ hne]
      exact gUp_self _ _ _
  rw [← e9] at m6 g6
  have f6 := f5.trans g6
  generalize e8 : gUp t6 a0 (oB 4 [.ref L1, .ref L2, .ref L3, .ref L4, .ref L5, .null, .ref sb, .null, .int 0, .int 0, .int 0]) = s6 at *
  refine g_aload_n (q := 71) (i := 0) hC dX4_init_70 rfl rfl rfl ?_
  refine g_new (q := 74) (ty := tyJx4a65c) (fs := [.int 0, .null, .int 0]) hC kn_X4_7 tyJx4a65c_ok dX4_init_71 (fun j hj => by
    have h : j = 0 ∨ j = 1 ∨ j = 2 := by omega
    rcases h with rfl | rfl | rfl <;> rfl) (by omega) (by omega) rfl (fun L7 hL7 => ?_)
  refine g_dup (q := 75) hC dX4_init_74 rfl rfl ?_
  refine g_cv (q := 78) (g_runI hC ki_X4_9 md_Jx4a65c_init_da8c8 (c_list_init _ hC.fl M _ L7 .null 0 (gUp_self _ _ _)) dX4_init_75 (by decide) (by decide) (by omega) (by omega) rfl rfl (Nat.le_of_ble_eq_true rfl)) rfl (fun t7 e9 => ?_) (fun _ _ h9 => False.elim h9)
  rw [gUp_up] at e9
  have k7 : t7 a0 = some (oB 4 [.ref L1, .ref L2, .ref L3, .ref L4, .ref L5, .null, .ref sb, .null, .int 0, .int 0, .int 0]) := by
    rw [e9, gUp_ne _ _ (fun e => by rw [← e, m6.1] at hL7; cases hL7)]
    exact m6.1
  refine g_putF (q := 81) hC hR kf_X4_35 dX4_init_78 k7 (Nat.le_of_ble_eq_true rfl) rfl rfl rfl ?_
  show G X M 2 _ _ _ (gUp t7 a0 (oB 4 [.ref L1, .ref L2, .ref L3, .ref L4, .ref L5, .null, .ref sb, .ref L7, .int 0, .int 0, .int 0])) _ _ _
  obtain ⟨m7, g7⟩ := m6.add (fs' := [.ref L1, .ref L2, .ref L3, .ref L4, .ref L5, .null, .ref sb, .ref L7, .int 0, .int 0, .int 0]) hL7
  rw [← e9] at m7 g7
  have f7 := f6.trans g7
  generalize e8 : gUp t7 a0 (oB 4 [.ref L1, .ref L2, .ref L3, .ref L4, .ref L5, .null, .ref sb, .ref L7, .int 0, .int 0, .int 0]) = s7 at *
  have b7 : s7 sb = some (oB 7 (sbV vb 0 0)) ∧ s7 vb = some (aI M 0 16 (fun _ => 0)) := by
    rw [← e8, e9]
    have q1 : sb ≠ a0 := fun e => by rw [e, m6.1] at b6; cases b6.1
    have q2 : vb ≠ a0 := fun e => by rw [e, m6.1] at b6; cases b6.2
    refine ⟨?_, ?_⟩
    · rw [gUp_ne _ _ q1, gUp_ne _ _ (fun e => by rw [e, hL7] at b6; cases b6.1)]
      exact b6.1
    · rw [gUp_ne _ _ q2, gUp_ne _ _ (fun e => by rw [e, hL7] at b6; cases b6.2)]
      exact b6.2
  refine g_aload_n (q := 82) (i := 0) hC dX4_init_81 rfl rfl rfl ?_
  refine g_iconst (q := 83) (v := (0)) hC dX4_init_82 rfl rfl ?_
  refine g_putf (q := 86) hC kf_X4_38 dX4_init_83 m7.1 (Nat.le_of_ble_eq_true rfl) rfl rfl rfl ?_
  show G X M 2 _ _ _ (gUp s7 a0 (oB 4 [.ref L1, .ref L2, .ref L3, .ref L4, .ref L5, .null, .ref sb, .ref L7, .int 0, .int 0, .int 0])) _ _ _
  rw [gUp_id m7.1]
  refine g_aload_n (q := 87) (i := 0) hC dX4_init_86 rfl rfl rfl ?_
  refine g_iconst (q := 88) (v := (0)) hC dX4_init_87 rfl rfl ?_
  refine g_putf (q := 91) hC kf_X4_42 dX4_init_88 m7.1 (Nat.le_of_ble_eq_true rfl) rfl rfl rfl ?_
  show G X M 2 _ _ _ (gUp s7 a0 (oB 4 [.ref L1, .ref L2, .ref L3, .ref L4, .ref L5, .null, .ref sb, .ref L7, .int 0, .int 0, .int 0])) _ _ _
  rw [gUp_id m7.1]
  refine g_aload_n (q := 92) (i := 0) hC dX4_init_91 rfl rfl rfl ?_
  refine g_iconst (q := 93) (v := (0)) hC dX4_init_92 rfl rfl ?_
  refine g_putf (q := 96) hC kf_X4_46 dX4_init_93 m7.1 (Nat.le_of_ble_eq_true rfl) rfl rfl rfl ?_
  show G X M 2 _ _ _ (gUp s7 a0 (oB 4 [.ref L1, .ref L2, .ref L3, .ref L4, .ref L5, .null, .ref sb, .ref L7, .int 0, .int 0, .int 0])) _ _ _
  rw [gUp_id m7.1]
  obtain ⟨A, ⟨a1, a2, a3, a4, a5, a6, a7⟩, W, hr, hw⟩ := Raw.bare m7 b7.1 b7.2
  have hled : s7 a0 = some (oB 4 (ledN A)) := by
    unfold ledN
    rw [a1, a2, a3, a4, a5, a6, a7]
    exact m7.1
  have hF7 : gFF σ s7 := f7
  clear e8 m0 m1 m2 m3 m4 m5 m6 f0 f1 f2 f3 f4 f5 f6 f7 g1 g2 g3 g4 g5 g6 g7 k1 k2 k3 k4 k5 k6 k7 b6 b7 a1 a2 a3 a4 a5 a6 a7
  have hc7 : Cst M s7 a0 A 0 0 0 0 0 := ⟨hled, W, hr, hw⟩
  have loop2 : ∀ (d9 i : Nat) (σ3 : gS) (A : gAd), i + d9 = 3 → Cst M σ3 a0 A (6 + i) 0 (6) (i) 0 → gFF σ σ3 → G X M 2 (gQ X M 60 600 (rV (liP M σ a0)) nX) (22 + 2 * i) (190 + 23 * i) σ3 127 [(1, .int (nI i)), (0, .ref a0)] [] := by
    intro d9
    induction d9 with
    | zero =>
      intro i σ3 A h1 hc hF
      obtain rfl : i = 3 := by omega
      refine g_iload_n (q := 128) (i := 1) hC dX4_init_127 rfl rfl rfl ?_
      refine g_iconst (q := 129) (v := nI 3) hC dX4_init_128 rfl rfl ?_
      refine g_icmp_ge (tgt := 153) (q := 132) hC dX4_init_129 (by decide) rfl (fun c_129 => ?_) (fun c_129 => ?_)
      · refine g_aload_n (q := 154) (i := 0) hC dX4_init_153 rfl rfl rfl ?_
        refine g_new (q := 157) (ty := tyX1) (fs := [.int 0, .int 0, .null, .null]) hC kn_X4_56 tyX1_ok dX4_init_154 (fun j hj => by
          have h : j = 0 ∨ j = 1 ∨ j = 2 ∨ j = 3 := by omega
          rcases h with rfl | rfl | rfl | rfl <;> rfl) (by omega) (by omega) rfl (fun y hy => ?_)
        refine g_dup (q := 158) hC dX4_init_157 rfl rfl ?_
        refine g_iconst (q := 159) (v := nI 0) hC dX4_init_158 rfl rfl ?_
        refine g_null (q := 160) hC dX4_init_159 rfl ?_
        refine g_bipush (q := 162) (v := nI 32) hC dX4_init_160 rfl rfl ?_
        refine g_cv (q := 165) (g_runI hC ki_X4_58 md_X1_init (c_P_init _ hC.fl M _ y (nI 0) (nI 32) none (gUp_self _ _ _) (chr_ok 32 (by decide))) dX4_init_162 (by decide) (by decide) (by omega) (by omega) rfl rfl (Nat.le_of_ble_eq_true rfl)) rfl (fun σ4 ⟨z, hz, e4⟩ => ?_) (fun _ _ h9 => False.elim h9)
        have hne1 : z ≠ y := fun e => by rw [e, gUp_self] at hz; cases hz
        rw [gUp_ne _ _ hne1] at hz
        rw [gUp_tri (fun e => hne1 e.symm)] at e4
        obtain ⟨hc4, hF4⟩ := hc.acc hz (by decide) (by decide) (by decide) ⟨rfl, rfl⟩
        have hy4 : gUp σ3 z (oB 0 acc0) y = none := by
          rw [gUp_ne _ _ (fun e => hne1 e.symm)]
          exact hy
        have eAz : aN A 1 (6 + 3) z 1 9 = z := aN_s _ _ _ _
        obtain ⟨hc5, hF5⟩ := Cst.prj hc4 hy4
        rw [eAz] at hc5 hF5
        have eAy : aN (aN A 1 (6 + 3) z) 2 0 y 2 0 = y := aN_s _ _ _ _
        generalize aN (aN A 1 (6 + 3) z) 2 0 y = A5 at *
        have e4 : σ4 = gUp (gUp σ3 z (oB 0 acc0)) y (oB 1 [.int 0, .int 32, .ref z, .null]) := e4
        rw [← e4] at hc5 hF5
        have hF6 := (hF.trans hF4).trans hF5
        rw [← eAy]
        obtain ⟨h6, W6, hr6, hw6⟩ := hc5
        refine g_putF (q := 168) hC hR kf_X4_61 dX4_init_165 h6 (Nat.le_of_ble_eq_true rfl) rfl rfl rfl ?_
        show G X M 2 _ _ _ (gUp σ4 a0 (oB 4 (ledF A5 ldI))) _ _ _
        have hr7 := hr6.othr (fs' := ledF A5 ldI) rfl h6
        have hF7' := hF6.trans (gFF.obj (e := oB 4 (ledF A5 ldI)) h6 (by decide))
        have h7 : gUp σ4 a0 (oB 4 (ledF A5 ldI)) a0 = some (oB 4 (ledF A5 ldI)) := gUp_self _ _ _
        generalize gUp σ4 a0 (oB 4 (ledF A5 ldI)) = σ7 at hr7 h7 hF7'
        refine g_aload_n (q := 169) (i := 0) hC dX4_init_168 rfl rfl rfl ?_
        refine g_getf (q := 172) hC kg_X4_19 dX4_init_169 h7 rfl rfl ?_
        refine g_aload_n (q := 173) (i := 0) hC dX4_init_172 rfl rfl rfl ?_
        refine g_getf (q := 176) hC kg_X4_61 dX4_init_173 h7 rfl rfl ?_
        obtain ⟨q1, q2, q3, q4, q5⟩ := hr7.2.2.1 3 ⟨by decide, by decide, by decide⟩
        refine g_addG (q := 179) (ms9 := 15) hC q1 q2 q3 q4.1 (show 0 ≤ 60 by decide) (show gGrow 0 ≤ 15 by decide) (fun j hj => absurd hj (Nat.not_lt_zero _)) (hr7.gobj (k := 2) (i := 0) (by decide) (by decide) (by decide)) dX4_init_176 (by omega) (by omega) (by omega) (Nat.le_of_ble_eq_true rfl) rfl (fun σ8 d2 n2 hg => ?_)
        have h8 := hg.keep q1 q2 h7 (by decide)
        obtain ⟨⟨W8, hr8, hw8⟩, hF8⟩ := hr7.addL7 (ρ' := qs 0 10 1 6 3 1) (j := 3) ⟨by decide, by decide, by decide⟩ hg (show 0 ≤ 60 by decide) (by decide) rfl (fun k i _ _ => by rcases k5 (by assumption : k ≤ 4) with rfl | rfl | rfl | rfl | rfl <;> rfl) (fun k => rfl) (fun j' hj' => by simp [qs, cN, hj']) rfl rfl (fun i => rfl)
        have hr9 := hr8.setLed h8
        refine g_pop (q := 180) hC dX4_init_179 rfl rfl ?_
        exact g_vret hC hR dX4_init_180 (by omega) (by omega) (⟨rfl, ⟨_, aN_s _ _ _ _, W8, hr9⟩, hF7'.trans hF8⟩)
      · exact absurd (nI_le (by omega) (by omega)) c_129
    | succ d9 ih =>
      intro i σ3 A h1 hc hF
      refine g_iload_n (q := 128) (i := 1) hC dX4_init_127 rfl rfl rfl ?_
      refine g_iconst (q := 129) (v := nI 3) hC dX4_init_128 rfl rfl ?_
      refine g_icmp_ge (tgt := 153) (q := 132) hC dX4_init_129 (by decide) rfl (fun c_129 => ?_) (fun c_129 => ?_)
      · exact absurd c_129 (nI_ge (by omega) (by omega))
      · refine g_aload_n (q := 133) (i := 0) hC dX4_init_132 rfl rfl rfl ?_
        refine g_getf (q := 136) hC kg_X4_16 dX4_init_133 hc.1 rfl rfl ?_
        refine g_new (q := 139) (ty := tyX0) (fs := accV 0 0 0 0 0 0 0 0) hC kn_X4_49 tyX0_ok dX4_init_136 (fun j hj => by
          have h : j = 0 ∨ j = 1 ∨ j = 2 ∨ j = 3 ∨ j = 4 ∨ j = 5 ∨ j = 6 ∨ j = 7 := by omega
          rcases h with rfl | rfl | rfl | rfl | rfl | rfl | rfl | rfl <;> rfl) (by omega) (by omega) rfl (fun z hz => ?_)
        refine g_dup (q := 140) hC dX4_init_139 rfl rfl ?_
        refine g_cv (q := 143) (g_runIN hC (index := 51) (host := "AllotmentLedger") (List.mem_of_getElem? (i := 0) rfl) ki_in md_X0_init (c_X0_init _ hC.fl M _ z (gUp_self _ _ _)) dX4_init_140 (by decide) (by decide) (by omega) (by omega) rfl rfl (Nat.le_of_ble_eq_true rfl)) rfl (fun σ4 e2 => ?_) (fun _ _ h9 => False.elim h9)
        rw [gUp_up] at e2
        obtain ⟨hc4, hF4⟩ := hc.acc hz (by omega) (by omega) (by omega) ⟨rfl, rfl⟩
        rw [show oB 0 acc0 = oB 0 (accV (-1) (-1) (-1) 0 0 0 0 0) from rfl, ← e2] at hc4 hF4
        have eA5 : aN A 1 (6 + i) z 5 2 = A 5 2 := aN_o A (Or.inl (by decide))
        have eAz : aN A 1 (6 + i) z 1 (6 + i) = z := aN_s _ _ _ _
        generalize aN A 1 (6 + i) z = A' at *
        rw [← eA5, ← eAz]
        obtain ⟨h4, W4, hr4, hw4⟩ := hc4
        obtain ⟨q1, q2, q3, q4, q5⟩ := hr4.2.2.1 2 ⟨by decide, by decide, by decide⟩
        refine g_addG (q := 146) (ms9 := 15) hC q1 q2 q3 q4.1 (by show i ≤ 60; omega) ?_ ?_ (hr4.gobj (k := 1) (i := 6 + i) (by decide) (by decide) (show 6 + i < 6 + i + 1 from Nat.lt_succ_self _)) dX4_init_143 (by omega) (by omega) (by omega) (Nat.le_of_ble_eq_true rfl) rfl (fun σ5 d2 n2 hg => ?_)
        · show gGrow (i) ≤ 15
          unfold gGrow
          split <;> omega
        · intro j hj y hy
          rw [q5 j hj] at hy
          cases hy
          have hj : j < i := hj
          exact hr4.gobj (k := 1) (by decide) (by decide) (by show _ < 6 + i + 1; omega)
        · have h5 := hg.keep q1 q2 h4 (by decide)
          obtain ⟨⟨W5, hr5, hw5⟩, hF5⟩ := hr4.addL7 (ρ' := qs 0 (6 + i + 1) 0 (6) (i + 1) 0) (j := 2) ⟨by decide, by decide, by decide⟩ hg (by show i ≤ 60; omega) (by decide) rfl (fun k i _ _ => by rcases k5 (by assumption : k ≤ 4) with rfl | rfl | rfl | rfl | rfl <;> rfl) (fun k => rfl) (fun j' hj' => cN2 hj') rfl rfl (fun i => rfl)
          refine g_pop (q := 147) hC dX4_init_146 rfl rfl ?_
          refine g_iinc (q := 150) (i := 1) (v := (nI (i + 1))) hC dX4_init_147 rfl (nI_1 _) rfl ?_
          refine g_goto (tgt := 127) hC dX4_init_150 (by decide) ?_
          refine g_sub (lv0 := [(1, .int (nI (i + 1))), (0, .ref a0)]) ⟨rfl, rfl, trivial⟩ ?_
          exact g_widen (by omega) (by omega) (ih (i + 1) σ5 A' (by omega) ⟨h5, W5, hr5, hw5.trans hw4⟩ ((hF.trans hF4).trans hF5))
  have loop1 : ∀ (d9 i : Nat) (σ3 : gS) (A : gAd), i + d9 = 6 → Cst M σ3 a0 A (i) 0 (i) (0) 0 → gFF σ σ3 → G X M 2 (gQ X M 60 600 (rV (liP M σ a0)) nX) (10 + 2 * i) (50 + 23 * i) σ3 98 [(1, .int (nI i)), (0, .ref a0)] [] := by
    intro d9
    induction d9 with
    | zero =>
      intro i σ3 A h1 hc hF
      obtain rfl : i = 6 := by omega
      refine g_iload_n (q := 99) (i := 1) hC dX4_init_98 rfl rfl rfl ?_
      refine g_bipush (q := 101) (v := nI 6) hC dX4_init_99 rfl rfl ?_
      refine g_icmp_ge (tgt := 125) (q := 104) hC dX4_init_101 (by decide) rfl (fun c_101 => ?_) (fun c_101 => ?_)
      · refine g_iconst (q := 126) (v := nI 0) hC dX4_init_125 rfl rfl ?_
        refine g_istore_n (q := 127) (i := 1) hC dX4_init_126 rfl (by decide) rfl ?_
        refine g_sub (lv0 := [(1, .int (nI 0)), (0, .ref a0)]) ⟨rfl, rfl, trivial⟩ ?_
        exact g_widen (by omega) (by omega) (loop2 3 0 σ3 A (Nat.zero_add _) hc hF)
      · exact absurd (nI_le (by omega) (by omega)) c_101
    | succ d9 ih =>
      intro i σ3 A h1 hc hF
      refine g_iload_n (q := 99) (i := 1) hC dX4_init_98 rfl rfl rfl ?_
      refine g_bipush (q := 101) (v := nI 6) hC dX4_init_99 rfl rfl ?_
      refine g_icmp_ge (tgt := 125) (q := 104) hC dX4_init_101 (by decide) rfl (fun c_101 => ?_) (fun c_101 => ?_)
      · exact absurd c_101 (nI_ge (by omega) (by omega))
      · refine g_aload_n (q := 105) (i := 0) hC dX4_init_104 rfl rfl rfl ?_
        refine g_getf (q := 108) hC kg_X4_10 dX4_init_105 hc.1 rfl rfl ?_
        refine g_new (q := 111) (ty := tyX0) (fs := accV 0 0 0 0 0 0 0 0) hC kn_X4_49 tyX0_ok dX4_init_108 (fun j hj => by
          have h : j = 0 ∨ j = 1 ∨ j = 2 ∨ j = 3 ∨ j = 4 ∨ j = 5 ∨ j = 6 ∨ j = 7 := by omega
          rcases h with rfl | rfl | rfl | rfl | rfl | rfl | rfl | rfl <;> rfl) (by omega) (by omega) rfl (fun z hz => ?_)
        refine g_dup (q := 112) hC dX4_init_111 rfl rfl ?_
        refine g_cv (q := 115) (g_runIN hC (index := 51) (host := "AllotmentLedger") (List.mem_of_getElem? (i := 0) rfl) ki_in md_X0_init (c_X0_init _ hC.fl M _ z (gUp_self _ _ _)) dX4_init_112 (by decide) (by decide) (by omega) (by omega) rfl rfl (Nat.le_of_ble_eq_true rfl)) rfl (fun σ4 e2 => ?_) (fun _ _ h9 => False.elim h9)
        rw [gUp_up] at e2
        obtain ⟨hc4, hF4⟩ := hc.acc hz (by omega) (by omega) (by omega) ⟨rfl, rfl⟩
        rw [show oB 0 acc0 = oB 0 (accV (-1) (-1) (-1) 0 0 0 0 0) from rfl, ← e2] at hc4 hF4
        have eA5 : aN A 1 (i) z 5 1 = A 5 1 := aN_o A (Or.inl (by decide))
        have eAz : aN A 1 (i) z 1 (i) = z := aN_s _ _ _ _
        generalize aN A 1 (i) z = A' at *
        rw [← eA5, ← eAz]
        obtain ⟨h4, W4, hr4, hw4⟩ := hc4
        obtain ⟨q1, q2, q3, q4, q5⟩ := hr4.2.2.1 1 ⟨by decide, by decide, by decide⟩
        refine g_addG (q := 118) (ms9 := 15) hC q1 q2 q3 q4.1 (by show i ≤ 60; omega) ?_ ?_ (hr4.gobj (k := 1) (i := i) (by decide) (by decide) (show i < i + 1 from Nat.lt_succ_self _)) dX4_init_115 (by omega) (by omega) (by omega) (Nat.le_of_ble_eq_true rfl) rfl (fun σ5 d2 n2 hg => ?_)
        · show gGrow (i) ≤ 15
          unfold gGrow
          split <;> omega
        · intro j hj y hy
          rw [q5 j hj] at hy
          cases hy
          have hj : j < i := hj
          exact hr4.gobj (k := 1) (by decide) (by decide) (by show _ < i + 1; omega)
        · have h5 := hg.keep q1 q2 h4 (by decide)
          obtain ⟨⟨W5, hr5, hw5⟩, hF5⟩ := hr4.addL7 (ρ' := qs 0 (i + 1) 0 (i + 1) (0) 0) (j := 1) ⟨by decide, by decide, by decide⟩ hg (by show i ≤ 60; omega) (by decide) rfl (fun k i _ _ => by rcases k5 (by assumption : k ≤ 4) with rfl | rfl | rfl | rfl | rfl <;> rfl) (fun k => rfl) (fun j' hj' => cN1 hj') rfl rfl (fun i => rfl)
          refine g_pop (q := 119) hC dX4_init_118 rfl rfl ?_
          refine g_iinc (q := 122) (i := 1) (v := (nI (i + 1))) hC dX4_init_119 rfl (nI_1 _) rfl ?_
          refine g_goto (tgt := 98) hC dX4_init_122 (by decide) ?_
          refine g_sub (lv0 := [(1, .int (nI (i + 1))), (0, .ref a0)]) ⟨rfl, rfl, trivial⟩ ?_
          exact g_widen (by omega) (by omega) (ih (i + 1) σ5 A' (by omega) ⟨h5, W5, hr5, hw5.trans hw4⟩ ((hF.trans hF4).trans hF5))
  refine g_iconst (q := 97) (v := nI 0) hC dX4_init_96 rfl rfl ?_
  refine g_istore_n (q := 98) (i := 1) hC dX4_init_97 rfl (by decide) rfl ?_
  refine g_sub (lv0 := [(1, .int (nI 0)), (0, .ref a0)]) ⟨rfl, rfl, trivial⟩ ?_
  exact g_widen (by omega) (by omega) (loop1 6 0 s7 A (Nat.zero_add _) hc7 hF7)
