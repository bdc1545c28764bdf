/-! ===== the ledger's lists changed ===== -/
def wSet (W : gWt) (j : Nat) (md : Int32) (dd n : Nat) (f : Nat → Option Nat) (rc : Nat) (re : Nat → Nat) : gWt := (fun i => if i = j then md else wMd W i, fun i => if i = j then dd else wDd W i, fun i => if i = j then n else wN W i, fun i => if i = j then f else wF W i, W.2.2.2.2.1, (rc, re))
theorem wSet_md (W : gWt) {j : Nat} {md : Int32} {dd n : Nat} {f : Nat → Option Nat} {rc : Nat} {re : Nat → Nat} : wMd (wSet W j md dd n f rc re) j = md := if_pos rfl
theorem wSet_dd (W : gWt) {j : Nat} {md : Int32} {dd n : Nat} {f : Nat → Option Nat} {rc : Nat} {re : Nat → Nat} : wDd (wSet W j md dd n f rc re) j = dd := if_pos rfl
theorem wSet_n (W : gWt) {j : Nat} {md : Int32} {dd n : Nat} {f : Nat → Option Nat} {rc : Nat} {re : Nat → Nat} : wN (wSet W j md dd n f rc re) j = n := if_pos rfl
theorem wSet_f (W : gWt) {j : Nat} {md : Int32} {dd n : Nat} {f : Nat → Option Nat} {rc : Nat} {re : Nat → Nat} : wF (wSet W j md dd n f rc re) j = f := if_pos rfl
theorem wSet_o (W : gWt) {j i : Nat} {md : Int32} {dd n : Nat} {f : Nat → Option Nat} {rc : Nat} {re : Nat → Nat} (h : i ≠ j) : wMd (wSet W j md dd n f rc re) i = wMd W i ∧ wDd (wSet W j md dd n f rc re) i = wDd W i ∧ wN (wSet W j md dd n f rc re) i = wN W i ∧ wF (wSet W j md dd n f rc re) i = wF W i := ⟨if_neg h, if_neg h, if_neg h, if_neg h⟩
section RL
variable {M : gMT} {σ σ2 : gS} {A : gAd} {ρ ρ' : gSt} {W : gWt}
theorem elA_ne (A : gAd) {W W' : gWt} {j i : Nat} (h : j ≠ 7 ∨ wRe W' = wRe W) (hj : lix j) : elA A W' j i = elA A W j i := by
  obtain ⟨h1, h2, h3⟩ := hj
  have hk : j = 1 ∨ j = 2 ∨ j = 3 ∨ j = 4 ∨ j = 5 ∨ j = 7 := by omega
  rcases hk with rfl | rfl | rfl | rfl | rfl | rfl
  · rfl
  · rfl
  · rfl
  · rfl
  · rfl
  · rcases h with h | h
    · exact absurd rfl h
    · show A 1 (wRe W' i) = A 1 (wRe W i)
      rw [h]
theorem Raw.lst (h : Raw M σ A ρ W) {j : Nat} (hj : lix j) {md : Int32} {dd n c : Nat} {f : Nat → Option Nat} {rc : Nat} {re : Nat → Nat}
    (hc : cntL ρ' (wSet W j md dd n f rc re) j = c) (g1 : σ2 (A 5 j) = some (oB 6 (lV md dd c))) (g2 : gArr M σ2 dd n f) (g3 : c ≤ n) (g3' : nOk n) (g4 : ∀ i, i < c → f i = some (elA A (wSet W j md dd n f rc re) j i))
    (g5 : n = 0 ∨ (dd = wDd W j ∧ n = wN W j) ∨ σ dd = none) (g6 : ∀ b e, σ b = some e → b ≠ A 5 j → ¬ (0 < wN W j ∧ b = wDd W j) → σ2 b = some e) (g7 : j ≠ 7 → rc = wRc W ∧ re = wRe W)
    (o1 : ∀ k i, k ≤ 4 → i < ρ'.1 11 k → cel A ρ' k i = cel A ρ k i) (o2 : ∀ k, ρ'.1 11 k = ρ.1 11 k) (o3 : ∀ j', j' ≠ j → ρ'.1 10 j' = ρ.1 10 j') (o4 : ρ'.1 0 0 = ρ.1 0 0) (o5 : ∀ i, ρ'.1 1 i = ρ.1 1 i) : Raw M σ2 A ρ' (wSet W j md dd n f rc re) ∧ gFF σ σ2 := by
  obtain ⟨h1, h2, h3, h4, h5, h6, h7, h8⟩ := h
  obtain ⟨l1, l2, -, -, -⟩ := h3 j hj
  have hob : ∀ b ci l, σ b = some (oB ci l) → b ≠ A 5 j → σ2 b = some (oB ci l) := by
    intro b ci l hb hne
    refine g6 b _ hb hne (fun z => ?_)
    obtain ⟨z1, z2⟩ := z
    rcases l2 with ⟨-, l2⟩ | ⟨l2, -⟩
    · rw [← z2, hb] at l2
      cases l2
    · omega
  have hne6 : ∀ b ci l, σ b = some (oB ci l) → ci ≠ 6 → b ≠ A 5 j := by
    intro b ci l hb hci z
    rw [z, l1] at hb
    cases hb
    exact hci rfl
  refine ⟨⟨fun k i hk hi => ?_, fun k i i' hk hi hi' => ?_, fun j' hj' => ?_, h4, fun j' j'' hj' hj'' n1 n2 e => ?_, ?_, ?_, ?_⟩, fun b e hb he => ?_⟩
  · rw [o1 k i hk hi]
    rw [o2] at hi
    have hl := kCl_lt hk
    exact hob _ _ _ (h1 k i hk hi) (hne6 _ _ _ (h1 k i hk hi) (by omega))
  · rw [o2] at hi hi'
    exact h2 k i i' hk hi hi'
  · by_cases z : j' = j
    · subst z
      refine ⟨?_, ?_, ?_, ?_, ?_⟩
      · rw [wSet_md, wSet_dd, hc]
        exact g1
      · rw [wSet_dd, wSet_n, wSet_f]
        exact g2
      · rw [wSet_n, hc]
        exact g3
      · rw [wSet_n]
        exact g3'
      · rw [hc, wSet_f]
        exact g4
    · obtain ⟨q1, q2, q3, q4, q5⟩ := h3 j' hj'
      obtain ⟨e1, e2, e3, e4⟩ := wSet_o W (j := j) (i := j') (md := md) (dd := dd) (n := n) (f := f) (rc := rc) (re := re) z
      have ec : cntL ρ' (wSet W j md dd n f rc re) j' = cntL ρ W j' := by
        unfold cntL
        by_cases y : j' = 7
        · rw [if_pos y, if_pos y]
          exact (g7 (fun w => z (y.trans w.symm))).1
        · rw [if_neg y, if_neg y, o3 j' z]
      unfold LR
      rw [e1, e2, e3, e4, ec]
      refine ⟨hob _ _ _ q1 (fun w => z (h4 j' j hj' hj w)), ?_, q3, q4, fun i hi => ?_⟩
      · rcases q2 with ⟨q2, q2'⟩ | q2
        · refine Or.inl ⟨q2, g6 _ _ q2' (fun w => ?_) (fun w => z (h5 j' j hj' hj q2 w.1 w.2))⟩
          rw [w, l1] at q2'
          cases q2'
        · exact Or.inr q2
      · rw [q5 i hi]
        congr 1
        by_cases y : j' = 7
        · exact (elA_ne A (W := W) (W' := wSet W j md dd n f rc re) (Or.inr (g7 (fun w => z (y.trans w.symm))).2) hj').symm
        · exact (elA_ne A (W := W) (W' := wSet W j md dd n f rc re) (Or.inl y) hj').symm
  · have key : ∀ j1, lix j1 → j1 ≠ j → 0 < n → 0 < wN W j1 → dd = wDd W j1 → False := by
      intro j1 hj1 z1 n0 n3 e0
      rcases g5 with g5 | ⟨g5, g5'⟩ | g5
      · omega
      · exact z1 (h5 j1 j hj1 hj n3 (by omega) (e0.symm.trans g5))
      · rcases (h3 j1 hj1).2.1 with ⟨-, q⟩ | ⟨q, -⟩
        · rw [← e0, g5] at q
          cases q
        · omega
    by_cases z : j' = j
    · by_cases y : j'' = j
      · rw [z, y]
      · obtain ⟨-, e2, e3, -⟩ := wSet_o W (j := j) (i := j'') (md := md) (dd := dd) (n := n) (f := f) (rc := rc) (re := re) y
        subst z
        rw [wSet_n] at n1
        rw [wSet_dd, e2] at e
        rw [e3] at n2
        exact (key j'' hj'' y n1 n2 e).elim
    · obtain ⟨-, e2, e3, -⟩ := wSet_o W (j := j) (i := j') (md := md) (dd := dd) (n := n) (f := f) (rc := rc) (re := re) z
      by_cases y : j'' = j
      · subst y
        rw [wSet_n] at n2
        rw [wSet_dd, e2] at e
        rw [e3] at n1
        exact (key j' hj' z n2 n1 e.symm).elim
      · obtain ⟨-, e2', e3', -⟩ := wSet_o W (j := j) (i := j'') (md := md) (dd := dd) (n := n) (f := f) (rc := rc) (re := re) y
        rw [e2, e2'] at e
        rw [e3] at n1
        rw [e3'] at n2
        exact h5 j' j'' hj' hj'' n1 n2 e
  · rw [o4]
    exact hob _ _ _ h6 (hne6 _ _ _ h6 (by decide))
  · refine g6 _ _ h7 (fun z => ?_) (fun z => ?_)
    · have h7 : σ (wSv W) = _ := h7
      rw [show wSv W = A 5 j from z, l1] at h7
      cases h7
    · obtain ⟨z1, z2⟩ := z
      rcases l2 with ⟨-, l2⟩ | ⟨l2, -⟩
      · have h7 : σ (wSv W) = _ := h7
        rw [show wSv W = wDd W j from z2, l2] at h7
        simp [aQ, aI] at h7
      · omega
  · intro i hi
    rw [o4] at hi
    rw [o5]
    exact h8 i hi
  · refine g6 b e hb (fun z => ?_) (fun z => ?_)
    · rw [z, l1] at hb
      cases hb
      exact absurd he (by show ¬ (6 : Nat) = 5; decide)
    · obtain ⟨z1, z2⟩ := z
      rcases l2 with ⟨-, l2⟩ | ⟨l2, -⟩
      · rw [z2, l2] at hb
        cases hb
        exact he
      · omega
/-- an element more in list j -/
theorem Raw.addL (h : Raw M σ A ρ W) {j : Nat} (hj : lix j) {e d2 n2 : Nat} (hg : gAdded M σ σ2 (A 5 j) (wMd W j + 1) (wDd W j) (wN W j) (cntL ρ W j) e (wF W j) d2 n2) (hn : cntL ρ W j ≤ 60) (hj7 : j ≠ 7) (he : e = elA A W j (cntL ρ W j))
    (o1 : ∀ k i, k ≤ 4 → i < ρ'.1 11 k → cel A ρ' k i = cel A ρ k i) (o2 : ∀ k, ρ'.1 11 k = ρ.1 11 k) (o3 : ∀ j', j' ≠ j → ρ'.1 10 j' = ρ.1 10 j') (o3' : ρ'.1 10 j = ρ.1 10 j + 1) (o4 : ρ'.1 0 0 = ρ.1 0 0) (o5 : ∀ i, ρ'.1 1 i = ρ.1 1 i) : RawE M σ2 A ρ' ∧ gFF σ σ2 := by
  obtain ⟨f2, a1, a2, a3, a4, a5, a6, a7⟩ := hg
  obtain ⟨l1, l2, l3, l4, l5⟩ := h.2.2.1 j hj
  have hc : ∀ W', cntL ρ' W' j = cntL ρ W j + 1 := fun W' => by
    unfold cntL
    rw [if_neg hj7, if_neg hj7, o3']
  have hn2 : nOk n2 := by
    rcases a6 with ⟨-, rfl⟩ | ⟨-, z, rfl⟩
    · exact l4
    · exact nOk_g (z ▸ l4) hn
  have key := h.lst (ρ' := ρ') hj (md := wMd W j + 1) (dd := d2) (n := n2) (f := f2) (rc := wRc W) (re := wRe W) (hc _) a1 (Or.inl ⟨by omega, a2⟩) (by omega) hn2 (fun i hi => ?_) ?_ (fun b e' hb h1 h2 => ?_) (fun _ => ⟨rfl, rfl⟩) o1 o2 o3 o4 o5
  · exact ⟨⟨_, key.1⟩, key.2⟩
  · rw [elA_ne A (Or.inl hj7) hj]
    by_cases z : i < cntL ρ W j
    · rw [a3 i z]
      exact l5 i z
    · rw [show i = cntL ρ W j by omega, a4, he]
  · rcases a6 with ⟨z1, z2⟩ | ⟨z1, -, -⟩
    · exact Or.inr (Or.inl ⟨z1, z2⟩)
    · exact Or.inr (Or.inr z1)
  · rw [a7 b h1 (fun z => ?_)]
    · exact hb
    · rcases a6 with ⟨z1, z2⟩ | ⟨z1, -, -⟩
      · exact h2 ⟨by omega, z.trans z1⟩
      · rw [z, z1] at hb
        cases hb
/-- an account more in the row -/
theorem Raw.addR (h : Raw M σ A ρ W) {e d2 n2 a : Nat} (hg : gAdded M σ σ2 (A 5 7) (wMd W 7 + 1) (wDd W 7) (wN W 7) (wRc W) e (wF W 7) d2 n2) (hn : wRc W ≤ 60) (he : e = A 1 a) : (∃ W', Raw M σ2 A ρ W' ∧ wRc W' = wRc W + 1 ∧ (∀ i, i < wRc W → wRe W' i = wRe W i) ∧ wRe W' (wRc W) = a ∧ wN W' 7 = n2) ∧ gFF σ σ2 := by
  obtain ⟨f2, a1, a2, a3, a4, a5, a6, a7⟩ := hg
  obtain ⟨l1, l2, l3, l4, l5⟩ := h.2.2.1 7 ⟨by decide, by decide, by decide⟩
  have l5 : ∀ i, i < wRc W → wF W 7 i = some (elA A W 7 i) := l5
  have hn2 : nOk n2 := by
    rcases a6 with ⟨-, rfl⟩ | ⟨-, z, rfl⟩
    · exact l4
    · exact nOk_g (z ▸ l4) hn
  have key := h.lst (ρ' := ρ) (j := 7) ⟨by decide, by decide, by decide⟩ (md := wMd W 7 + 1) (dd := d2) (n := n2) (f := f2) (rc := wRc W + 1) (re := fun i => if i = wRc W then a else wRe W i) (c := wRc W + 1) rfl a1 (Or.inl ⟨by omega, a2⟩) (by omega) hn2 (fun i hi => ?_) ?_ (fun b e' hb h1 h2 => ?_) (fun z => absurd rfl z) (fun _ _ _ _ => rfl) (fun _ => rfl) (fun _ _ => rfl) rfl (fun _ => rfl)
  · refine ⟨⟨_, key.1, rfl, fun i hi => if_neg (by omega), if_pos rfl, wSet_n W⟩, key.2⟩
  · show f2 i = some (A 1 (if i = wRc W then a else wRe W i))
    by_cases z : i = wRc W
    · rw [if_pos z, z, a4, he]
    · rw [if_neg z, a3 i (by omega)]
      exact l5 i (by omega)
  · rcases a6 with ⟨z1, z2⟩ | ⟨z1, -, -⟩
    · exact Or.inr (Or.inl ⟨z1, z2⟩)
    · exact Or.inr (Or.inr z1)
  · rw [a7 b h1 (fun z => ?_)]
    · exact hb
    · rcases a6 with ⟨z1, z2⟩ | ⟨z1, -, -⟩
      · exact h2 ⟨by omega, z.trans z1⟩
      · rw [z, z1] at hb
        cases hb
theorem Raw.clr (h : Raw M σ A ρ W) (hg : pClear M σ (A 5 7) (wMd W 7) (wDd W 7) (wN W 7) σ2) : (∃ W', Raw M σ2 A ρ W' ∧ wRc W' = 0 ∧ wN W' 7 = wN W 7) ∧ gFF σ σ2 := by
  obtain ⟨a1, ⟨g, a2⟩, a3⟩ := hg
  obtain ⟨l1, l2, l3, l4, l5⟩ := h.2.2.1 7 ⟨by decide, by decide, by decide⟩
  have key := h.lst (ρ' := ρ) (j := 7) ⟨by decide, by decide, by decide⟩ (md := wMd W 7 + 1) (dd := wDd W 7) (n := wN W 7) (f := g) (rc := 0) (re := wRe W) (c := 0) rfl a1 a2 (Nat.zero_le _) l4 (fun i hi => absurd hi (Nat.not_lt_zero _)) (Or.inr (Or.inl ⟨rfl, rfl⟩)) (fun b e' hb h1 h2 => ?_) (fun z => absurd rfl z) (fun _ _ _ _ => rfl) (fun _ => rfl) (fun _ _ => rfl) rfl (fun _ => rfl)
  · exact ⟨⟨_, key.1, rfl, wSet_n W⟩, key.2⟩
  · rw [a3 b h1 ?_]
    · exact hb
    · by_cases z : wN W 7 = 0
      · exact Or.inr z
      · exact Or.inl (fun y => h2 ⟨by omega, y⟩)
end RL
