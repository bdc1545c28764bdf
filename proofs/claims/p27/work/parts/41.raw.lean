/-! ===== the ledger over the map: its numbers (columns), its objects by kind and place, its lists ===== -/
abbrev gAd : Type := Nat → Nat → Nat
/-- what is seen of no call: of each list modCount, array, capacity, elements; the buffer's array; the row of accounts -/
abbrev gWt : Type := (Nat → Int32) × (Nat → Nat) × (Nat → Nat) × (Nat → Nat → Option Nat) × (Nat × Int32 × (Nat → Int32)) × (Nat × (Nat → Nat))
def wMd (W : gWt) : Nat → Int32 := W.1
def wDd (W : gWt) : Nat → Nat := W.2.1
def wN (W : gWt) : Nat → Nat := W.2.2.1
def wF (W : gWt) : Nat → Nat → Option Nat := W.2.2.2.1
def wSv (W : gWt) : Nat := W.2.2.2.2.1.1
def wSm (W : gWt) : Int32 := W.2.2.2.2.1.2.1
def wSf (W : gWt) : Nat → Int32 := W.2.2.2.2.1.2.2
def wRc (W : gWt) : Nat := W.2.2.2.2.2.1
def wRe (W : gWt) : Nat → Nat := W.2.2.2.2.2.2
def par (ρ : gSt) (p : Nat) : Option Nat := if ρ.1 3 p = 0 then none else some (ρ.1 3 p - 1)
def ledF (A : gAd) (ρ : gSt) : List Value := [.ref (A 5 1), .ref (A 5 2), .ref (A 5 3), .ref (A 5 4), .ref (A 5 5), .ref (A 2 0), .ref (A 5 6), .ref (A 5 7), .int (ρ.2.1 0 0), .int (bI (ρ.2.2 0 5)), .int (nI (ρ.1 0 6))]
def accW (ρ : gSt) (a : Nat) : List Value := accV (ρ.2.1 1 a) (ρ.2.1 2 a) (ρ.2.1 3 a) (ρ.2.1 4 a) (ρ.2.1 5 a) (ρ.2.1 6 a) (ρ.2.1 7 a) (ρ.2.1 8 a)
def prjF (A : gAd) (ρ : gSt) (p : Nat) : List Value := [.int (nI p), .int (nI (ρ.1 2 p)), .ref (A 1 (9 + p)), va_rf ((par ρ p).map (A 2))]
def filF (A : gAd) (ρ : gSt) (f : Nat) : List Value := [.int (nI f), .ref (A 1 (ρ.1 4 f)), .ref (A 1 (ρ.1 5 f)), .ref (A 2 (ρ.1 6 f)), .int (ρ.2.1 9 f), .int (bI (ρ.2.2 8 f))]
def rsvF (A : gAd) (ρ : gSt) (r : Nat) : List Value := [.ref (A 3 (ρ.1 7 r)), .int (ρ.2.1 10 r), .int (bI (ρ.2.2 11 r))]
/-- kinds: 0 the ledger, 1 accounts, 2 projects, 3 files, 4 reservations -/
def kCl : Nat → Nat
  | 0 => 4
  | 1 => 0
  | 2 => 1
  | 3 => 3
  | 4 => 2
  | _ => 9
def cel (A : gAd) (ρ : gSt) : Nat → Nat → List Value
  | 0, _ => ledF A ρ
  | 1, a => accW ρ a
  | 2, p => prjF A ρ p
  | 3, f => filF A ρ f
  | 4, r => rsvF A ρ r
  | _, _ => []
theorem kCl_inj {k k' : Nat} (h : k ≤ 4) (h' : k' ≤ 4) (e : kCl k = kCl k') : k = k' := by
  have h1 : k = 0 ∨ k = 1 ∨ k = 2 ∨ k = 3 ∨ k = 4 := by omega
  have h2 : k' = 0 ∨ k' = 1 ∨ k' = 2 ∨ k' = 3 ∨ k' = 4 := by omega
  rcases h1 with rfl | rfl | rfl | rfl | rfl <;> rcases h2 with rfl | rfl | rfl | rfl | rfl <;> first | rfl | exact absurd e (by decide)
theorem kCl_lt {k : Nat} (h : k ≤ 4) : kCl k < 5 := by
  have h1 : k = 0 ∨ k = 1 ∨ k = 2 ∨ k = 3 ∨ k = 4 := by omega
  rcases h1 with rfl | rfl | rfl | rfl | rfl <;> decide
def lix (j : Nat) : Prop := 1 ≤ j ∧ j ≤ 7 ∧ j ≠ 6
def cntL (ρ : gSt) (W : gWt) (j : Nat) : Nat := if j = 7 then wRc W else ρ.1 10 j
def elA (A : gAd) (W : gWt) : Nat → Nat → Nat
  | 1, i => A 1 i
  | 2, i => A 1 (6 + i)
  | 3, i => A 2 i
  | 4, i => A 3 i
  | 5, i => A 4 i
  | _, i => A 1 (wRe W i)
def nOk (n : Nat) : Prop := n ≤ 200 ∧ (n = 0 ∨ 10 ≤ n)
theorem nOk_g {n : Nat} (h : nOk n) (h6 : n ≤ 60) : nOk (gGrow n) := by
  obtain ⟨-, h⟩ := h
  have := gGrow_le h6
  refine ⟨by omega, Or.inr ?_⟩
  unfold gGrow
  split <;> omega
def LR (M : gMT) (σ : gS) (A : gAd) (ρ : gSt) (W : gWt) (j : Nat) : Prop := σ (A 5 j) = some (oB 6 (lV (wMd W j) (wDd W j) (cntL ρ W j))) ∧ gArr M σ (wDd W j) (wN W j) (wF W j) ∧ cntL ρ W j ≤ wN W j ∧ nOk (wN W j) ∧ ∀ i, i < cntL ρ W j → wF W j i = some (elA A W j i)
def Raw (M : gMT) (σ : gS) (A : gAd) (ρ : gSt) (W : gWt) : Prop :=
  (∀ k i, k ≤ 4 → i < ρ.1 11 k → σ (A k i) = some (oB (kCl k) (cel A ρ k i))) ∧
  (∀ k i i', k ≤ 4 → i < ρ.1 11 k → i' < ρ.1 11 k → A k i = A k i' → i = i') ∧
  (∀ j, lix j → LR M σ A ρ W j) ∧
  (∀ j j', lix j → lix j' → A 5 j = A 5 j' → j = j') ∧
  (∀ j j', lix j → lix j' → 0 < wN W j → 0 < wN W j' → wDd W j = wDd W j' → j = j') ∧
  σ (A 5 6) = some (oB 7 (sbV (wSv W) (wSm W) (ρ.1 0 0))) ∧ σ (wSv W) = some (aI M 0 16 (wSf W)) ∧ ∀ i, i < ρ.1 0 0 → wSf W i = nI (ρ.1 1 i)
def RawE (M : gMT) (σ : gS) (A : gAd) (ρ : gSt) : Prop := ∃ W, Raw M σ A ρ W
/-- the k-th project above p -/
def upn (ρ : gSt) (p : Nat) : Nat → Option Nat
  | 0 => some p
  | k + 1 => (upn ρ p k).bind (par ρ)
def RW (ρ : gSt) : Prop := (ρ.1 11 0 = 1 ∧ ρ.1 11 1 = 9 + ρ.1 11 2 ∧ ρ.1 10 1 = 6 ∧ ρ.1 10 2 = 3) ∧ (1 ≤ ρ.1 10 3 ∧ ρ.1 10 3 ≤ ρ.1 11 2 ∧ ρ.1 11 2 ≤ 21) ∧ (ρ.1 10 4 ≤ ρ.1 11 3 ∧ ρ.1 11 3 ≤ 40) ∧ (ρ.1 10 5 ≤ ρ.1 11 4 ∧ ρ.1 11 4 ≤ 30) ∧ (ρ.1 0 0 ≤ 8 ∧ ∀ i, i < ρ.1 0 0 → ρ.1 1 i < 128) ∧ ρ.1 0 6 ≤ ρ.1 10 4 ∧
  (∀ p, p < ρ.1 11 2 → ρ.1 2 p < 128 ∧ ρ.1 3 p ≤ ρ.1 11 2 ∧ upn ρ p 9 = none) ∧ (∀ f, f < ρ.1 11 3 → ρ.1 4 f < 6 ∧ (6 ≤ ρ.1 5 f ∧ ρ.1 5 f < 9) ∧ ρ.1 6 f < ρ.1 11 2) ∧ ∀ r, r < ρ.1 11 4 → ρ.1 7 r < ρ.1 11 3
theorem par_lt {ρ : gSt} (hW : RW ρ) {p q : Nat} (hp : p < ρ.1 11 2) (h : par ρ p = some q) : q < ρ.1 11 2 := by
  have h1 := (hW.2.2.2.2.2.2.1 p hp).2.1
  unfold par at h
  split at h
  · cases h
  · cases h
    omega
theorem upn_lt {ρ : gSt} (hW : RW ρ) {p : Nat} (hp : p < ρ.1 11 2) : ∀ k q, upn ρ p k = some q → q < ρ.1 11 2 := by
  intro k
  induction k with
  | zero =>
    intro q h
    cases h
    exact hp
  | succ k ih =>
    intro q h
    unfold upn at h
    cases hu : upn ρ p k with
    | none => rw [hu] at h; cases h
    | some q' =>
      rw [hu] at h
      exact par_lt hW (ih q' hu) h
/-- foreign cells: those of the other side -/
def gFr : va_E → Prop
  | .inr (ci, _) => ci = 5
  | .inl (_, n, .inl _) => n ≠ 16
  | .inl (_, _, .inr (.inl _)) => True
  | .inl (_, _, .inr (.inr (.inl _))) => False
  | .inl (_, _, .inr (.inr (.inr (.inl _)))) => False
  | .inl (_, _, .inr (.inr (.inr (.inr _)))) => False
def gFF (σ σ2 : gS) : Prop := ∀ b e, σ b = some e → gFr e → σ2 b = some e
theorem gFF.rf {σ : gS} : gFF σ σ := fun _ _ h _ => h
theorem gFF.trans {σ σ2 σ3 : gS} (h : gFF σ σ2) (h2 : gFF σ2 σ3) : gFF σ σ3 := fun b e hb he => h2 b e (h b e hb he) he
theorem gFF.up {σ : gS} {a : Nat} {e : va_E} {e0 : Option va_E} (h : σ a = e0) (h0 : ∀ e', e0 = some e' → ¬ gFr e') : gFF σ (gUp σ a e) := fun b e' hb he => by
  rw [gUp_ne]
  · exact hb
  · intro z
    subst z
    exact h0 e' (h.symm.trans hb) he
theorem gFF.obj {σ : gS} {a ci : Nat} {fs : List Value} {e : va_E} (h : σ a = some (oB ci fs)) (hc : ci ≠ 5) : gFF σ (gUp σ a e) := gFF.up h (fun e' z => by cases z; exact hc)
theorem gFF.new {σ : gS} {a : Nat} {e : va_E} (h : σ a = none) : gFF σ (gUp σ a e) := gFF.up h (fun e' z => by cases z)
section RA
variable {M : gMT} {σ : gS} {A : gAd} {ρ : gSt} {W : gWt}
theorem Raw.led (h : Raw M σ A ρ W) (hW : RW ρ) : σ (A 0 0) = some (oB 4 (ledF A ρ)) := h.1 0 0 (by decide) (by rw [hW.1.1]; decide)
theorem Raw.acc (h : Raw M σ A ρ W) {a : Nat} (ha : a < ρ.1 11 1) : σ (A 1 a) = some (oB 0 (accW ρ a)) := h.1 1 a (by decide) ha
theorem Raw.prj (h : Raw M σ A ρ W) {p : Nat} (hp : p < ρ.1 11 2) : σ (A 2 p) = some (oB 1 (prjF A ρ p)) := h.1 2 p (by decide) hp
theorem Raw.fil (h : Raw M σ A ρ W) {f : Nat} (hf : f < ρ.1 11 3) : σ (A 3 f) = some (oB 3 (filF A ρ f)) := h.1 3 f (by decide) hf
theorem Raw.rsv (h : Raw M σ A ρ W) {r : Nat} (hr : r < ρ.1 11 4) : σ (A 4 r) = some (oB 2 (rsvF A ρ r)) := h.1 4 r (by decide) hr
theorem Raw.inj (h : Raw M σ A ρ W) {k i i' : Nat} (hk : k ≤ 4) (hi : i < ρ.1 11 k) (hi' : i' < ρ.1 11 k) : A k i = A k i' ↔ i = i' := ⟨h.2.1 k i i' hk hi hi', fun e => by rw [e]⟩
theorem Raw.l1 (h : Raw M σ A ρ W) : σ (A 5 1) = some (oB 6 (lV (wMd W 1) (wDd W 1) (ρ.1 10 1))) := (h.2.2.1 1 ⟨by decide, by decide, by decide⟩).1
theorem Raw.l2 (h : Raw M σ A ρ W) : σ (A 5 2) = some (oB 6 (lV (wMd W 2) (wDd W 2) (ρ.1 10 2))) := (h.2.2.1 2 ⟨by decide, by decide, by decide⟩).1
theorem Raw.l3 (h : Raw M σ A ρ W) : σ (A 5 3) = some (oB 6 (lV (wMd W 3) (wDd W 3) (ρ.1 10 3))) := (h.2.2.1 3 ⟨by decide, by decide, by decide⟩).1
theorem Raw.l4 (h : Raw M σ A ρ W) : σ (A 5 4) = some (oB 6 (lV (wMd W 4) (wDd W 4) (ρ.1 10 4))) := (h.2.2.1 4 ⟨by decide, by decide, by decide⟩).1
theorem Raw.l5 (h : Raw M σ A ρ W) : σ (A 5 5) = some (oB 6 (lV (wMd W 5) (wDd W 5) (ρ.1 10 5))) := (h.2.2.1 5 ⟨by decide, by decide, by decide⟩).1
theorem Raw.l7 (h : Raw M σ A ρ W) : σ (A 5 7) = some (oB 6 (lV (wMd W 7) (wDd W 7) (wRc W))) := (h.2.2.1 7 ⟨by decide, by decide, by decide⟩).1
theorem Raw.sb (h : Raw M σ A ρ W) : σ (A 5 6) = some (oB 7 (sbV (wSv W) (wSm W) (ρ.1 0 0))) := h.2.2.2.2.2.1
theorem Raw.sv (h : Raw M σ A ρ W) : σ (wSv W) = some (aI M 0 16 (wSf W)) := h.2.2.2.2.2.2.1
theorem Raw.arr (h : Raw M σ A ρ W) {j i : Nat} (hj : lix j) (hi : i < cntL ρ W j) : σ (wDd W j) = some (aQ M (wN W j) (wF W j)) ∧ i < cntL ρ W j ∧ cntL ρ W j ≤ wN W j ∧ wN W j < 2 ^ 31 ∧ wF W j i = some (elA A W j i) := by
  obtain ⟨h1, h2, h3, h4, h5⟩ := h.2.2.1 j hj
  refine ⟨?_, hi, h3, by have := h4.1; omega, h5 i hi⟩
  rcases h2 with ⟨-, h2⟩ | ⟨h2, -⟩
  · exact h2
  · omega
theorem c_gt (l : Launch) (hfl : l.stackTraces = false) (h : Raw M σ A ρ W) (j i : Nat) (hj : lix j) (hi : i < cntL ρ W j) : Con l M yJx4a65c_get_915e3 (.code yJx4a65c_get_915e3 cJx4a65c_get_915e3 2 (Option.some (FieldType.object "java/lang/Object"))) 3 0 0 [.ref (A 5 j), .int (nI i)] σ (rR fun r σ2 => r = elA A W j i ∧ σ2 = σ) (nX) := by
  obtain ⟨h1, h2, h3, h4, h5⟩ := h.arr hj hi
  exact c_get l hfl M σ (A 5 j) (wMd W j) (wDd W j) (cntL ρ W j) (wN W j) i (elA A W j i) (wF W j) (h.2.2.1 j hj).1 h1 h2 h3 h4 h5
theorem c_gt1 (l : Launch) (hfl : l.stackTraces = false) (h : Raw M σ A ρ W) (i : Nat) (hi : i < ρ.1 10 1) : Con l M yJx4a65c_get_915e3 (.code yJx4a65c_get_915e3 cJx4a65c_get_915e3 2 (Option.some (FieldType.object "java/lang/Object"))) 3 0 0 [.ref (A 5 1), .int (nI i)] σ (rR fun r σ2 => r = A 1 i ∧ σ2 = σ) (nX) := c_gt l hfl h 1 i ⟨by decide, by decide, by decide⟩ hi
theorem c_gt2 (l : Launch) (hfl : l.stackTraces = false) (h : Raw M σ A ρ W) (i : Nat) (hi : i < ρ.1 10 2) : Con l M yJx4a65c_get_915e3 (.code yJx4a65c_get_915e3 cJx4a65c_get_915e3 2 (Option.some (FieldType.object "java/lang/Object"))) 3 0 0 [.ref (A 5 2), .int (nI i)] σ (rR fun r σ2 => r = A 1 (6 + i) ∧ σ2 = σ) (nX) := c_gt l hfl h 2 i ⟨by decide, by decide, by decide⟩ hi
theorem c_gt3 (l : Launch) (hfl : l.stackTraces = false) (h : Raw M σ A ρ W) (i : Nat) (hi : i < ρ.1 10 3) : Con l M yJx4a65c_get_915e3 (.code yJx4a65c_get_915e3 cJx4a65c_get_915e3 2 (Option.some (FieldType.object "java/lang/Object"))) 3 0 0 [.ref (A 5 3), .int (nI i)] σ (rR fun r σ2 => r = A 2 i ∧ σ2 = σ) (nX) := c_gt l hfl h 3 i ⟨by decide, by decide, by decide⟩ hi
theorem c_gt4 (l : Launch) (hfl : l.stackTraces = false) (h : Raw M σ A ρ W) (i : Nat) (hi : i < ρ.1 10 4) : Con l M yJx4a65c_get_915e3 (.code yJx4a65c_get_915e3 cJx4a65c_get_915e3 2 (Option.some (FieldType.object "java/lang/Object"))) 3 0 0 [.ref (A 5 4), .int (nI i)] σ (rR fun r σ2 => r = A 3 i ∧ σ2 = σ) (nX) := c_gt l hfl h 4 i ⟨by decide, by decide, by decide⟩ hi
theorem c_gt5 (l : Launch) (hfl : l.stackTraces = false) (h : Raw M σ A ρ W) (i : Nat) (hi : i < ρ.1 10 5) : Con l M yJx4a65c_get_915e3 (.code yJx4a65c_get_915e3 cJx4a65c_get_915e3 2 (Option.some (FieldType.object "java/lang/Object"))) 3 0 0 [.ref (A 5 5), .int (nI i)] σ (rR fun r σ2 => r = A 4 i ∧ σ2 = σ) (nX) := c_gt l hfl h 5 i ⟨by decide, by decide, by decide⟩ hi
theorem c_gt7 (l : Launch) (hfl : l.stackTraces = false) (h : Raw M σ A ρ W) (i : Nat) (hi : i < wRc W) : Con l M yJx4a65c_get_915e3 (.code yJx4a65c_get_915e3 cJx4a65c_get_915e3 2 (Option.some (FieldType.object "java/lang/Object"))) 3 0 0 [.ref (A 5 7), .int (nI i)] σ (rR fun r σ2 => r = A 1 (wRe W i) ∧ σ2 = σ) (nX) := c_gt l hfl h 7 i ⟨by decide, by decide, by decide⟩ hi
theorem gUp_obj {σ : gS} {a b ci cj : Nat} {l l2 : List Value} {e : va_E} (ha : σ a = some (oB ci l)) (hb : σ b = some (oB cj l2)) (hc : cj ≠ ci) : (gUp σ a e) b = some (oB cj l2) := by
  rw [gUp_ne]
  · exact hb
  · intro z
    subst z
    rw [ha] at hb
    cases hb
    exact hc rfl
theorem gUp_inl {σ : gS} {a b ci : Nat} {l : List Value} {e : va_E} {x : ClassId × vp_A} (ha : σ a = some (oB ci l)) (hb : σ b = some (.inl x)) : (gUp σ a e) b = some (.inl x) := by
  rw [gUp_ne]
  · exact hb
  · intro z
    subst z
    rw [ha] at hb
    cases hb
theorem gArr_ob {dd n a ci : Nat} {f : Nat → Option Nat} {l : List Value} {e : va_E} (ha : σ a = some (oB ci l)) (h : gArr M σ dd n f) : gArr M (gUp σ a e) dd n f := by
  rcases h with ⟨h1, h2⟩ | h2
  · exact Or.inl ⟨h1, gUp_inl ha h2⟩
  · exact Or.inr h2
/-- one object changed -/
theorem Raw.obj (h : Raw M σ A ρ W) {k i : Nat} (hk : k ≤ 4) (hi : i < ρ.1 11 k) {ρ' : gSt} {l : List Value} (hl : l = cel A ρ' k i) (ho : ∀ k' i', k' ≤ 4 → i' < ρ.1 11 k' → (k' ≠ k ∨ i' ≠ i) → cel A ρ' k' i' = cel A ρ k' i') (hc : (∀ j, ρ'.1 10 j = ρ.1 10 j) ∧ (∀ k', ρ'.1 11 k' = ρ.1 11 k') ∧ ρ'.1 0 0 = ρ.1 0 0 ∧ ∀ i, ρ'.1 1 i = ρ.1 1 i) : Raw M (gUp σ (A k i) (oB (kCl k) l)) A ρ' W := by
  subst hl
  obtain ⟨c1, c2, c3, c4⟩ := hc
  obtain ⟨h1, h2, h3, h4, h5, h6, h7, h8⟩ := h
  have hx := h1 k i hk hi
  have hlt := kCl_lt hk
  refine ⟨fun k' i' hk' hi' => ?_, fun k' i' i'' hk' hi' hi'' => ?_, fun j hj => ?_, h4, h5, ?_, ?_, ?_⟩
  · rw [c2] at hi'
    by_cases z : k' = k
    · subst z
      by_cases y : i' = i
      · subst y
        exact gUp_self _ _ _
      · rw [gUp_ne _ _ (fun w => y (h2 k' i' i hk hi' hi w)), ho k' i' hk' hi' (Or.inr y)]
        exact h1 k' i' hk' hi'
    · rw [ho k' i' hk' hi' (Or.inl z)]
      exact gUp_obj hx (h1 k' i' hk' hi') (fun w => z (kCl_inj hk' hk w))
  · rw [c2] at hi' hi''
    exact h2 k' i' i'' hk' hi' hi''
  · obtain ⟨g1, g2, g3, g4, g5⟩ := h3 j hj
    have e : cntL ρ' W j = cntL ρ W j := by
      unfold cntL
      split
      · rfl
      · exact c1 j
    unfold LR
    rw [e]
    exact ⟨gUp_obj hx g1 (by omega), gArr_ob hx g2, g3, g4, g5⟩
  · rw [c3]
    exact gUp_obj hx h6 (by omega)
  · exact gUp_inl hx h7
  · intro i' hi'
    rw [c3] at hi'
    rw [c4]
    exact h8 i' hi'
end RA
