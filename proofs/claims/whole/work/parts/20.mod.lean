/-! ===== abstract states: columns of numbers, of ints, of truth values; the model over the map (by wip/whole/gen_mod.py) ===== -/
abbrev gSt : Type := (Nat → Nat → Nat) × (Nat → Nat → Int32) × (Nat → Nat → Bool)
def up2 {α : Type} (f : Nat → Nat → α) (c i : Nat) (v : α) : Nat → Nat → α := fun c' i' => if c' = c ∧ i' = i then v else f c' i'
def sN (S : gSt) (c i v : Nat) : gSt := (up2 S.1 c i v, S.2.1, S.2.2)
def sI (S : gSt) (c i : Nat) (v : Int32) : gSt := (S.1, up2 S.2.1 c i v, S.2.2)
def sB (S : gSt) (c i : Nat) (v : Bool) : gSt := (S.1, S.2.1, up2 S.2.2 c i v)
theorem up2_self {α : Type} (f : Nat → Nat → α) (c i : Nat) (v : α) : up2 f c i v c i = v := if_pos ⟨rfl, rfl⟩
theorem up2_ne {α : Type} (f : Nat → Nat → α) {c i c' i' : Nat} (v : α) (h : c' ≠ c ∨ i' ≠ i) : up2 f c i v c' i' = f c' i' := if_neg (fun z => h.elim (fun g => g z.1) (fun g => g z.2))
theorem up2_col {α : Type} (f : Nat → Nat → α) {c i c' : Nat} (v : α) (h : c' ≠ c) : up2 f c i v c' = f c' := by
  funext i'
  exact up2_ne f v (Or.inl h)
theorem up2_I (f : Nat → Nat → Int32) (c i : Nat) (v : Int32) : up2 f c i v c = upd (f c) i v := by
  funext j
  by_cases h : j = i
  · subst h
    simp [up2, upd]
  · simp [up2, upd, h]
theorem up2_N (f : Nat → Nat → Nat) (c i v : Nat) : (fun j => nI (up2 f c i v c j)) = upd (fun j => nI (f c j)) i (nI v) := by
  funext j
  by_cases h : j = i
  · subst h
    simp [up2, upd]
  · simp [up2, upd, h]
theorem up2_B (f : Nat → Nat → Bool) (c i : Nat) (v : Bool) : (fun j => bI (up2 f c i v c j)) = upd (fun j => bI (f c j)) i (bI v) := by
  funext j
  by_cases h : j = i
  · subst h
    simp [up2, upd]
  · simp [up2, upd, h]
def oI : Option Nat → Int32
  | none => -1
  | some p => nI p
def modF (ad : Nat → Nat) (rf : Int32) (S : gSt) : List Value := [.int rf, .int (S.2.1 0 0), .ref (ad 1), .int (nI (S.1 0 1)), .ref (ad 2), .int (nI (S.1 0 2)), .ref (ad 3), .ref (ad 4), .int (nI (S.1 0 3)), .ref (ad 5), .ref (ad 6), .ref (ad 7), .ref (ad 8), .int (nI (S.1 0 4)), .ref (ad 9), .ref (ad 10), .ref (ad 11), .ref (ad 12), .ref (ad 13), .ref (ad 14), .ref (ad 15), .int (bI (S.2.2 0 5)), .int (nI (S.1 0 6))]
/-- the arrays: which column holds what -/
def mCell (M : gMT) (S : gSt) : Nat → va_E
  | 1 => aI M 1 8 (S.2.1 1)
  | 2 => aI M 1 8 (S.2.1 2)
  | 3 => aI M 1 168 (S.2.1 3)
  | 4 => aI M 2 21 (fun i => nI (S.1 4 i))
  | 5 => aI M 2 40 (fun i => nI (S.1 5 i))
  | 6 => aI M 2 40 (fun i => nI (S.1 6 i))
  | 7 => aI M 2 40 (S.2.1 7)
  | 8 => aI M 3 40 (fun i => bI (S.2.2 8 i))
  | 9 => aI M 2 30 (fun i => nI (S.1 9 i))
  | 10 => aI M 2 30 (S.2.1 10)
  | 11 => aI M 3 30 (fun i => bI (S.2.2 11 i))
  | 12 => aI M 2 30 (S.2.1 12)
  | 13 => aI M 2 30 (S.2.1 13)
  | 14 => aI M 2 30 (S.2.1 14)
  | 15 => aI M 2 30 (S.2.1 15)
  | _ => aI M 2 0 (fun _ => 0)
/-- the model's object at m, its arrays at ad 1 .. ad 15; other cells φ beside it -/
def Mod (M : gMT) (φ σ : gS) (m : Nat) (ad : Nat → Nat) (rf : Int32) (S : gSt) : Prop :=
  σ m = some (oB 5 (modF ad rf S)) ∧ (∀ c, 1 ≤ c → c ≤ 15 → σ (ad c) = some (mCell M S c)) ∧ (∀ c c', 1 ≤ c → c ≤ 15 → 1 ≤ c' → c' ≤ 15 → ad c = ad c' → c = c') ∧ (∀ b e, φ b = some e → σ b = some e) ∧ φ m = none ∧ ∀ c, 1 ≤ c → c ≤ 15 → φ (ad c) = none
section MD
variable {M : gMT} {φ σ : gS} {m : Nat} {ad : Nat → Nat} {rf : Int32} {S : gSt}
theorem Mod.a1 (h : Mod M φ σ m ad rf S) : σ (ad 1) = some (aI M 1 8 (S.2.1 1)) := h.2.1 1 (by decide) (by decide)
theorem Mod.a2 (h : Mod M φ σ m ad rf S) : σ (ad 2) = some (aI M 1 8 (S.2.1 2)) := h.2.1 2 (by decide) (by decide)
theorem Mod.a3 (h : Mod M φ σ m ad rf S) : σ (ad 3) = some (aI M 1 168 (S.2.1 3)) := h.2.1 3 (by decide) (by decide)
theorem Mod.a4 (h : Mod M φ σ m ad rf S) : σ (ad 4) = some (aI M 2 21 (fun i => nI (S.1 4 i))) := h.2.1 4 (by decide) (by decide)
theorem Mod.a5 (h : Mod M φ σ m ad rf S) : σ (ad 5) = some (aI M 2 40 (fun i => nI (S.1 5 i))) := h.2.1 5 (by decide) (by decide)
theorem Mod.a6 (h : Mod M φ σ m ad rf S) : σ (ad 6) = some (aI M 2 40 (fun i => nI (S.1 6 i))) := h.2.1 6 (by decide) (by decide)
theorem Mod.a7 (h : Mod M φ σ m ad rf S) : σ (ad 7) = some (aI M 2 40 (S.2.1 7)) := h.2.1 7 (by decide) (by decide)
theorem Mod.a8 (h : Mod M φ σ m ad rf S) : σ (ad 8) = some (aI M 3 40 (fun i => bI (S.2.2 8 i))) := h.2.1 8 (by decide) (by decide)
theorem Mod.a9 (h : Mod M φ σ m ad rf S) : σ (ad 9) = some (aI M 2 30 (fun i => nI (S.1 9 i))) := h.2.1 9 (by decide) (by decide)
theorem Mod.a10 (h : Mod M φ σ m ad rf S) : σ (ad 10) = some (aI M 2 30 (S.2.1 10)) := h.2.1 10 (by decide) (by decide)
theorem Mod.a11 (h : Mod M φ σ m ad rf S) : σ (ad 11) = some (aI M 3 30 (fun i => bI (S.2.2 11 i))) := h.2.1 11 (by decide) (by decide)
theorem Mod.a12 (h : Mod M φ σ m ad rf S) : σ (ad 12) = some (aI M 2 30 (S.2.1 12)) := h.2.1 12 (by decide) (by decide)
theorem Mod.a13 (h : Mod M φ σ m ad rf S) : σ (ad 13) = some (aI M 2 30 (S.2.1 13)) := h.2.1 13 (by decide) (by decide)
theorem Mod.a14 (h : Mod M φ σ m ad rf S) : σ (ad 14) = some (aI M 2 30 (S.2.1 14)) := h.2.1 14 (by decide) (by decide)
theorem Mod.a15 (h : Mod M φ σ m ad rf S) : σ (ad 15) = some (aI M 2 30 (S.2.1 15)) := h.2.1 15 (by decide) (by decide)
theorem Mod.ne (h : Mod M φ σ m ad rf S) {c : Nat} (h1 : 1 ≤ c) (h2 : c ≤ 15) : ad c ≠ m := by
  intro z
  have e := h.2.1 c h1 h2
  rw [z, h.1] at e
  have : ∀ c, mCell M S c ≠ oB 5 (modF ad rf S) := by
    intro c
    unfold mCell
    split <;> exact fun z => by cases z
  exact this c (Option.some.inj e).symm
theorem Mod.obj (h : Mod M φ σ m ad rf S) {rf2 : Int32} {S2 : gSt} {l : List Value} (hl : l = modF ad rf2 S2) (hc : ∀ c, 1 ≤ c → c ≤ 15 → mCell M S2 c = mCell M S c) : Mod M φ (gUp σ m (oB 5 l)) m ad rf2 S2 := by
  subst hl
  refine ⟨gUp_self _ _ _, fun c h1 h2 => ?_, h.2.2.1, fun b e hb => ?_, h.2.2.2.2⟩
  · rw [gUp_ne _ _ (h.ne h1 h2), hc c h1 h2]
    exact h.2.1 c h1 h2
  · rw [gUp_ne _ _ (fun z => by rw [z, h.2.2.2.2.1] at hb; cases hb)]
    exact h.2.2.2.1 b e hb
theorem Mod.arr (h : Mod M φ σ m ad rf S) {S2 : gSt} {c0 : Nat} {e0 : va_E} (g1 : 1 ≤ c0) (g2 : c0 ≤ 15) (he : e0 = mCell M S2 c0) (hF : modF ad rf S2 = modF ad rf S) (hc : ∀ c, 1 ≤ c → c ≤ 15 → c ≠ c0 → mCell M S2 c = mCell M S c) : Mod M φ (gUp σ (ad c0) e0) m ad rf S2 := by
  subst he
  refine ⟨?_, fun c h1 h2 => ?_, h.2.2.1, fun b e hb => ?_, h.2.2.2.2⟩
  · rw [gUp_ne _ _ (Ne.symm (h.ne g1 g2)), hF]
    exact h.1
  · by_cases z : c = c0
    · subst z
      exact gUp_self _ _ _
    · rw [gUp_ne _ _ (fun w => z (h.2.2.1 c c0 h1 h2 g1 g2 w)), hc c h1 h2 z]
      exact h.2.1 c h1 h2
  · rw [gUp_ne _ _ (fun z => by rw [z, h.2.2.2.2.2 c0 g1 g2] at hb; cases hb)]
    exact h.2.2.2.1 b e hb
theorem mc_N0 (M : gMT) (S : gSt) (j v : Nat) : ∀ c, 1 ≤ c → c ≤ 15 → mCell M (sN S 0 j v) c = mCell M S c := by
  intro c h1 h2
  have e : up2 S.1 0 j v c = S.1 c := up2_col _ _ (by omega)
  unfold mCell sN
  split <;> simp only [up2_col _ _ (by decide : (4 : Nat) ≠ 0), up2_col _ _ (by decide : (5 : Nat) ≠ 0), up2_col _ _ (by decide : (6 : Nat) ≠ 0), up2_col _ _ (by decide : (9 : Nat) ≠ 0)]
theorem mc_I0 (M : gMT) (S : gSt) (j : Nat) (v : Int32) : ∀ c, 1 ≤ c → c ≤ 15 → mCell M (sI S 0 j v) c = mCell M S c := by
  intro c h1 h2
  unfold mCell sI
  split <;> first | rfl | (rw [up2_col _ _ (by decide)]) | omega
theorem mc_B0 (M : gMT) (S : gSt) (j : Nat) (v : Bool) : ∀ c, 1 ≤ c → c ≤ 15 → mCell M (sB S 0 j v) c = mCell M S c := by
  intro c h1 h2
  unfold mCell sB
  split <;> first | rfl | (simp only [up2_col _ _ (by decide : (8 : Nat) ≠ 0), up2_col _ _ (by decide : (11 : Nat) ≠ 0)]) | omega
theorem Mod.s0 (h : Mod M φ σ m ad rf S) (v : Int32) : Mod M φ (gUp σ m (oB 5 ((modF ad rf S).set 0 (.int v)))) m ad v S := h.obj rfl (fun _ _ _ => rfl)
theorem Mod.s1 (h : Mod M φ σ m ad rf S) (v : Int32) : Mod M φ (gUp σ m (oB 5 ((modF ad rf S).set 1 (.int (v))))) m ad rf (sI S 0 0 v) := h.obj (by simp [modF, sI, up2]) (mc_I0 M S 0 v)
theorem Mod.s3 (h : Mod M φ σ m ad rf S) (v : Nat) : Mod M φ (gUp σ m (oB 5 ((modF ad rf S).set 3 (.int (nI v))))) m ad rf (sN S 0 1 v) := h.obj (by simp [modF, sN, up2]) (mc_N0 M S 1 v)
theorem Mod.s5 (h : Mod M φ σ m ad rf S) (v : Nat) : Mod M φ (gUp σ m (oB 5 ((modF ad rf S).set 5 (.int (nI v))))) m ad rf (sN S 0 2 v) := h.obj (by simp [modF, sN, up2]) (mc_N0 M S 2 v)
theorem Mod.s8 (h : Mod M φ σ m ad rf S) (v : Nat) : Mod M φ (gUp σ m (oB 5 ((modF ad rf S).set 8 (.int (nI v))))) m ad rf (sN S 0 3 v) := h.obj (by simp [modF, sN, up2]) (mc_N0 M S 3 v)
theorem Mod.s13 (h : Mod M φ σ m ad rf S) (v : Nat) : Mod M φ (gUp σ m (oB 5 ((modF ad rf S).set 13 (.int (nI v))))) m ad rf (sN S 0 4 v) := h.obj (by simp [modF, sN, up2]) (mc_N0 M S 4 v)
theorem Mod.s21 (h : Mod M φ σ m ad rf S) (v : Bool) : Mod M φ (gUp σ m (oB 5 ((modF ad rf S).set 21 (.int (bI v))))) m ad rf (sB S 0 5 v) := h.obj (by simp [modF, sB, up2]) (mc_B0 M S 5 v)
theorem Mod.s22 (h : Mod M φ σ m ad rf S) (v : Nat) : Mod M φ (gUp σ m (oB 5 ((modF ad rf S).set 22 (.int (nI v))))) m ad rf (sN S 0 6 v) := h.obj (by simp [modF, sN, up2]) (mc_N0 M S 6 v)
theorem Mod.w1 (h : Mod M φ σ m ad rf S) (i : Nat) (v : Int32) : Mod M φ (gUp σ (ad 1) (aI M 1 8 (upd (S.2.1 1) i (v)))) m ad rf (sI S 1 i v) := by
  refine h.arr (by decide) (by decide) ?_ ?_ ?_
  · show _ = aI M 1 8 _
    unfold sI
    first | rw [up2_I] | (simp only []; rw [up2_I])
  · simp [modF, sI, up2]
  · intro c h1 h2 h3
    unfold mCell sI
    split <;> first | rfl | omega | (simp only [up2]; congr 1; done) | (simp [up2])
theorem Mod.w2 (h : Mod M φ σ m ad rf S) (i : Nat) (v : Int32) : Mod M φ (gUp σ (ad 2) (aI M 1 8 (upd (S.2.1 2) i (v)))) m ad rf (sI S 2 i v) := by
  refine h.arr (by decide) (by decide) ?_ ?_ ?_
  · show _ = aI M 1 8 _
    unfold sI
    first | rw [up2_I] | (simp only []; rw [up2_I])
  · simp [modF, sI, up2]
  · intro c h1 h2 h3
    unfold mCell sI
    split <;> first | rfl | omega | (simp only [up2]; congr 1; done) | (simp [up2])
theorem Mod.w3 (h : Mod M φ σ m ad rf S) (i : Nat) (v : Int32) : Mod M φ (gUp σ (ad 3) (aI M 1 168 (upd (S.2.1 3) i (v)))) m ad rf (sI S 3 i v) := by
  refine h.arr (by decide) (by decide) ?_ ?_ ?_
  · show _ = aI M 1 168 _
    unfold sI
    first | rw [up2_I] | (simp only []; rw [up2_I])
  · simp [modF, sI, up2]
  · intro c h1 h2 h3
    unfold mCell sI
    split <;> first | rfl | omega | (simp only [up2]; congr 1; done) | (simp [up2])
theorem Mod.w4 (h : Mod M φ σ m ad rf S) (i : Nat) (v : Nat) : Mod M φ (gUp σ (ad 4) (aI M 2 21 (upd (fun i => nI (S.1 4 i)) i (nI v)))) m ad rf (sN S 4 i v) := by
  refine h.arr (by decide) (by decide) ?_ ?_ ?_
  · show _ = aI M 2 21 _
    unfold sN
    first | rw [up2_N] | (simp only []; rw [up2_N])
  · simp [modF, sN, up2]
  · intro c h1 h2 h3
    unfold mCell sN
    split <;> first | rfl | omega | (simp only [up2]; congr 1; done) | (simp [up2])
theorem Mod.w5 (h : Mod M φ σ m ad rf S) (i : Nat) (v : Nat) : Mod M φ (gUp σ (ad 5) (aI M 2 40 (upd (fun i => nI (S.1 5 i)) i (nI v)))) m ad rf (sN S 5 i v) := by
  refine h.arr (by decide) (by decide) ?_ ?_ ?_
  · show _ = aI M 2 40 _
    unfold sN
    first | rw [up2_N] | (simp only []; rw [up2_N])
  · simp [modF, sN, up2]
  · intro c h1 h2 h3
    unfold mCell sN
    split <;> first | rfl | omega | (simp only [up2]; congr 1; done) | (simp [up2])
theorem Mod.w6 (h : Mod M φ σ m ad rf S) (i : Nat) (v : Nat) : Mod M φ (gUp σ (ad 6) (aI M 2 40 (upd (fun i => nI (S.1 6 i)) i (nI v)))) m ad rf (sN S 6 i v) := by
  refine h.arr (by decide) (by decide) ?_ ?_ ?_
  · show _ = aI M 2 40 _
    unfold sN
    first | rw [up2_N] | (simp only []; rw [up2_N])
  · simp [modF, sN, up2]
  · intro c h1 h2 h3
    unfold mCell sN
    split <;> first | rfl | omega | (simp only [up2]; congr 1; done) | (simp [up2])
theorem Mod.w7 (h : Mod M φ σ m ad rf S) (i : Nat) (v : Int32) : Mod M φ (gUp σ (ad 7) (aI M 2 40 (upd (S.2.1 7) i (v)))) m ad rf (sI S 7 i v) := by
  refine h.arr (by decide) (by decide) ?_ ?_ ?_
  · show _ = aI M 2 40 _
    unfold sI
    first | rw [up2_I] | (simp only []; rw [up2_I])
  · simp [modF, sI, up2]
  · intro c h1 h2 h3
    unfold mCell sI
    split <;> first | rfl | omega | (simp only [up2]; congr 1; done) | (simp [up2])
theorem Mod.w8 (h : Mod M φ σ m ad rf S) (i : Nat) (v : Bool) : Mod M φ (gUp σ (ad 8) (aI M 3 40 (upd (fun i => bI (S.2.2 8 i)) i (bI v)))) m ad rf (sB S 8 i v) := by
  refine h.arr (by decide) (by decide) ?_ ?_ ?_
  · show _ = aI M 3 40 _
    unfold sB
    first | rw [up2_B] | (simp only []; rw [up2_B])
  · simp [modF, sB, up2]
  · intro c h1 h2 h3
    unfold mCell sB
    split <;> first | rfl | omega | (simp only [up2]; congr 1; done) | (simp [up2])
theorem Mod.w9 (h : Mod M φ σ m ad rf S) (i : Nat) (v : Nat) : Mod M φ (gUp σ (ad 9) (aI M 2 30 (upd (fun i => nI (S.1 9 i)) i (nI v)))) m ad rf (sN S 9 i v) := by
  refine h.arr (by decide) (by decide) ?_ ?_ ?_
  · show _ = aI M 2 30 _
    unfold sN
    first | rw [up2_N] | (simp only []; rw [up2_N])
  · simp [modF, sN, up2]
  · intro c h1 h2 h3
    unfold mCell sN
    split <;> first | rfl | omega | (simp only [up2]; congr 1; done) | (simp [up2])
theorem Mod.w10 (h : Mod M φ σ m ad rf S) (i : Nat) (v : Int32) : Mod M φ (gUp σ (ad 10) (aI M 2 30 (upd (S.2.1 10) i (v)))) m ad rf (sI S 10 i v) := by
  refine h.arr (by decide) (by decide) ?_ ?_ ?_
  · show _ = aI M 2 30 _
    unfold sI
    first | rw [up2_I] | (simp only []; rw [up2_I])
  · simp [modF, sI, up2]
  · intro c h1 h2 h3
    unfold mCell sI
    split <;> first | rfl | omega | (simp only [up2]; congr 1; done) | (simp [up2])
theorem Mod.w11 (h : Mod M φ σ m ad rf S) (i : Nat) (v : Bool) : Mod M φ (gUp σ (ad 11) (aI M 3 30 (upd (fun i => bI (S.2.2 11 i)) i (bI v)))) m ad rf (sB S 11 i v) := by
  refine h.arr (by decide) (by decide) ?_ ?_ ?_
  · show _ = aI M 3 30 _
    unfold sB
    first | rw [up2_B] | (simp only []; rw [up2_B])
  · simp [modF, sB, up2]
  · intro c h1 h2 h3
    unfold mCell sB
    split <;> first | rfl | omega | (simp only [up2]; congr 1; done) | (simp [up2])
theorem Mod.w12 (h : Mod M φ σ m ad rf S) (i : Nat) (v : Int32) : Mod M φ (gUp σ (ad 12) (aI M 2 30 (upd (S.2.1 12) i (v)))) m ad rf (sI S 12 i v) := by
  refine h.arr (by decide) (by decide) ?_ ?_ ?_
  · show _ = aI M 2 30 _
    unfold sI
    first | rw [up2_I] | (simp only []; rw [up2_I])
  · simp [modF, sI, up2]
  · intro c h1 h2 h3
    unfold mCell sI
    split <;> first | rfl | omega | (simp only [up2]; congr 1; done) | (simp [up2])
theorem Mod.w13 (h : Mod M φ σ m ad rf S) (i : Nat) (v : Int32) : Mod M φ (gUp σ (ad 13) (aI M 2 30 (upd (S.2.1 13) i (v)))) m ad rf (sI S 13 i v) := by
  refine h.arr (by decide) (by decide) ?_ ?_ ?_
  · show _ = aI M 2 30 _
    unfold sI
    first | rw [up2_I] | (simp only []; rw [up2_I])
  · simp [modF, sI, up2]
  · intro c h1 h2 h3
    unfold mCell sI
    split <;> first | rfl | omega | (simp only [up2]; congr 1; done) | (simp [up2])
theorem Mod.w14 (h : Mod M φ σ m ad rf S) (i : Nat) (v : Int32) : Mod M φ (gUp σ (ad 14) (aI M 2 30 (upd (S.2.1 14) i (v)))) m ad rf (sI S 14 i v) := by
  refine h.arr (by decide) (by decide) ?_ ?_ ?_
  · show _ = aI M 2 30 _
    unfold sI
    first | rw [up2_I] | (simp only []; rw [up2_I])
  · simp [modF, sI, up2]
  · intro c h1 h2 h3
    unfold mCell sI
    split <;> first | rfl | omega | (simp only [up2]; congr 1; done) | (simp [up2])
theorem Mod.w15 (h : Mod M φ σ m ad rf S) (i : Nat) (v : Int32) : Mod M φ (gUp σ (ad 15) (aI M 2 30 (upd (S.2.1 15) i (v)))) m ad rf (sI S 15 i v) := by
  refine h.arr (by decide) (by decide) ?_ ?_ ?_
  · show _ = aI M 2 30 _
    unfold sI
    first | rw [up2_I] | (simp only []; rw [up2_I])
  · simp [modF, sI, up2]
  · intro c h1 h2 h3
    unfold mCell sI
    split <;> first | rfl | omega | (simp only [up2]; congr 1; done) | (simp [up2])
end MD
