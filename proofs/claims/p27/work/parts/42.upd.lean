/-! ===== the ledger's objects changed, one field at a time ===== -/
def setA (ρ : gSt) (a : Nat) (v : Nat → Int32) : gSt := (ρ.1, fun c i => if (1 ≤ c ∧ c ≤ 8) ∧ i = a then v c else ρ.2.1 c i, ρ.2.2)
theorem setA_o (ρ : gSt) (a : Nat) (v : Nat → Int32) {c i : Nat} (h : ¬ ((1 ≤ c ∧ c ≤ 8) ∧ i = a)) : (setA ρ a v).2.1 c i = ρ.2.1 c i := if_neg h
theorem setA_s (ρ : gSt) (a : Nat) (v : Nat → Int32) {c : Nat} (h : 1 ≤ c ∧ c ≤ 8) : (setA ρ a v).2.1 c a = v c := if_pos ⟨h, rfl⟩
section RU
variable {M : gMT} {σ : gS} {A : gAd} {ρ : gSt} {W : gWt}
theorem Raw.pAcc (h : Raw M σ A ρ W) {a : Nat} (ha : a < ρ.1 11 1) (v : Nat → Int32) : Raw M (gUp σ (A 1 a) (oB 0 (accV (v 1) (v 2) (v 3) (v 4) (v 5) (v 6) (v 7) (v 8)))) A (setA ρ a v) W := by
  refine h.obj (k := 1) (by decide) ha ?_ (fun k' i' hk' hi' hne => ?_) ⟨fun _ => rfl, fun _ => rfl, rfl, fun _ => rfl⟩
  · show _ = accV _ _ _ _ _ _ _ _
    rw [setA_s ρ a v (by decide), setA_s ρ a v (by decide), setA_s ρ a v (by decide), setA_s ρ a v (by decide), setA_s ρ a v (by decide), setA_s ρ a v (by decide), setA_s ρ a v (by decide), setA_s ρ a v (by decide)]
  · have hk : k' = 0 ∨ k' = 1 ∨ k' = 2 ∨ k' = 3 ∨ k' = 4 := by omega
    rcases hk with rfl | rfl | rfl | rfl | rfl
    · show ledF A _ = ledF A _
      unfold ledF
      rw [setA_o ρ a v (by omega)]
      rfl
    · show accW _ _ = accW _ _
      have hi : i' ≠ a := by omega
      unfold accW
      rw [setA_o ρ a v (fun z => hi z.2), setA_o ρ a v (fun z => hi z.2), setA_o ρ a v (fun z => hi z.2), setA_o ρ a v (fun z => hi z.2), setA_o ρ a v (fun z => hi z.2), setA_o ρ a v (fun z => hi z.2), setA_o ρ a v (fun z => hi z.2), setA_o ρ a v (fun z => hi z.2)]
    · rfl
    · show filF A _ _ = filF A _ _
      unfold filF
      rw [setA_o ρ a v (by omega)]
      rfl
    · show rsvF A _ _ = rsvF A _ _
      unfold rsvF
      rw [setA_o ρ a v (by omega)]
      rfl
theorem Raw.pBlk (h : Raw M σ A ρ W) {f : Nat} (hf : f < ρ.1 11 3) (v : Int32) : Raw M (gUp σ (A 3 f) (oB 3 ((filF A ρ f).set 4 (.int v)))) A (sI ρ 9 f v) W := by
  refine h.obj (k := 3) (by decide) hf ?_ (fun k' i' hk' hi' hne => ?_) ⟨fun _ => rfl, fun _ => rfl, rfl, fun _ => rfl⟩
  · simp [cel, filF, sI, up2]
  · have hk : k' = 0 ∨ k' = 1 ∨ k' = 2 ∨ k' = 3 ∨ k' = 4 := by omega
    rcases hk with rfl | rfl | rfl | rfl | rfl
    · rfl
    · rfl
    · rfl
    · have hi : i' ≠ f := by omega
      simp [cel, filF, sI, up2, hi]
    · rfl
theorem Raw.pDel (h : Raw M σ A ρ W) {f : Nat} (hf : f < ρ.1 11 3) (v : Bool) : Raw M (gUp σ (A 3 f) (oB 3 ((filF A ρ f).set 5 (.int (bI v))))) A (sB ρ 8 f v) W := by
  refine h.obj (k := 3) (by decide) hf ?_ (fun k' i' hk' hi' hne => ?_) ⟨fun _ => rfl, fun _ => rfl, rfl, fun _ => rfl⟩
  · simp [cel, filF, sB, up2]
  · have hk : k' = 0 ∨ k' = 1 ∨ k' = 2 ∨ k' = 3 ∨ k' = 4 := by omega
    rcases hk with rfl | rfl | rfl | rfl | rfl
    · rfl
    · rfl
    · rfl
    · have hi : i' ≠ f := by omega
      simp [cel, filF, sB, up2, hi]
    · rfl
theorem Raw.pHom (h : Raw M σ A ρ W) {f : Nat} (hf : f < ρ.1 11 3) (p : Nat) : Raw M (gUp σ (A 3 f) (oB 3 ((filF A ρ f).set 3 (.ref (A 2 p))))) A (sN ρ 6 f p) W := by
  refine h.obj (k := 3) (by decide) hf ?_ (fun k' i' hk' hi' hne => ?_) ⟨fun _ => rfl, fun _ => rfl, rfl, fun _ => rfl⟩
  · simp [cel, filF, sN, up2]
  · have hk : k' = 0 ∨ k' = 1 ∨ k' = 2 ∨ k' = 3 ∨ k' = 4 := by omega
    rcases hk with rfl | rfl | rfl | rfl | rfl
    · rfl
    · rfl
    · rfl
    · have hi : i' ≠ f := by omega
      simp [cel, filF, sN, up2, hi]
    · rfl
theorem par_sN (ρ : gSt) (p q r : Nat) : par (sN ρ 3 p (q + 1)) r = if r = p then some q else par ρ r := by
  unfold par
  by_cases h : r = p
  · subst h
    simp [sN, up2]
  · simp [sN, up2, h]
theorem Raw.pPar (h : Raw M σ A ρ W) {p : Nat} (hp : p < ρ.1 11 2) (q : Nat) : Raw M (gUp σ (A 2 p) (oB 1 ((prjF A ρ p).set 3 (.ref (A 2 q))))) A (sN ρ 3 p (q + 1)) W := by
  refine h.obj (k := 2) (by decide) hp ?_ (fun k' i' hk' hi' hne => ?_) ⟨fun _ => rfl, fun _ => rfl, rfl, fun _ => rfl⟩
  · show _ = prjF A _ _
    unfold prjF
    rw [par_sN, if_pos rfl]
    rfl
  · have hk : k' = 0 ∨ k' = 1 ∨ k' = 2 ∨ k' = 3 ∨ k' = 4 := by omega
    rcases hk with rfl | rfl | rfl | rfl | rfl
    · rfl
    · rfl
    · have hi : i' ≠ p := by omega
      show prjF A _ _ = prjF A _ _
      unfold prjF
      rw [par_sN, if_neg hi]
      rfl
    · rfl
    · rfl
theorem Raw.pOpn (h : Raw M σ A ρ W) {r : Nat} (hr : r < ρ.1 11 4) (v : Bool) : Raw M (gUp σ (A 4 r) (oB 2 ((rsvF A ρ r).set 2 (.int (bI v))))) A (sB ρ 11 r v) W := by
  refine h.obj (k := 4) (by decide) hr ?_ (fun k' i' hk' hi' hne => ?_) ⟨fun _ => rfl, fun _ => rfl, rfl, fun _ => rfl⟩
  · simp [cel, rsvF, sB, up2]
  · have hk : k' = 0 ∨ k' = 1 ∨ k' = 2 ∨ k' = 3 ∨ k' = 4 := by omega
    rcases hk with rfl | rfl | rfl | rfl | rfl
    · rfl
    · rfl
    · rfl
    · rfl
    · have hi : i' ≠ r := by omega
      simp [cel, rsvF, sB, up2, hi]
theorem Raw.pClk (h : Raw M σ A ρ W) (h0 : ρ.1 11 0 = 1) (v : Int32) : Raw M (gUp σ (A 0 0) (oB 4 ((ledF A ρ).set 8 (.int v)))) A (sI ρ 0 0 v) W := by
  refine h.obj (k := 0) (by decide) (by omega) ?_ (fun k' i' hk' hi' hne => ?_) ⟨fun _ => rfl, fun _ => rfl, rfl, fun _ => rfl⟩
  · simp [cel, ledF, sI, up2]
  · have hk : k' = 0 ∨ k' = 1 ∨ k' = 2 ∨ k' = 3 ∨ k' = 4 := by omega
    rcases hk with rfl | rfl | rfl | rfl | rfl
    · omega
    · rfl
    · rfl
    · rfl
    · rfl
theorem Raw.pBeg (h : Raw M σ A ρ W) (h0 : ρ.1 11 0 = 1) (v : Bool) : Raw M (gUp σ (A 0 0) (oB 4 ((ledF A ρ).set 9 (.int (bI v))))) A (sB ρ 0 5 v) W := by
  refine h.obj (k := 0) (by decide) (by omega) ?_ (fun k' i' hk' hi' hne => ?_) ⟨fun _ => rfl, fun _ => rfl, rfl, fun _ => rfl⟩
  · simp [cel, ledF, sB, up2]
  · have hk : k' = 0 ∨ k' = 1 ∨ k' = 2 ∨ k' = 3 ∨ k' = 4 := by omega
    rcases hk with rfl | rfl | rfl | rfl | rfl
    · omega
    · rfl
    · rfl
    · rfl
    · rfl
theorem Raw.pTak (h : Raw M σ A ρ W) (h0 : ρ.1 11 0 = 1) (v : Nat) : Raw M (gUp σ (A 0 0) (oB 4 ((ledF A ρ).set 10 (.int (nI v))))) A (sN ρ 0 6 v) W := by
  refine h.obj (k := 0) (by decide) (by omega) ?_ (fun k' i' hk' hi' hne => ?_) ⟨fun _ => rfl, fun _ => rfl, rfl, fun _ => rfl⟩
  · simp [cel, ledF, sN, up2]
  · have hk : k' = 0 ∨ k' = 1 ∨ k' = 2 ∨ k' = 3 ∨ k' = 4 := by omega
    rcases hk with rfl | rfl | rfl | rfl | rfl
    · omega
    · rfl
    · rfl
    · rfl
    · rfl
end RU
