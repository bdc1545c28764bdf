/-! ===== the two sides: recount, limits, write, reserve ===== -/
section RL7
variable {n : Nat} {ρ ρ' S S' : gSt}
theorem tkS_v (hW : RW ρ) (hE : RE ρ) {f : Nat} (hf : f < ρ.1 10 4) (c a : Nat) : (tkS ρ f).2.1 c a = ρ.2.1 c a + d6 (uW ρ f a) c := by
  unfold tkS uW
  by_cases z : ρ.2.2 8 f = true
  · rw [if_pos z, if_neg (fun y => by rw [z] at y; cases y.1)]
    unfold d6
    split <;> rw [Int32.add_zero]
  · have z' : ρ.2.2 8 f = false := by simpa using z
    rw [if_neg z, tkN_v hW hE hf _ c a _ (Nat.le_refl _)]
    show _ + (if ctL ρ f a = true then _ else _) = _
    by_cases y : ctL ρ f a = true
    · rw [if_pos y, if_pos ⟨z', y⟩]
    · rw [if_neg y, if_neg (fun w => y w.2)]
      unfold d6
      split <;> rfl
theorem tkS_2 (f : Nat) : (tkS ρ f).2.2 = ρ.2.2 := by
  have e : ∀ b k, (tkN ρ f b k).2.2 = ρ.2.2 := by
    intro b k
    induction k with
    | zero => rfl
    | succ k ih => exact ih
  unfold tkS
  split
  · rfl
  · exact e _ _
theorem rc_step (h : Rel n ρ S) (hb : ρ.2.2 0 5 = true) (hlt : ρ.1 0 6 < ρ.1 10 4) : Rel n (sN (tkS ρ (ρ.1 0 6)) 0 6 (ρ.1 0 6 + 1)) (sN S 0 6 (ρ.1 0 6 + 1)) := by
  obtain ⟨hW, hE, -⟩ := h.1
  have hv := fun c a => tkS_v hW hE hlt c a
  have h0 : ∀ c a, c ≠ 6 → (tkS ρ (ρ.1 0 6)).2.1 c a = ρ.2.1 c a := fun c a hc => by
    rw [hv]
    unfold d6
    rw [if_neg hc, Int32.add_zero]
  refine Rel_tr h ?_ ?_ ?_ ?_ ⟨rfl, ?_⟩ ?_ ?_ ?_ (fun c a hc => h0 c a (by omega)) (fun _ _ _ _ => rfl) (fun a ha _ => ?_) h.2.2.2.2.2.2.2.2
  · refine ⟨fun c i c0 _ => ?_, fun i => h0 9 i (by decide), fun i => h0 10 i (by decide), fun i => ?_, fun i => ?_⟩
    · show up2 (tkS ρ (ρ.1 0 6)).1 0 6 (ρ.1 0 6 + 1) c i = _
      rw [up2_ne _ _ (Or.inl c0), tkS_1]
    · show (tkS ρ (ρ.1 0 6)).2.2 8 i = _
      rw [tkS_2]
    · show (tkS ρ (ρ.1 0 6)).2.2 11 i = _
      rw [tkS_2]
  · exact ⟨fun c i c0 => up2_ne _ _ (Or.inl c0), ⟨rfl, rfl, rfl⟩, fun _ => rfl, fun _ => rfl, fun _ => rfl, fun _ => rfl, fun _ => rfl⟩
  · have hp := h.1.2.2.2.2.1
    unfold Rp
    show S.1 0 1 = up2 (tkS ρ (ρ.1 0 6)).1 0 6 (ρ.1 0 6 + 1) 0 0 ∧ ∀ i, i < up2 (tkS ρ (ρ.1 0 6)).1 0 6 (ρ.1 0 6 + 1) 0 0 → S.2.1 1 i = nI (up2 (tkS ρ (ρ.1 0 6)).1 0 6 (ρ.1 0 6 + 1) 1 i)
    rw [up2_ne _ _ (Or.inr (by decide)), tkS_1]
    refine ⟨hp.1, fun i hi => ?_⟩
    rw [up2_ne _ _ (Or.inl (by decide))]
    exact hp.2 i hi
  · show up2 (tkS ρ (ρ.1 0 6)).1 0 6 (ρ.1 0 6 + 1) 0 0 ≤ 8 ∧ ∀ i, i < up2 (tkS ρ (ρ.1 0 6)).1 0 6 (ρ.1 0 6 + 1) 0 0 → up2 (tkS ρ (ρ.1 0 6)).1 0 6 (ρ.1 0 6 + 1) 1 i < 128
    rw [up2_ne _ _ (Or.inr (by decide)), tkS_1]
    refine ⟨hW.2.2.2.2.1.1, fun i hi => ?_⟩
    rw [up2_ne _ _ (Or.inl (by decide))]
    exact hW.2.2.2.2.1.2 i hi
  · show up2 (tkS ρ (ρ.1 0 6)).1 0 6 (ρ.1 0 6 + 1) 0 6 ≤ _
    rw [up2_self]
    omega
  · show S.2.2 0 5 = (tkS ρ (ρ.1 0 6)).2.2 0 5
    rw [tkS_2]
    exact h.2.2.1.1
  · have hc := h.2.1
    unfold Rc
    show S.2.1 0 0 = (tkS ρ (ρ.1 0 6)).2.1 0 0 ∧ 0 ≤ ((tkS ρ (ρ.1 0 6)).2.1 0 0).toInt ∧ ((tkS ρ (ρ.1 0 6)).2.1 0 0).toInt ≤ 100000
    rw [h0 0 0 (by decide)]
    exact hc
  · show _ ≤ ((tkS ρ (ρ.1 0 6)).2.1 0 0).toInt
    rw [h0 0 0 (by decide)]
    exact Int.le_refl _
  · show (tkS ρ (ρ.1 0 6)).2.1 6 a = usum ρ a (up2 (tkS ρ (ρ.1 0 6)).1 0 6 (ρ.1 0 6 + 1) 0 6)
    rw [up2_self, hv, (h.2.2.2.2.1 a ha).2.2 hb]
    rfl
theorem sN_id (c i : Nat) : sN S c i (S.1 c i) = S := by
  have e : up2 S.1 c i (S.1 c i) = S.1 := by
    funext c' i'
    unfold up2
    split
    · rename_i h
      rw [h.1, h.2]
    · rfl
  unfold sN
  rw [e]
theorem sN_sN (c i v w : Nat) : sN (sN S c i v) c i w = sN S c i w := by
  have e : up2 (up2 S.1 c i v) c i w = up2 S.1 c i w := by
    funext c' i'
    unfold up2
    split <;> rfl
  unfold sN
  rw [e]
theorem rc_all : ∀ d (ρ S : gSt), Rel n ρ S → ρ.2.2 0 5 = true → Rel n (rcN ρ d) (sN S 0 6 (if ρ.1 0 6 + d < ρ.1 10 4 then ρ.1 0 6 + d else ρ.1 10 4)) := by
  intro d
  induction d with
  | zero =>
    intro ρ S h hb
    have w6 := h.1.1.2.2.2.2.2.1
    rw [show (if ρ.1 0 6 + 0 < ρ.1 10 4 then ρ.1 0 6 + 0 else ρ.1 10 4) = S.1 0 6 by rw [h.2.2.1.2]; split <;> omega, sN_id]
    exact h
  | succ d ih =>
    intro ρ S h hb
    have w6 := h.1.1.2.2.2.2.2.1
    unfold rcN
    by_cases z : ρ.1 0 6 < ρ.1 10 4
    · rw [if_pos z]
      have h1 := ih _ _ (rc_step h hb z) (by show (tkS ρ (ρ.1 0 6)).2.2 0 5 = true; rw [tkS_2]; exact hb)
      have e6 : (sN (tkS ρ (ρ.1 0 6)) 0 6 (ρ.1 0 6 + 1)).1 0 6 = ρ.1 0 6 + 1 := up2_self (tkS ρ (ρ.1 0 6)).1 0 6 (ρ.1 0 6 + 1)
      have e10 : (sN (tkS ρ (ρ.1 0 6)) 0 6 (ρ.1 0 6 + 1)).1 10 4 = ρ.1 10 4 := by
        show up2 (tkS ρ (ρ.1 0 6)).1 0 6 (ρ.1 0 6 + 1) 10 4 = _
        rw [up2_ne _ _ (Or.inl (by decide)), tkS_1]
      rw [e6, e10, sN_sN, show ρ.1 0 6 + 1 + d = ρ.1 0 6 + (d + 1) by omega] at h1
      exact h1
    · rw [if_neg z, if_neg (by omega), show ρ.1 10 4 = S.1 0 6 by rw [h.2.2.1.2]; omega, sN_id]
      exact h
theorem m_recount (h : Rel n ρ S) {cd : String → Int32} (ha : cd eA = 1) (hs : cd eS = 2) (x : Int32) : Mt cd n ρ (lo_recount ρ x) (mo_recount S x) := by
  have e0 : (decide (1 ≤ x) && decide (x ≤ 40)) = false ↔ (x < 1 ∨ 40 < x) := by
    rw [Bool.and_eq_false_iff, decide_eq_false_iff_not, decide_eq_false_iff_not, Int32.not_le, Int32.not_le]
  by_cases z : x < 1 ∨ 40 < x
  · exact Mt.no (z := 0) (w := 1) (S := S) (E := eA) (by rw [lo_recount, if_pos z]) eA_n (by rw [mo_recount, rf_recount, if_pos (e0.mpr z)]; rfl) ha.symm h
  · have z' := fun w => z (e0.mp w)
    by_cases y : ρ.2.2 0 5 = false
    · exact Mt.no (z := 0) (w := 2) (S := S) (E := eS) (by rw [lo_recount, if_neg z, if_pos y]) eS_n (by rw [mo_recount, rf_recount, if_neg z', h.2.2.1.1, if_pos y]; rfl) hs.symm h
    · have h1 := rc_all x.toNatClampNeg ρ S h.mono (by simpa using y)
      have ht := h1.2.2.1.2
      have hf := h1.1.2.2.2.2.2.1.1
      have eR : rcT S x = if ρ.1 0 6 + x.toNatClampNeg < ρ.1 10 4 then ρ.1 0 6 + x.toNatClampNeg else ρ.1 10 4 := by rw [rcT, h.2.2.1.2, h.1.2.2.2.2.2.1.1]
      rw [← eR] at h1 ht hf
      refine Mt.ok cd (v := nI ((rcN ρ x.toNatClampNeg).1 10 4 - (rcN ρ x.toNatClampNeg).1 0 6)) (by rw [lo_recount, if_neg z, if_neg y]) ?_ h1
      rw [mo_recount, rf_recount, if_neg z', h.2.2.1.1, if_neg y, gd0 rfl, ← ht, ← hf]
      show (0, nI (S.1 0 3 - rcT S x), _) = (0, nI (S.1 0 3 - up2 S.1 0 6 (rcT S x) 0 6), _)
      rw [up2_self]
/-- a look on both sides -/
theorem kL_nt : kL ρ (ntS ρ) := ⟨fun c i _ _ => by rw [ntS_1], fun i => ntS_o (by decide) (by decide), fun i => ntS_o (by decide) (by decide), fun i => by rw [ntS_2], fun i => by rw [ntS_2]⟩
theorem kM_lk : kM S (lkS S) := ⟨fun _ _ _ => rfl, ⟨rfl, rfl, rfl⟩, fun i => by rw [lkS_o (by decide)], fun i => by rw [lkS_o (by decide)], fun i => by rw [lkS_o (by decide)], fun _ => rfl, fun _ => rfl⟩
theorem nC_lk (h : nC S) : nC (lkS S) := by
  intro c i
  by_cases z : c = 15
  · exact Or.inr (by omega)
  · rw [lkS_o z]
    exact h c i
theorem Rel_look (hs : Rs ρ S) (hc : Rc ρ S) (hb : S.2.2 0 5 = ρ.2.2 0 5 ∧ S.1 0 6 = ρ.1 0 6) (hB : Bd n ρ) (hA : Ac ρ) (hl : ∀ a, a < 9 + ρ.1 10 3 → Ra ρ S a) (hx : Rx ρ S) (ho : Ro ρ) (hn : nC S) : Rel n (ntS ρ) (lkS S) := by
  have hW := hs.1
  have hp : Rp (ntS ρ) (lkS S) := by
    have hp := hs.2.2.2.2.1
    unfold Rp
    rw [ntS_1, lkS_1, lkS_o (by decide)]
    exact hp
  have h10 : ∀ i, (ntS ρ).1 10 i = ρ.1 10 i := fun i => by rw [ntS_1]
  have hs' := Rs_tr hs kL_nt kM_lk (by rw [ntS_1]; exact hW.2.2.2.2.2.1) (by rw [ntS_1]; exact hW.2.2.2.2.1) hp
  refine ⟨hs', ?_, ⟨by rw [ntS_2]; exact hb.1, by rw [ntS_1]; exact hb.2⟩, ⟨fun f hf => ?_, fun r hr => ?_⟩, fun a ha => ?_, fun a ha => ?_, fun a ha ha2 => ?_, fun r hr h1 => ?_, nC_lk hn⟩
  · unfold Rc
    rw [lkS_o (by decide), ntS_o (by decide) (by decide)]
    exact hc
  · rw [h10] at hf
    rw [ntS_o (by decide) (by decide)]
    exact hB.1 f hf
  · rw [h10] at hr
    rw [ntS_o (by decide) (by decide)]
    exact hB.2 r hr
  · rw [h10] at ha
    obtain ⟨a1, a2, a3⟩ := hA a ha
    rw [ntS_o (by decide) (by decide), ntS_o (by decide) (by decide), ntS_o (by decide) (by decide), h10, (usum_tr kL_nt a _).1, (usum_tr kL_nt a _).2, (usum_tr kL_nt a _).1, ntS_2, ntS_1]
    exact ⟨a1, a2, a3⟩
  · rw [h10] at ha
    have hU : ρ.2.1 4 a = sumA S a (S.1 0 3) := by
      rw [(hA a ha).1, hs.2.2.2.2.2.1.1, sum_u hs ha _ (Nat.le_refl _)]
    exact Ra_look (hl a ha) hc hs.2.2.2.1.1 ha hU
  · rw [h10] at ha
    obtain ⟨x1, x2, x3, x4⟩ := hx a ha ha2
    rw [lkS_o (by decide), lkS_o (by decide), lkS_o (by decide), lkS_15o (by rw [hs.2.2.2.1.1]; omega)]
    exact ⟨x1, x2, x3, x4⟩
  · rw [h10] at hr
    rw [ntS_2] at h1 ⊢
    rw [ntS_1]
    exact ho r hr h1
theorem lm_eq (s h f : Int32) : limO s h f = lmO s h f := by
  have e : ∀ x hi : Int32, (decide (-1 ≤ x) && decide (x ≤ hi)) = true ↔ (x = -1 ∧ -1 ≤ hi) ∨ (0 ≤ x ∧ x ≤ hi) := fun x hi => by
    rw [Bool.and_eq_true, decide_eq_true_eq, decide_eq_true_eq, Int32.le_iff_toInt_le, Int32.le_iff_toInt_le, Int32.le_iff_toInt_le, Int32.le_iff_toInt_le, ← Int32.toInt_inj]
    have e1 : (-1 : Int32).toInt = -1 := by decide
    have e0 : (0 : Int32).toInt = 0 := by decide
    omega
  have e2 : ∀ x hi : Int32, -1 ≤ hi → (decide (-1 ≤ x) && decide (x ≤ hi)) = isLm x hi := fun x hi hh => by
    rw [Bool.eq_iff_iff, e]
    unfold isLm
    rw [Bool.or_eq_true, Bool.and_eq_true, decide_eq_true_eq, decide_eq_true_eq, decide_eq_true_eq]
    constructor
    · rintro (⟨h1, -⟩ | h1)
      · exact Or.inl h1
      · exact Or.inr h1
    · rintro (h1 | h1)
      · exact Or.inl ⟨h1, hh⟩
      · exact Or.inr h1
  unfold limO lmO
  rw [e2 s _ (by decide), e2 h _ (by decide), e2 f _ (by decide)]
theorem isLm_ge {x hi : Int32} (h : isLm x hi = true) : -1 ≤ x.toInt := by
  unfold isLm at h
  rw [Bool.or_eq_true, Bool.and_eq_true, decide_eq_true_eq, decide_eq_true_eq] at h
  rcases h with h | ⟨h, -⟩
  · rw [h]
    decide
  · rw [Int32.le_iff_toInt_le] at h
    have e0 : (0 : Int32).toInt = 0 := by decide
    omega
def slM (S : gSt) (a : Nat) (s h f : Int32) : gSt := sI (sI (sI S 12 a s) 13 a h) 14 a f
theorem slM_o (S : gSt) (a : Nat) (s h f : Int32) {c i : Nat} (hc : ¬ (12 ≤ c ∧ c ≤ 14) ∨ i ≠ a) : (slM S a s h f).2.1 c i = S.2.1 c i := by
  show up2 (up2 (up2 S.2.1 12 a s) 13 a h) 14 a f c i = _
  rw [up2_ne _ _ (by omega), up2_ne _ _ (by omega), up2_ne _ _ (by omega)]
theorem slM_s (S : gSt) (a : Nat) (s h f : Int32) : (slM S a s h f).2.1 12 a = s ∧ (slM S a s h f).2.1 13 a = h ∧ (slM S a s h f).2.1 14 a = f := by
  refine ⟨?_, ?_, ?_⟩
  · show up2 (up2 (up2 S.2.1 12 a s) 13 a h) 14 a f 12 a = _
    rw [up2_ne _ _ (by omega), up2_ne _ _ (by omega), up2_self]
  · show up2 (up2 (up2 S.2.1 12 a s) 13 a h) 14 a f 13 a = _
    rw [up2_ne _ _ (by omega), up2_self]
  · exact up2_self _ _ _ _
end RL7
