/-! ===== the two sides: files not yet made, the start ===== -/
def Rz (S : gSt) : Prop := ∀ f, S.1 0 3 ≤ f → S.2.1 7 f = 0 ∧ S.2.2 8 f = false
def kz (S S' : gSt) : Prop := S.1 0 3 ≤ S'.1 0 3 ∧ ∀ f, S'.1 0 3 ≤ f → S'.2.1 7 f = S.2.1 7 f ∧ S'.2.2 8 f = S.2.2 8 f
section RZ
variable {n : Nat} {ρ S S' : gSt}
theorem Rz.k (h : Rz S) (hk : kz S S') : Rz S' := fun f hf => by
  rw [(hk.2 f hf).1, (hk.2 f hf).2]
  exact h f (Nat.le_trans hk.1 hf)
theorem kz.rf : kz S S := ⟨Nat.le_refl _, fun _ _ => ⟨rfl, rfl⟩⟩
theorem kz.of (h1 : S'.1 0 3 = S.1 0 3) (h2 : ∀ f, S'.2.1 7 f = S.2.1 7 f) (h3 : ∀ f, S'.2.2 8 f = S.2.2 8 f) : kz S S' := ⟨by rw [h1]; exact Nat.le_refl _, fun f _ => ⟨h2 f, h3 f⟩⟩
theorem kz.trans {S1 : gSt} (h : kz S S1) (h2 : kz S1 S') : kz S S' := ⟨Nat.le_trans h.1 h2.1, fun f hf => ⟨(h2.2 f hf).1.trans (h.2 f (Nat.le_trans h2.1 hf)).1, (h2.2 f hf).2.trans (h.2 f (Nat.le_trans h2.1 hf)).2⟩⟩
theorem kz_lk : kz S (lkS S) := kz.of rfl (fun f => by rw [lkS_o (by decide)]) (fun f => rfl)
theorem kz_gd {w z : Int32} {T : Int32 × gSt} (h : w = 0 → kz S T.2) : kz S (gd w z S T).2.2 := by
  unfold gd
  split
  · exact h (by assumption)
  · exact kz.rf
theorem kz_br {o : Option Nat} {T : Int32 × gSt} (h : kz S T.2) : kz S (br2 S o T).2 := by
  cases o with
  | none => exact h
  | some j => exact kz.rf
theorem mvL_k (p gone : Nat) : ∀ k, (mvL S p gone k).1 0 3 = S.1 0 3 ∧ (∀ f, (mvL S p gone k).2.1 7 f = S.2.1 7 f) ∧ (mvL S p gone k).2.2 = S.2.2 := by
  intro k
  induction k with
  | zero => exact ⟨rfl, fun _ => rfl, rfl⟩
  | succ k ih =>
    unfold mvL
    split
    · refine ⟨?_, fun f => ?_, ih.2.2⟩
      · rw [ldS_1, if_neg (by omega)]
        exact ih.1
      · rw [ldS_o _ (by decide) (by decide)]
        exact ih.2.1 f
    · exact ih
theorem z_type (c : Int32) : kz S (mo_type S c).2.2 := kz_gd (fun _ => kz.of rfl (fun f => up2_ne (c := 1) (i := S.1 0 1) (c' := 7) (i' := f) S.2.1 (vp_nar .char c) (Or.inl (by decide))) (fun _ => rfl))
theorem z_back : kz S (mo_back S).2.2 := kz_gd (fun _ => kz.of rfl (fun _ => rfl) (fun _ => rfl))
theorem z_clearPath : kz S (mo_clearPath S).2.2 := kz.of rfl (fun _ => rfl) (fun _ => rfl)
theorem z_makeProject : kz S (mo_makeProject S).2.2 := kz_gd (fun _ => kz.of (mkS_c (Or.inl (by decide)) (Or.inr (by decide))) (fun f => by rw [mkS_I, if_neg (by decide)]) (fun _ => rfl))
theorem z_moveProject (x : Int32) : kz S (mo_moveProject S x).2.2 := kz_gd (fun _ => by
  unfold mvT
  split
  · exact kz_lk
  · obtain ⟨h1, h2, h3⟩ := mvL_k (S := S) x.toNatClampNeg (S.1 4 x.toNatClampNeg - 1) (S.1 0 2)
    exact (kz.of h1 h2 (fun f => by rw [h3])).trans kz_lk)
theorem z_makeFile (x y : Int32) : kz S (mo_makeFile S x y).2.2 := kz_gd (fun _ => kz_br ⟨by show _ ≤ (mkM S x.toNatClampNeg y.toNatClampNeg).1 0 3; rw [(mkM_s (S := S) x.toNatClampNeg y.toNatClampNeg).2.2]; exact Nat.le_succ _, fun _ _ => ⟨rfl, rfl⟩⟩)
theorem isF_lt (hB : SB S) {x : Int32} (h : isF S x = true) : x.toNatClampNeg < S.1 0 3 := by
  obtain ⟨g, hg, -, -, ec⟩ := isF_nI hB h
  omega
theorem kz_7 {f : Nat} (v : Int32) (hf : f < S.1 0 3) : kz S (sI S 7 f v) := ⟨Nat.le_refl _, fun g hg => ⟨up2_ne (c := 7) (i := f) (c' := 7) (i' := g) S.2.1 v (Or.inr (by have hg : S.1 0 3 ≤ g := hg; omega)), rfl⟩⟩
theorem z_write (hB : SB S) (x b : Int32) : kz S (mo_write S x b).2.2 := kz_gd (fun h => kz_br ((kz_7 _ (isF_lt hB (by
  unfold rf_write at h
  by_cases z : isF S x = false
  · rw [if_pos z] at h
    exact absurd h (by decide)
  · simpa using z))).trans kz_lk))
theorem z_delete (hB : SB S) (x : Int32) : kz S (mo_delete S x).2.2 := kz_gd (fun h => by
  have hF : isF S x = true := by
    unfold rf_delete at h
    by_cases z : isF S x = true
    · exact z
    · rw [if_neg z] at h
      exact absurd h (by decide)
  have hlt := isF_lt hB hF
  refine kz.trans (S1 := delS S x.toNatClampNeg) ⟨Nat.le_refl _, fun g hg => ⟨rfl, ?_⟩⟩ kz_lk
  have hg : S.1 0 3 ≤ g := hg
  show (if 8 = 11 ∧ g < S.1 0 4 then (up2 S.2.2 8 x.toNatClampNeg true 11 g && !decide (S.1 9 g = x.toNatClampNeg)) else up2 S.2.2 8 x.toNatClampNeg true 8 g) = _
  rw [if_neg (fun z => absurd z.1 (by decide)), up2_ne _ _ (Or.inr (by omega))])
theorem z_moveFile (x y : Int32) : kz S (mo_moveFile S x y).2.2 := kz_gd (fun _ => kz.trans (S1 := sN S 6 x.toNatClampNeg y.toNatClampNeg) (kz.of rfl (fun _ => rfl) (fun _ => rfl)) kz_lk)
theorem z_reserve (x b : Int32) : kz S (mo_reserve S x b).2.2 := kz_gd (fun _ => kz_br (kz.trans (S1 := rsvS S x.toNatClampNeg b) (kz.of (rvS_c _ _ (by decide) (Or.inr (by decide))) (fun _ => rvS_I _ _ (Or.inl (by decide))) (fun _ => rvS_B _ _ (Or.inl (by decide)))) kz_lk))
theorem z_settle (hB : SB S) (x b : Int32) : kz S (mo_settle S x b).2.2 := kz_gd (fun h => by
  have hR : isR S x = true := by
    unfold rf_settle at h
    by_cases z : isR S x = false
    · rw [if_pos z] at h
      exact absurd h (by decide)
    · simpa using z
  have hlt : x.toNatClampNeg < S.1 0 4 := by
    unfold isR at hR
    have := (le_pred (by have := hB.2.2.2.1; omega) (Bool.and_eq_true_iff.mp hR).1).2
    omega
  have h9 := hB.2.2.2.2.2.2.2 _ hlt
  exact (kz.trans (S1 := sB S 11 x.toNatClampNeg false) (kz.of rfl (fun _ => rfl) (fun f => up2_ne (c := 11) (i := x.toNatClampNeg) (c' := 8) (i' := f) S.2.2 false (Or.inl (by decide)))) (kz_7 (S := sB S 11 x.toNatClampNeg false) _ h9)).trans kz_lk)
theorem z_setLimits (kd x s d f : Int32) : kz S (mo_setLimits S kd x s d f).2.2 := kz_gd (fun _ => kz.trans (S1 := slM S ((acct S kd x).getD 0) s d f) (kz.of rfl (fun _ => slM_o _ _ _ _ _ (by omega)) (fun _ => rfl)) kz_lk)
theorem z_pass (x : Int32) : kz S (mo_pass S x).2.2 := kz_gd (fun _ => kz.of rfl (fun f => up2_ne (c := 0) (i := 0) (c' := 7) (i' := f) S.2.1 (S.2.1 0 0 + x) (Or.inl (by decide))) (fun _ => rfl))
theorem z_beginRecount : kz S (mo_beginRecount S).2.2 := kz.of rfl (fun _ => rfl) (fun f => up2_ne (c := 0) (i := 5) (c' := 8) (i' := f) S.2.2 true (Or.inl (by decide)))
theorem z_recount (x : Int32) : kz S (mo_recount S x).2.2 := kz_gd (fun _ => kz.of rfl (fun _ => rfl) (fun _ => rfl))
theorem z_letterAt (x y : Int32) : kz S (mo_letterAt S x y).2.2 := kz_gd (fun _ => kz.rf)
theorem z_room (x : Int32) : kz S (mo_room S x).2.2 := kz_gd (fun _ => kz.rf)
theorem z_counted (x y : Int32) : kz S (mo_counted S x y).2.2 := kz_gd (fun _ => kz.rf)
theorem z_acc {o : Option Nat} {g : Nat → Int32} : kz S (match o with
    | none => ((1 : Int32), (0 : Int32), S)
    | some a => (0, g a, S)).2.2 := by cases o <;> exact kz.rf
theorem z_used (x y : Int32) : kz S (mo_used S x y).2.2 := z_acc
theorem z_filesOf (x y : Int32) : kz S (mo_filesOf S x y).2.2 := z_acc
theorem z_grace (x y : Int32) : kz S (mo_grace S x y).2.2 := z_acc
/-- both at the start -/
theorem RW_0 : RW ldI := by
  refine ⟨⟨rfl, rfl, rfl, rfl⟩, ⟨by decide, by decide, by decide⟩, ⟨by decide, by decide⟩, ⟨by decide, by decide⟩, ⟨by decide, fun i hi => absurd hi (Nat.not_lt_zero _)⟩, by decide, fun p hp => ⟨by show (32 : Nat) < 128; decide, Nat.zero_le _, ?_⟩, fun f hf => absurd hf (Nat.not_lt_zero _), fun r hr => absurd hr (Nat.not_lt_zero _)⟩
  exact upn_n ldI p (k := 1) rfl 9 (by decide)
theorem Rel_0 : Rel 0 ldI (inN 30) := by
  have hd : ∀ p, dep ldI p = 0 := fun p => rfl
  refine ⟨⟨RW_0, ⟨⟨rfl, rfl, rfl⟩, rfl⟩, ⟨fun p hp _ => ?_, fun p q t _ _ h => by cases h⟩, ⟨rfl, fun p hp => ⟨rfl, fun k hk => absurd hk (by rw [hd]; exact Nat.not_lt_zero _)⟩⟩, ⟨rfl, fun i hi => absurd hi (Nat.not_lt_zero _)⟩, ⟨rfl, fun f hf => absurd hf (Nat.not_lt_zero _)⟩, ⟨rfl, fun r hr => absurd hr (Nat.not_lt_zero _)⟩⟩, ⟨rfl, by decide, by decide⟩, ⟨rfl, rfl⟩, ⟨fun f hf => absurd hf (Nat.not_lt_zero _), fun r hr => absurd hr (Nat.not_lt_zero _)⟩, fun a _ => ⟨rfl, rfl, fun h => by cases h⟩, fun a ha => ?_, fun a h1 h2 => ?_, fun r hr => absurd hr (Nat.not_lt_zero _), fun c i => ?_⟩
  · have hp : p < 1 := hp
    omega
  · have ha : a < 10 := ha
    have e : ∀ c, 12 ≤ c → c ≤ 15 → (inN 30).2.1 c a = -1 := fun c h1 h2 => if_pos ⟨h1, h2, by omega⟩
    refine ⟨⟨⟨e 12 (by decide) (by decide), e 13 (by decide) (by decide), e 14 (by decide) (by decide)⟩, by show -1 ≤ (-1 : Int32).toInt; decide, Or.inl ⟨e 15 (by decide) (by decide), rfl⟩⟩, ?_⟩
    rw [lkA_v (w := 0) (e 12 (by decide) (by decide)) rfl, if_neg, e 15 (by decide) (by decide)]
    unfold fO
    rw [if_pos rfl]
    decide
  · have e : ∀ c, 12 ≤ c → c ≤ 15 → (inN 30).2.1 c a = -1 := fun c h1 h3 => if_pos ⟨h1, h3, h2⟩
    exact ⟨e 12 (by decide) (by decide), e 13 (by decide) (by decide), e 14 (by decide) (by decide), e 15 (by decide) (by decide)⟩
  · by_cases z : c = 1 ∨ c = 2 ∨ c = 3
    · left
      have e : (inN 30).2.1 c i = 0 := if_neg (by omega)
      rw [e]
      decide
    · right
      omega
theorem Rz_0 : Rz (inN 30) := fun f _ => ⟨by show (if 12 ≤ 7 ∧ 7 ≤ 15 ∧ f < 30 then (-1 : Int32) else 0) = 0; rw [if_neg (by omega)], rfl⟩
end RZ
