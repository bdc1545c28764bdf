/-! ===== the tree of projects ===== -/
section TR
variable {ρ : gSt}
theorem dpu_top (ρ : gSt) (p : Nat) : ∀ d k, upn ρ p (k + d) = none → 1 ≤ d → upn ρ p (dpu ρ p d k + 1) = none := by
  intro d
  induction d with
  | zero => intro k _ h; omega
  | succ d ih =>
    intro k h hd
    unfold dpu
    cases hu : upn ρ p (k + 1) with
    | none => exact hu
    | some x =>
      by_cases z : d = 0
      · subst z
        rw [h] at hu
        cases hu
      · exact ih (k + 1) (by rw [show k + 1 + d = k + (d + 1) by omega]; exact h) (by omega)
theorem dep_top {p : Nat} (h : upn ρ p 9 = none) : upn ρ p (dep ρ p + 1) = none := dpu_top ρ p 9 0 (by rw [Nat.zero_add]; exact h) (by decide)
theorem upn_some_le {p k j x : Nat} (h : upn ρ p k = some x) (hj : j ≤ k) : ∃ y, upn ρ p j = some y := by
  cases hu : upn ρ p j with
  | none => rw [upn_n ρ p hu k hj] at h; cases h
  | some y => exact ⟨y, rfl⟩
theorem dep_eq {p k x : Nat} (h9 : upn ρ p 9 = none) (h : upn ρ p k = some x) (h1 : upn ρ p (k + 1) = none) : dep ρ p = k := by
  obtain ⟨y, hy⟩ := dep_some ρ p (dep ρ p) (Nat.le_refl _)
  have ht := dep_top h9
  rcases Nat.lt_trichotomy (dep ρ p) k with z | z | z
  · rw [upn_n ρ p ht k z] at h
    cases h
  · exact z
  · rw [upn_n ρ p h1 _ z] at hy
    cases hy
theorem dep_ge {p k x : Nat} (h9 : upn ρ p 9 = none) (h : upn ρ p k = some x) : k ≤ dep ρ p := by
  by_cases z : k ≤ dep ρ p
  · exact z
  · rw [upn_n ρ p (dep_top h9) k (by omega)] at h
    cases h
theorem dep_8 {p : Nat} (h9 : upn ρ p 9 = none) : dep ρ p ≤ 8 := by
  obtain ⟨y, hy⟩ := dep_some ρ p (dep ρ p) (Nat.le_refl _)
  by_cases z : dep ρ p ≤ 8
  · exact z
  · rw [upn_n ρ p h9 _ (by omega)] at hy
    cases hy
theorem upn_add (ρ : gSt) {p k x : Nat} (h : upn ρ p k = some x) : ∀ j, upn ρ p (k + j) = upn ρ x j := by
  intro j
  induction j with
  | zero => exact h
  | succ j ih =>
    show (upn ρ p (k + j)).bind (par ρ) = (upn ρ x j).bind (par ρ)
    rw [ih]
theorem dep_up {p k x : Nat} (h9 : upn ρ p 9 = none) (h : upn ρ p k = some x) : upn ρ x 9 = none ∧ dep ρ p = k + dep ρ x := by
  have hx9 : upn ρ x 9 = none := by
    rw [← upn_add ρ h]
    exact upn_n ρ p h9 _ (by omega)
  obtain ⟨y, hy⟩ := dep_some ρ x (dep ρ x) (Nat.le_refl _)
  refine ⟨hx9, dep_eq h9 (x := y) ?_ ?_⟩
  · rw [upn_add ρ h]
    exact hy
  · rw [Nat.add_assoc, upn_add ρ h]
    exact dep_top hx9
theorem wiu_iff (ρ : gSt) (p q : Nat) : ∀ d k, wiu ρ p q d k = true ↔ ∃ j, k ≤ j ∧ j < k + d ∧ upn ρ p j = some q := by
  intro d
  induction d with
  | zero =>
    intro k
    refine ⟨fun h => (by cases h), fun ⟨j, h1, h2, _⟩ => ?_⟩
    omega
  | succ d ih =>
    intro k
    unfold wiu
    cases hu : upn ρ p k with
    | none =>
      refine ⟨fun h => (by cases h), fun ⟨j, h1, h2, h3⟩ => ?_⟩
      rw [upn_n ρ p hu j h1] at h3
      cases h3
    | some x =>
      by_cases z : x = q
      · subst z
        refine ⟨fun _ => ⟨k, Nat.le_refl _, by omega, hu⟩, fun _ => if_pos rfl⟩
      · show (if x = q then true else wiu ρ p q d (k + 1)) = true ↔ _
        rw [if_neg z, ih]
        refine ⟨fun ⟨j, h1, h2, h3⟩ => ⟨j, by omega, by omega, h3⟩, fun ⟨j, h1, h2, h3⟩ => ⟨j, ?_, by omega, h3⟩⟩
        by_cases y : j = k
        · subst y
          rw [hu] at h3
          exact absurd (Option.some.inj h3) z
        · omega
theorem wi_iff {p q : Nat} (h9 : upn ρ p 9 = none) : wi ρ p q = true ↔ ∃ j, upn ρ p j = some q := by
  unfold wi
  rw [wiu_iff]
  refine ⟨fun ⟨j, _, _, h⟩ => ⟨j, h⟩, fun ⟨j, h⟩ => ⟨j, Nat.zero_le _, ?_, h⟩⟩
  have h1 := dep_ge h9 h
  have h2 := dep_8 h9
  omega
theorem rwu_dpu (ρ : gSt) (p : Nat) : ∀ d k, (∃ x, upn ρ p k = some x) → rwu ρ p (d + 1) k = dpu ρ p d k + 1 := by
  intro d
  induction d with
  | zero =>
    intro k ⟨x, h⟩
    unfold rwu
    rw [h]
    rfl
  | succ d ih =>
    intro k ⟨x, h⟩
    rw [rwu, h]
    show rwu ρ p (d + 1) (k + 1) = _
    unfold dpu
    cases hu : upn ρ p (k + 1) with
    | none =>
      unfold rwu
      rw [hu]
    | some y => exact ih (k + 1) ⟨y, hu⟩
theorem hgt_dep {p : Nat} (h9 : upn ρ p 9 = none) : hgt ρ p = dep ρ p + 1 := by
  unfold hgt
  rw [rwu_dpu ρ p 8 0 ⟨p, rfl⟩]
  congr 1
  have key : ∀ d k, upn ρ p (k + (d + 1)) = none → dpu ρ p d k = dpu ρ p (d + 1) k := by
    intro d
    induction d with
    | zero =>
      intro k h
      show k = dpu ρ p 1 k
      unfold dpu
      rw [show k + 1 = k + (0 + 1) from rfl, h]
    | succ d ih =>
      intro k h
      rw [dpu]
      rw [dpu]
      cases hu : upn ρ p (k + 1) with
      | none => rfl
      | some y => exact ih (k + 1) (by rw [show k + 1 + (d + 1) = k + (d + 1 + 1) by omega]; exact h)
  exact key 8 0 (by rw [Nat.zero_add]; exact h9)
theorem dpw_ge {q n i : Nat} (hi : i < n) (h : wi ρ i q = true) : dep ρ i ≤ dpw ρ q n := by
  induction n with
  | zero => omega
  | succ n ih =>
    unfold dpw
    by_cases z : i = n
    · subst z
      rw [if_pos h]
      exact Nat.le_max_right _ _
    · have := ih (by omega)
      split
      · exact Nat.le_trans this (Nat.le_max_left _ _)
      · exact this
/-- a project moved -/
theorem mv_not {p t x : Nat} (h : ∀ j, upn ρ x j ≠ some p) : ∀ k, upn (sN ρ 3 p (t + 1)) x k = upn ρ x k := by
  intro k
  induction k with
  | zero => rfl
  | succ k ih =>
    rw [upn, ih, upn]
    cases hu : upn ρ x k with
    | none => rfl
    | some y =>
      show par _ y = par _ y
      rw [par_sN, if_neg (fun z => h k (by rw [hu, z]))]
theorem mv_in {p t x k : Nat} (hx9 : upn ρ x 9 = none) (hk : upn ρ x k = some p) (ht : ∀ j, upn ρ t j ≠ some p) : (∀ j, j ≤ k → upn (sN ρ 3 p (t + 1)) x j = upn ρ x j) ∧ ∀ j, upn (sN ρ 3 p (t + 1)) x (k + 1 + j) = upn ρ t j := by
  have h1 : ∀ j, j ≤ k → upn (sN ρ 3 p (t + 1)) x j = upn ρ x j := by
    intro j
    induction j with
    | zero => intro _; rfl
    | succ j ih =>
      intro hj
      rw [upn, ih (by omega), upn]
      cases hu : upn ρ x j with
      | none => rfl
      | some y =>
        show par _ y = par _ y
        rw [par_sN, if_neg (fun z => ?_)]
        subst z
        have e1 := (dep_up hx9 hk).2
        have e2 := (dep_up hx9 hu).2
        omega
  refine ⟨h1, fun j => ?_⟩
  have h2 : upn (sN ρ 3 p (t + 1)) x (k + 1) = some t := by
    rw [upn, h1 k (Nat.le_refl _), hk]
    show par _ p = _
    rw [par_sN, if_pos rfl]
  rw [upn_add _ h2]
  exact mv_not ht j
theorem cmL_of (hW : RW ρ) {p t : Nat} (hp : p < ρ.1 10 3) (ht : t < ρ.1 10 3) (h : cmL ρ p t = true) : p ≠ 0 ∧ (∀ j, upn ρ t j ≠ some p) ∧ dep ρ t + (dpw ρ p (ρ.1 10 3) - dep ρ p + 1) ≤ 8 ∧ ∀ q, cho ρ t (nI (ρ.1 2 p)) = some q → q = p := by
  have w2 := hW.2.1
  unfold cmL cmL2 at h
  simp only [Bool.and_eq_true, Bool.not_eq_true', decide_eq_true_eq, decide_eq_false_iff_not] at h
  obtain ⟨⟨h1, h2⟩, h3, h4⟩ := h
  have ht9 := (hW.2.2.2.2.2.2.1 t (by omega)).2.2
  have hp9 := (hW.2.2.2.2.2.2.1 p (by omega)).2.2
  refine ⟨h1, fun j hj => ?_, ?_, fun q hq => ?_⟩
  · rw [(wi_iff ht9).mpr ⟨j, hj⟩] at h2
    cases h2
  · have hge := dpw_ge (ρ := ρ) (q := p) (n := ρ.1 10 3) hp ((wi_iff hp9).mpr ⟨0, rfl⟩)
    have b1 := dpw_le ρ p (ρ.1 10 3)
    have b2 := dep_le ρ t
    rw [pk_sub (by omega), show (1 : Int32) = nI 1 from rfl, nI_add, nI_add] at h3
    exact Nat.le_of_not_lt (fun z => absurd h3 (nI_ge z (by omega)))
  · rw [hq] at h4
    exact of_decide_eq_true h4
theorem mv_W (hW : RW ρ) (hE : RE ρ) {p t : Nat} (hp : p < ρ.1 10 3) (ht : t < ρ.1 10 3) (h : cmL ρ p t = true) : RW (sN ρ 3 p (t + 1)) := by
  obtain ⟨c1, c2, c3, -⟩ := cmL_of hW hp ht h
  have hW0 := hW
  have e23 := hE.1.1
  obtain ⟨w1, w2, w3, w4, w5, w6, w7, w8, w9⟩ := hW
  refine ⟨w1, w2, w3, w4, w5, w6, fun x hx => ?_, w8, w9⟩
  have h7 := w7 x hx
  refine ⟨h7.1, ?_, ?_⟩
  · show up2 ρ.1 3 p (t + 1) 3 x ≤ ρ.1 11 2
    by_cases z : x = p
    · rw [z, up2_self]
      omega
    · rw [up2_ne _ _ (Or.inr z)]
      exact h7.2.1
  · by_cases z : ∃ k, upn ρ x k = some p
    · obtain ⟨k, hk⟩ := z
      have hx' : x < ρ.1 11 2 := hx
      have d1 := (dep_up h7.2.2 hk).2
      have d2 := dpw_ge (ρ := ρ) (q := p) (n := ρ.1 10 3) (i := x) (by omega) ((wi_iff h7.2.2).mpr ⟨k, hk⟩)
      have ht9 := (w7 t (by omega)).2.2
      rw [show 9 = k + 1 + (8 - k) by have := dep_8 h7.2.2; omega, (mv_in h7.2.2 hk c2).2]
      exact upn_n ρ t (dep_top ht9) _ (by omega)
    · rw [mv_not (fun j hj => z ⟨j, hj⟩)]
      exact h7.2.2
end TR
