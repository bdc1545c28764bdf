/-! ===== the two sides: files, sums ===== -/
def isum (g : Nat → Int32) : Nat → Int32
  | 0 => 0
  | k + 1 => isum g k + g k
theorem isum_c {g g' : Nat → Int32} : ∀ n, (∀ i, i < n → g' i = g i) → isum g' n = isum g n := by
  intro n
  induction n with
  | zero => intro _; rfl
  | succ n ih =>
    intro h
    unfold isum
    rw [ih (fun i hi => h i (by omega)), h n (Nat.lt_succ_self _)]
theorem isum_u {g g' : Nat → Int32} {f : Nat} {d : Int32} (hf : g' f = g f + d) : ∀ n, (∀ i, i < n → i ≠ f → g' i = g i) → isum g' n = isum g n + (if f < n then d else 0) := by
  intro n
  induction n with
  | zero =>
    intro _
    rw [if_neg (Nat.not_lt_zero _), Int32.add_zero]
    rfl
  | succ n ih =>
    intro h
    unfold isum
    have ih := ih (fun i hi => h i (by omega))
    by_cases z : f = n
    · subst z
      rw [if_neg (Nat.lt_irrefl _), Int32.add_zero] at ih
      rw [if_pos (Nat.lt_succ_self _), ih, hf, Int32.add_assoc]
    · rw [h n (Nat.lt_succ_self _) (fun e => z e.symm), ih]
      by_cases y : f < n
      · rw [if_pos y, if_pos (by omega), Int32.add_assoc, Int32.add_comm d, ← Int32.add_assoc]
      · rw [if_neg y, if_neg (by omega), Int32.add_zero, Int32.add_zero]
theorem isum_b {g : Nat → Int32} {B : Int} : ∀ n : Nat, (n : Int) * B < 2 ^ 31 → (∀ i, i < n → 0 ≤ (g i).toInt ∧ (g i).toInt ≤ B) → 0 ≤ (isum g n).toInt ∧ (isum g n).toInt ≤ n * B := by
  intro n
  induction n with
  | zero =>
    intro _ _
    have e0 : (0 : Int32).toInt = 0 := by decide
    show 0 ≤ (0 : Int32).toInt ∧ (0 : Int32).toInt ≤ ((0 : Nat) : Int) * B
    rw [e0]
    omega
  | succ n ih =>
    intro hB h
    obtain ⟨h1, h2⟩ := h n (Nat.lt_succ_self _)
    have e : ((n + 1 : Nat) : Int) * B = n * B + B := by
      rw [Int.natCast_add, Int.add_mul]
      omega
    rw [e] at hB ⊢
    obtain ⟨g1, g2⟩ := ih (by omega) (fun i hi => h i (by omega))
    unfold isum
    rw [Jvm.Kit.i32_add (by omega) (by omega)]
    omega
def uW (ρ : gSt) (f a : Nat) : Int32 := if ρ.2.2 8 f = false ∧ ctL ρ f a = true then bub ρ f (ρ.1 10 5) else 0
def fW (ρ : gSt) (f a : Nat) : Int32 := if ρ.2.2 8 f = false ∧ ctL ρ f a = true then 1 else 0
def usum (ρ : gSt) (a n : Nat) : Int32 := isum (fun i => uW ρ i a) n
def fsum (ρ : gSt) (a n : Nat) : Int32 := isum (fun i => fW ρ i a) n
def Rf (ρ S : gSt) : Prop := S.1 0 3 = ρ.1 10 4 ∧ ∀ f, f < ρ.1 10 4 → S.1 5 f = ρ.1 4 f ∧ ρ.1 5 f = 6 + ρ.1 4 f % 3 ∧ S.1 6 f = ρ.1 6 f ∧ S.2.1 7 f = ρ.2.1 9 f ∧ S.2.2 8 f = ρ.2.2 8 f
def Rr (ρ S : gSt) : Prop := S.1 0 4 = ρ.1 10 5 ∧ ∀ r, r < ρ.1 10 5 → S.1 9 r = ρ.1 7 r ∧ S.2.1 10 r = ρ.2.1 10 r ∧ S.2.2 11 r = ρ.2.2 11 r
def Rs (ρ S : gSt) : Prop := RW ρ ∧ RE ρ ∧ Tr ρ ∧ Rt ρ S ∧ Rp ρ S ∧ Rf ρ S ∧ Rr ρ S
theorem anyB_iff {f : Nat → Bool} : ∀ n, anyB n f = true ↔ ∃ i, i < n ∧ f i = true := by
  intro n
  induction n with
  | zero => exact ⟨fun h => (by cases h), fun ⟨i, hi, _⟩ => absurd hi (Nat.not_lt_zero _)⟩
  | succ n ih =>
    unfold anyB
    rw [Bool.or_eq_true, ih]
    constructor
    · rintro (⟨i, h1, h2⟩ | h)
      · exact ⟨i, by omega, h2⟩
      · exact ⟨n, Nat.lt_succ_self _, h⟩
    · rintro ⟨i, h1, h2⟩
      by_cases z : i = n
      · exact Or.inr (z ▸ h2)
      · exact Or.inl ⟨i, by omega, h2⟩
theorem ctL_iff {ρ : gSt} {f a : Nat} : ctL ρ f a = true ↔ ∃ i, i < rowN ρ f ∧ rowE ρ f i = a := by
  unfold ctL
  rw [anyB_iff]
  constructor
  · rintro ⟨i, h1, h2⟩
    exact ⟨i, h1, of_decide_eq_true h2⟩
  · rintro ⟨i, h1, h2⟩
    exact ⟨i, h1, decide_eq_true h2⟩
section FS
variable {ρ S : gSt}
theorem fl_lt (hW : RW ρ) (hE : RE ρ) {f : Nat} (hf : f < ρ.1 10 4) : f < ρ.1 11 3 := by
  have := hE.1.2.1
  omega
theorem fl_row (hW : RW ρ) (hE : RE ρ) {f : Nat} (hf : f < ρ.1 10 4) : ρ.1 4 f < 6 ∧ (6 ≤ ρ.1 5 f ∧ ρ.1 5 f < 9) ∧ ρ.1 6 f < ρ.1 10 3 := by
  have h := hW.2.2.2.2.2.2.2.1 f (fl_lt hW hE hf)
  have := hE.1.1
  exact ⟨h.1, h.2.1, by omega⟩
theorem rowE_cases (ρ : gSt) (f i : Nat) : (i = 0 ∧ rowE ρ f i = ρ.1 4 f) ∨ (i = 1 ∧ rowE ρ f i = ρ.1 5 f) ∨ (2 ≤ i ∧ rowE ρ f i = 9 + (upn ρ (ρ.1 6 f) (i - 2)).getD 0) := by
  unfold rowE
  by_cases z : i = 0
  · exact Or.inl ⟨z, if_pos z⟩
  · rw [if_neg z]
    by_cases y : i = 1
    · exact Or.inr (Or.inl ⟨y, if_pos y⟩)
    · exact Or.inr (Or.inr ⟨by omega, if_neg y⟩)
theorem rowN_dep (hW : RW ρ) (hE : RE ρ) {f : Nat} (hf : f < ρ.1 10 4) : rowN ρ f = dep ρ (ρ.1 6 f) + 3 := by
  unfold rowN
  rw [hgt_dep (np_9 hW hE (fl_row hW hE hf).2.2)]
  omega
theorem rowE_inj (hW : RW ρ) (hE : RE ρ) {f i j : Nat} (hf : f < ρ.1 10 4) (hi : i < rowN ρ f) (hj : j < rowN ρ f) (h : rowE ρ f i = rowE ρ f j) : i = j := by
  obtain ⟨r1, r2, r3⟩ := fl_row hW hE hf
  have h9 := np_9 hW hE r3
  rw [rowN_dep hW hE hf] at hi hj
  rcases rowE_cases ρ f i with ⟨i1, i2⟩ | ⟨i1, i2⟩ | ⟨i1, i2⟩ <;> rcases rowE_cases ρ f j with ⟨j1, j2⟩ | ⟨j1, j2⟩ | ⟨j1, j2⟩ <;> rw [i2, j2] at h
  · omega
  · omega
  · omega
  · omega
  · omega
  · omega
  · omega
  · omega
  · obtain ⟨x, hx⟩ := dep_some ρ (ρ.1 6 f) (i - 2) (by omega)
    obtain ⟨y, hy⟩ := dep_some ρ (ρ.1 6 f) (j - 2) (by omega)
    rw [hx, hy] at h
    have e : x = y := by
      have h : 9 + x = 9 + y := h
      omega
    subst e
    have d1 := (dep_up h9 hx).2
    have d2 := (dep_up h9 hy).2
    omega
theorem ctL_eq (hW : RW ρ) (hE : RE ρ) {f a : Nat} (hf : f < ρ.1 10 4) : ctL ρ f a = true ↔ if a < 6 then ρ.1 4 f = a else if a < 9 then ρ.1 5 f = a else wi ρ (ρ.1 6 f) (a - 9) = true := by
  obtain ⟨r1, r2, r3⟩ := fl_row hW hE hf
  have h9 := np_9 hW hE r3
  rw [ctL_iff, rowN_dep hW hE hf]
  by_cases z : a < 6
  · rw [if_pos z]
    constructor
    · rintro ⟨i, hi, h⟩
      rcases rowE_cases ρ f i with ⟨i1, i2⟩ | ⟨i1, i2⟩ | ⟨i1, i2⟩ <;> omega
    · intro h
      exact ⟨0, by omega, h⟩
  · rw [if_neg z]
    by_cases y : a < 9
    · rw [if_pos y]
      constructor
      · rintro ⟨i, hi, h⟩
        rcases rowE_cases ρ f i with ⟨i1, i2⟩ | ⟨i1, i2⟩ | ⟨i1, i2⟩ <;> omega
      · intro h
        exact ⟨1, by omega, h⟩
    · rw [if_neg y, wi_iff h9]
      constructor
      · rintro ⟨i, hi, h⟩
        rcases rowE_cases ρ f i with ⟨i1, i2⟩ | ⟨i1, i2⟩ | ⟨i1, i2⟩
        · omega
        · omega
        · obtain ⟨x, hx⟩ := dep_some ρ (ρ.1 6 f) (i - 2) (by omega)
          rw [i2, hx] at h
          have h : 9 + x = a := h
          exact ⟨i - 2, by rw [hx, show a - 9 = x by omega]⟩
      · rintro ⟨j, hj⟩
        have := dep_ge h9 hj
        refine ⟨j + 2, by omega, ?_⟩
        rcases rowE_cases ρ f (j + 2) with ⟨i1, i2⟩ | ⟨i1, i2⟩ | ⟨i1, i2⟩
        · omega
        · omega
        · rw [i2, show j + 2 - 2 = j by omega, hj]
          show 9 + (a - 9) = a
          omega
theorem cts_ct (h : Rs ρ S) {f a : Nat} (hf : f < ρ.1 10 4) (ha : a < 9 + ρ.1 10 3) : cts S f a = (!ρ.2.2 8 f && ctL ρ f a) := by
  obtain ⟨hW, hE, hT, ht, hp, hF, hR⟩ := h
  obtain ⟨f1, f2, f3, f4, f5⟩ := hF.2 f hf
  obtain ⟨r1, r2, r3⟩ := fl_row hW hE hf
  have hc := ctL_eq (a := a) hW hE hf
  unfold cts
  rw [f1, f3, f5, Bool.and_comm]
  congr 1
  rw [Bool.eq_iff_iff, hc]
  by_cases z : a < 6
  · rw [if_pos z, if_pos z, decide_eq_true_eq]
  · rw [if_neg z, if_neg z]
    by_cases y : a < 9
    · rw [if_pos y, if_pos y, decide_eq_true_eq, f2]
      omega
    · rw [if_neg y, if_neg y, wIn_wi hW hE hT ht r3 (by omega)]
theorem usg_bub (h : Rs ρ S) {f : Nat} (hf : f < ρ.1 10 4) (hl : ρ.2.2 8 f = false) : ∀ n, n ≤ ρ.1 10 5 → usg S f n = bub ρ f n := by
  obtain ⟨hW, hE, hT, ht, hp, hF, hR⟩ := h
  obtain ⟨f1, f2, f3, f4, f5⟩ := hF.2 f hf
  intro n
  induction n with
  | zero =>
    intro _
    unfold usg bub
    rw [f5, hl, f4]
    rfl
  | succ n ih =>
    intro hn
    obtain ⟨r1, r2, r3⟩ := hR.2 n (by omega)
    unfold usg bub
    rw [ih (by omega), r1, r2, r3]
    congr 1
    by_cases z : ρ.2.2 11 n = true ∧ ρ.1 7 n = f
    · rw [if_pos z, if_pos ⟨z.2, z.1⟩]
    · rw [if_neg z, if_neg (fun y => z ⟨y.2, y.1⟩)]
theorem sum_u (h : Rs ρ S) {a : Nat} (ha : a < 9 + ρ.1 10 3) : ∀ n, n ≤ ρ.1 10 4 → sumA S a n = usum ρ a n := by
  intro n
  induction n with
  | zero => intro _; rfl
  | succ n ih =>
    intro hn
    show sumA S a n + _ = usum ρ a n + uW ρ n a
    rw [ih (by omega), cts_ct h (by omega) ha]
    congr 1
    unfold uW
    by_cases z : ρ.2.2 8 n = false
    · by_cases y : ctL ρ n a = true
      · rw [if_pos (by rw [z, y]; rfl), if_pos ⟨z, y⟩, h.2.2.2.2.2.2.1]
        exact usg_bub h (by omega) z _ (Nat.le_refl _)
      · rw [if_neg (by rw [Bool.eq_false_iff.mpr y, Bool.and_false]; decide), if_neg (fun w => y w.2)]
    · rw [if_neg (by rw [Bool.not_eq_false] at z; rw [z]; simp), if_neg (fun w => z w.1)]
theorem cnt_f (h : Rs ρ S) {a : Nat} (ha : a < 9 + ρ.1 10 3) : ∀ n, n ≤ ρ.1 10 4 → nI (cntF S a n) = fsum ρ a n := by
  intro n
  induction n with
  | zero => intro _; rfl
  | succ n ih =>
    intro hn
    show nI (cntF S a n + _) = fsum ρ a n + fW ρ n a
    rw [← nI_add, ih (by omega), cts_ct h (by omega) ha]
    congr 1
    unfold fW
    by_cases z : ρ.2.2 8 n = false
    · by_cases y : ctL ρ n a = true
      · rw [if_pos (by rw [z, y]; rfl), if_pos ⟨z, y⟩]
        rfl
      · rw [if_neg (by rw [Bool.eq_false_iff.mpr y, Bool.and_false]; decide), if_neg (fun w => y w.2)]
        rfl
    · rw [if_neg (by rw [Bool.not_eq_false] at z; rw [z]; simp), if_neg (fun w => z w.1)]
      rfl
/-- bounds, behind n calls -/
def Bd (n : Nat) (ρ : gSt) : Prop := (∀ f, f < ρ.1 10 4 → 0 ≤ (ρ.2.1 9 f).toInt ∧ (ρ.2.1 9 f).toInt ≤ 1000 * n) ∧ ∀ r, r < ρ.1 10 5 → 1 ≤ (ρ.2.1 10 r).toInt ∧ (ρ.2.1 10 r).toInt ≤ 1000
theorem bub_b {n : Nat} (hn : n ≤ 600) (hW : RW ρ) (hB : Bd n ρ) {f : Nat} (hf : f < ρ.1 10 4) : ∀ k, k ≤ ρ.1 10 5 → 0 ≤ (bub ρ f k).toInt ∧ (bub ρ f k).toInt ≤ 1000 * n + 1000 * k := by
  have w4 := hW.2.2.2.1
  intro k
  induction k with
  | zero =>
    intro _
    have := hB.1 f hf
    show 0 ≤ (ρ.2.1 9 f).toInt ∧ (ρ.2.1 9 f).toInt ≤ _
    omega
  | succ k ih =>
    intro hk
    have ih := ih (by omega)
    have hr := hB.2 k (by omega)
    unfold bub
    have e0 : (0 : Int32).toInt = 0 := by decide
    split
    · rw [Jvm.Kit.i32_add (by omega) (by omega)]
      omega
    · rw [Int32.add_zero]
      omega
theorem uW_b {n : Nat} (hn : n ≤ 600) (hW : RW ρ) (hB : Bd n ρ) {f : Nat} (hf : f < ρ.1 10 4) (a : Nat) : 0 ≤ (uW ρ f a).toInt ∧ (uW ρ f a).toInt ≤ 630000 := by
  have w4 := hW.2.2.2.1
  unfold uW
  have e0 : (0 : Int32).toInt = 0 := by decide
  split
  · have := bub_b hn hW hB hf (ρ.1 10 5) (Nat.le_refl _)
    omega
  · rw [e0]
    omega
theorem usum_b {n : Nat} (hn : n ≤ 600) (hW : RW ρ) (hB : Bd n ρ) (a k : Nat) (hk : k ≤ ρ.1 10 4) : 0 ≤ (usum ρ a k).toInt := by
  have w3 := hW.2.2.1
  exact (isum_b (g := fun i => uW ρ i a) (B := 630000) k (by omega) (fun i hi => uW_b hn hW hB (by omega) a)).1
end FS
