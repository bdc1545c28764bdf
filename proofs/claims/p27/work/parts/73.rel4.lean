/-! ===== the two sides: what charges and looks change ===== -/
def dl (b m : Int32) (t : Bool) (c : Nat) : Int32 := if c = 4 then b else if c = 5 then m else if c = 6 ∧ t = true then b else 0
theorem chA_v (ρ : gSt) (x : Nat) (b m : Int32) (t : Bool) (c a : Nat) : (chA ρ x b m t).2.1 c a = ρ.2.1 c a + (if a = x then dl b m t c else 0) := by
  by_cases h : a = x
  · subst h
    rw [if_pos rfl]
    by_cases h4 : c = 4
    · subst h4
      cases t <;> simp [chA, addA, cntA, setA, dl]
    · by_cases h5 : c = 5
      · subst h5
        cases t <;> simp [chA, addA, cntA, setA, dl]
      · by_cases h6 : c = 6
        · subst h6
          cases t <;> simp [chA, addA, cntA, setA, dl]
        · cases t <;> simp [chA, addA, cntA, setA, dl, h4, h5, h6]
  · rw [if_neg h, Int32.add_zero]
    cases t <;> simp [chA, addA, cntA, setA, h]
section CV
variable {ρ ρ' S : gSt}
theorem anyB_s (f : Nat → Bool) (n : Nat) : anyB (n + 1) f = (anyB n f || f n) := rfl
theorem chN_v (hW : RW ρ) (hE : RE ρ) {f : Nat} (hf : f < ρ.1 10 4) (b m : Int32) (c a : Nat) : ∀ n, n ≤ rowN ρ f → (chN ρ f b m n).2.1 c a = ρ.2.1 c a + (if anyB n (fun i => decide (rowE ρ f i = a)) = true then dl b m (decide (f < ρ.1 0 6)) c else 0) := by
  intro n
  induction n with
  | zero =>
    intro _
    rw [if_neg (fun z => by cases z), Int32.add_zero]
    rfl
  | succ n ih =>
    intro hn
    rw [chN, chA_v, ih (by omega), anyB_s]
    by_cases z : a = rowE ρ f n
    · have h0 : ¬ anyB n (fun i => decide (rowE ρ f i = a)) = true := fun w => by
        obtain ⟨i, h1, h2⟩ := (anyB_iff n).mp w
        have := rowE_inj hW hE hf (by omega) (by omega) ((of_decide_eq_true h2).trans z)
        omega
      rw [if_neg h0, if_pos z, if_pos (by rw [decide_eq_true z.symm, Bool.or_true]), Int32.add_zero]
    · rw [if_neg z, show decide (rowE ρ f n = a) = false from decide_eq_false (fun w => z w.symm), Bool.or_false, Int32.add_zero]
theorem chg_v (hW : RW ρ) (hE : RE ρ) {f : Nat} (hf : f < ρ.1 10 4) (b m : Int32) (c a : Nat) : (chg ρ f b m).2.1 c a = ρ.2.1 c a + (if ctL ρ f a = true then dl b m (decide (f < ρ.1 0 6)) c else 0) := chN_v hW hE hf b m c a _ (Nat.le_refl _)
def d6 (b : Int32) (c : Nat) : Int32 := if c = 6 then b else 0
theorem cntA_v (ρ : gSt) (x : Nat) (b : Int32) (c a : Nat) : (cntA ρ x b).2.1 c a = ρ.2.1 c a + (if a = x then d6 b c else 0) := by
  by_cases h : a = x
  · subst h
    rw [if_pos rfl]
    by_cases h6 : c = 6
    · subst h6
      simp [cntA, setA, d6]
    · simp [cntA, setA, h6, d6]
  · rw [if_neg h, Int32.add_zero]
    simp [cntA, setA, h]
theorem tkN_v (hW : RW ρ) (hE : RE ρ) {f : Nat} (hf : f < ρ.1 10 4) (b : Int32) (c a : Nat) : ∀ n, n ≤ rowN ρ f → (tkN ρ f b n).2.1 c a = ρ.2.1 c a + (if anyB n (fun i => decide (rowE ρ f i = a)) = true then d6 b c else 0) := by
  intro n
  induction n with
  | zero =>
    intro _
    rw [if_neg (fun z => by cases z), Int32.add_zero]
    rfl
  | succ n ih =>
    intro hn
    rw [tkN, cntA_v, ih (by omega), anyB_s]
    by_cases z : a = rowE ρ f n
    · have h0 : ¬ anyB n (fun i => decide (rowE ρ f i = a)) = true := fun w => by
        obtain ⟨i, h1, h2⟩ := (anyB_iff n).mp w
        have := rowE_inj hW hE hf (by omega) (by omega) ((of_decide_eq_true h2).trans z)
        omega
      rw [if_neg h0, if_pos z, if_pos (by rw [decide_eq_true z.symm, Bool.or_true]), Int32.add_zero]
    · rw [if_neg z, decide_eq_false (fun w => z w.symm), Bool.or_false, Int32.add_zero]
def ntv (ρ : gSt) (c a : Nat) : Int32 := if c = 7 then fO (ρ.2.1 1 a) (ρ.2.1 4 a) else if c = 8 then (if fO (ρ.2.1 1 a) (ρ.2.1 4 a) = 1 ∧ ρ.2.1 7 a = 0 then ρ.2.1 0 0 else ρ.2.1 8 a) else ρ.2.1 c a
theorem ntA_s (ρ : gSt) (c a : Nat) : (ntA ρ a).2.1 c a = ntv ρ c a := by
  unfold ntA ntv
  by_cases h7 : c = 7
  · subst h7
    simp [setA]
  · by_cases h8 : c = 8
    · subst h8
      simp [setA]
    · simp [setA, h7, h8]
theorem ntA_o (ρ : gSt) {c a x : Nat} (h : x ≠ a) : (ntA ρ a).2.1 c x = ρ.2.1 c x := setA_o _ _ _ (fun z => h z.2)
theorem ntN_v (c a : Nat) : ∀ n, (ntN ρ n).2.1 c a = if a < n then ntv ρ c a else ρ.2.1 c a := by
  have hc0 : ∀ n, (ntN ρ n).2.1 0 0 = ρ.2.1 0 0 := by
    intro n
    induction n with
    | zero => rfl
    | succ n ih =>
      show (ntA (ntN ρ n) n).2.1 0 0 = _
      unfold ntA
      rw [setA_o _ _ _ (by omega), ih]
  have key : ∀ n, (∀ c, n ≤ a → (ntN ρ n).2.1 c a = ρ.2.1 c a) ∧ ∀ c, a < n → (ntN ρ n).2.1 c a = ntv ρ c a := by
    intro n
    induction n with
    | zero => exact ⟨fun _ _ => rfl, fun _ h => absurd h (Nat.not_lt_zero _)⟩
    | succ n ih =>
      refine ⟨fun c h => ?_, fun c h => ?_⟩
      · rw [ntN, ntA_o _ (by omega)]
        exact ih.1 c (by omega)
      · by_cases z : a = n
        · subst z
          have e : ∀ c, (ntN ρ a).2.1 c a = ρ.2.1 c a := fun c => ih.1 c (Nat.le_refl _)
          rw [ntN, ntA_s]
          unfold ntv
          rw [e 1, e 4, e 7, e 8, hc0, e c]
        · rw [ntN, ntA_o _ z]
          exact ih.2 c (by omega)
  intro n
  by_cases z : a < n
  · rw [if_pos z]
    exact (key n).2 c z
  · rw [if_neg z]
    exact (key n).1 c (by omega)
theorem ntS_v {c a : Nat} (ha : a < 9 + ρ.1 10 3) : (ntS ρ).2.1 c a = ntv ρ c a := by
  rw [ntS, ntN_v, if_pos ha]
theorem ntS_o {c a : Nat} (h7 : c ≠ 7) (h8 : c ≠ 8) : (ntS ρ).2.1 c a = ρ.2.1 c a := by
  rw [ntS, ntN_v]
  unfold ntv
  rw [if_neg h7, if_neg h8]
  split <;> rfl
theorem ntS_2 : (ntS ρ).2.2 = ρ.2.2 := by
  have e : ∀ n, (ntN ρ n).2.2 = ρ.2.2 := by
    intro n
    induction n with
    | zero => rfl
    | succ n ih => exact ih
  exact e _
/-- what does not touch a file's row, its blocks and reservations -/
theorem rwu_c {p : Nat} (h : ∀ k, upn ρ' p k = upn ρ p k) : ∀ d k, rwu ρ' p d k = rwu ρ p d k := by
  intro d
  induction d with
  | zero => intro k; rfl
  | succ d ih =>
    intro k
    unfold rwu
    rw [h]
    cases upn ρ p k with
    | none => rfl
    | some x => exact ih (k + 1)
theorem row_c {f : Nat} (h4 : ρ'.1 4 f = ρ.1 4 f) (h5 : ρ'.1 5 f = ρ.1 5 f) (h6 : ρ'.1 6 f = ρ.1 6 f) (hu : ∀ k, upn ρ' (ρ.1 6 f) k = upn ρ (ρ.1 6 f) k) : rowN ρ' f = rowN ρ f ∧ (∀ i, rowE ρ' f i = rowE ρ f i) ∧ ∀ a, ctL ρ' f a = ctL ρ f a := by
  have e1 : rowN ρ' f = rowN ρ f := by
    unfold rowN hgt
    rw [h6, rwu_c hu]
  have e2 : ∀ i, rowE ρ' f i = rowE ρ f i := fun i => by
    unfold rowE
    rw [h4, h5, h6, hu]
  refine ⟨e1, e2, fun a => ?_⟩
  unfold ctL
  rw [e1]
  congr 1
  funext i
  rw [e2]
theorem bub_c {f : Nat} (h9 : ρ'.2.1 9 f = ρ.2.1 9 f) : ∀ n, (∀ r, r < n → ρ'.2.2 11 r = ρ.2.2 11 r ∧ ρ'.1 7 r = ρ.1 7 r ∧ ρ'.2.1 10 r = ρ.2.1 10 r) → bub ρ' f n = bub ρ f n := by
  intro n
  induction n with
  | zero => intro _; exact h9
  | succ n ih =>
    intro h
    unfold bub
    obtain ⟨e1, e2, e3⟩ := h n (Nat.lt_succ_self _)
    rw [ih (fun r hr => h r (by omega)), e1, e2, e3]
theorem uW_c {f a : Nat} (hc : ctL ρ' f a = ctL ρ f a) (h8 : ρ'.2.2 8 f = ρ.2.2 8 f) (hb : bub ρ' f (ρ'.1 10 5) = bub ρ f (ρ.1 10 5)) : uW ρ' f a = uW ρ f a ∧ fW ρ' f a = fW ρ f a := by
  unfold uW fW
  rw [hc, h8, hb]
  exact ⟨rfl, rfl⟩
def Ac (ρ : gSt) : Prop := ∀ a, a < 9 + ρ.1 10 3 → ρ.2.1 4 a = usum ρ a (ρ.1 10 4) ∧ ρ.2.1 5 a = fsum ρ a (ρ.1 10 4) ∧ (ρ.2.2 0 5 = true → ρ.2.1 6 a = usum ρ a (ρ.1 0 6))
theorem Ac_upd (hA : Ac ρ) {f : Nat} (d e : Nat → Int32) (hf : f < ρ.1 10 4) (htk : ρ.1 0 6 ≤ ρ.1 10 4) (n1 : ∀ i, ρ'.1 10 i = ρ.1 10 i) (n2 : ρ'.1 0 6 = ρ.1 0 6) (n3 : ρ'.2.2 0 5 = ρ.2.2 0 5)
    (v : ∀ a, a < 9 + ρ.1 10 3 → ρ'.2.1 4 a = ρ.2.1 4 a + d a ∧ ρ'.2.1 5 a = ρ.2.1 5 a + e a ∧ ρ'.2.1 6 a = ρ.2.1 6 a + (if f < ρ.1 0 6 then d a else 0))
    (ho : ∀ i, i < ρ.1 10 4 → i ≠ f → ∀ a, uW ρ' i a = uW ρ i a ∧ fW ρ' i a = fW ρ i a) (hu : ∀ a, uW ρ' f a = uW ρ f a + d a ∧ fW ρ' f a = fW ρ f a + e a) : Ac ρ' := by
  intro a ha
  rw [n1] at ha
  obtain ⟨a1, a2, a3⟩ := hA a ha
  obtain ⟨v1, v2, v3⟩ := v a ha
  rw [n1, n2, n3, v1, v2, v3, a1, a2]
  refine ⟨?_, ?_, fun hb => ?_⟩
  · unfold usum
    rw [isum_u (g := fun i => uW ρ i a) (g' := fun i => uW ρ' i a) (f := f) (d := d a) (hu a).1 _ (fun i hi hne => (ho i hi hne a).1), if_pos hf]
  · unfold fsum
    rw [isum_u (g := fun i => fW ρ i a) (g' := fun i => fW ρ' i a) (f := f) (d := e a) (hu a).2 _ (fun i hi hne => (ho i hi hne a).2), if_pos hf]
  · rw [a3 hb]
    unfold usum
    rw [isum_u (g := fun i => uW ρ i a) (g' := fun i => uW ρ' i a) (f := f) (d := d a) (hu a).1 _ (fun i hi hne => (ho i (by omega) hne a).1)]
/-- a look at all accounts -/
theorem lkS_15 {a : Nat} (ha : a < 9 + S.1 0 2) : (lkS S).2.1 15 a = lkA S a := by
  show (if 15 = 15 then (if a < 9 + S.1 0 2 then lkA S a else S.2.1 15 a) else S.2.1 15 a) = _
  rw [if_pos rfl, if_pos ha]
theorem lkS_15o {a : Nat} (ha : ¬ a < 9 + S.1 0 2) : (lkS S).2.1 15 a = S.2.1 15 a := by
  show (if 15 = 15 then (if a < 9 + S.1 0 2 then lkA S a else S.2.1 15 a) else S.2.1 15 a) = _
  rw [if_pos rfl, if_neg ha]
theorem lkS_o {c : Nat} (h : c ≠ 15) : (lkS S).2.1 c = S.2.1 c := lk_col S _ h
theorem lkS_1 : (lkS S).1 = S.1 := rfl
theorem lkS_2 : (lkS S).2.2 = S.2.2 := rfl
theorem lkS_sum (a n : Nat) : sumA (lkS S) a n = sumA S a n := sumA_X (eqX_col S 15 _) (by decide) (by decide) (by decide) a n
theorem lkA_v {s u w : Int32} {x : gSt} {a : Nat} (h12 : x.2.1 12 a = s) (hu : sumA x a (x.1 0 3) = u) : lkA x a = if fO s u = 1 then (if x.2.1 15 a = -1 then x.2.1 0 0 else x.2.1 15 a) else -1 := by
  unfold lkA fO
  rw [h12, hu]
  by_cases y : s = -1
  · rw [decide_eq_true y, Bool.not_true, Bool.false_and, if_neg (by decide), if_pos y, if_neg (by decide)]
  · rw [decide_eq_false y, Bool.not_false, Bool.true_and, if_neg y]
    by_cases z : u ≤ s
    · rw [decide_eq_false (Int32.not_lt.mpr z), if_neg (by decide), if_pos z, if_neg (by decide)]
    · rw [decide_eq_true (Int32.not_le.mp z), if_pos rfl, if_neg z, if_pos rfl]
theorem Ra_look {a : Nat} (hR : Ra ρ S a) (hC : Rc ρ S) (h3 : S.1 0 2 = ρ.1 10 3) (ha : a < 9 + ρ.1 10 3) (hU : ρ.2.1 4 a = sumA S a (S.1 0 3)) : Ra (ntS ρ) (lkS S) a ∧ lkA (lkS S) a = (lkS S).2.1 15 a := by
  obtain ⟨⟨r1, r2, r3⟩, r4, r5⟩ := hR
  obtain ⟨c1, c2, c3⟩ := hC
  have ha' : a < 9 + S.1 0 2 := by omega
  have e15 : (lkS S).2.1 15 a = if fO (ρ.2.1 1 a) (ρ.2.1 4 a) = 1 then (if S.2.1 15 a = -1 then S.2.1 0 0 else S.2.1 15 a) else -1 := by
    rw [lkS_15 ha', lkA_v (w := 0) r1 hU.symm]
  have e7 : (ntS ρ).2.1 7 a = fO (ρ.2.1 1 a) (ρ.2.1 4 a) := ntS_v ha
  have e8 : (ntS ρ).2.1 8 a = if fO (ρ.2.1 1 a) (ρ.2.1 4 a) = 1 ∧ ρ.2.1 7 a = 0 then ρ.2.1 0 0 else ρ.2.1 8 a := ntS_v ha
  have hf01 : fO (ρ.2.1 1 a) (ρ.2.1 4 a) = 0 ∨ fO (ρ.2.1 1 a) (ρ.2.1 4 a) = 1 := by
    unfold fO
    split
    · exact Or.inl rfl
    · split
      · exact Or.inl rfl
      · exact Or.inr rfl
  have em : (lkS S).2.1 15 a = -1 ∧ fO (ρ.2.1 1 a) (ρ.2.1 4 a) = 0 ∨ (fO (ρ.2.1 1 a) (ρ.2.1 4 a) = 1 ∧ (lkS S).2.1 15 a = (ntS ρ).2.1 8 a ∧ 0 ≤ ((ntS ρ).2.1 8 a).toInt ∧ ((ntS ρ).2.1 8 a).toInt ≤ (ρ.2.1 0 0).toInt) := by
    rw [e15, e8]
    rcases hf01 with z | z
    · rw [z, if_neg (by decide)]
      exact Or.inl ⟨rfl, rfl⟩
    · rw [z, if_pos rfl]
      refine Or.inr ⟨rfl, ?_⟩
      rcases r5 with ⟨q1, q2⟩ | ⟨q1, q2, q3, q4⟩
      · rw [if_pos q1, if_pos ⟨rfl, q2⟩, c1]
        exact ⟨rfl, c2, Int.le_refl _⟩
      · rw [if_neg (by rw [q2]; exact m1_ne q3), if_neg (fun y => by rw [q1] at y; exact absurd y.2 (by decide)), q2]
        exact ⟨rfl, q3, q4⟩
  refine ⟨⟨⟨?_, ?_, ?_⟩, ?_, ?_⟩, ?_⟩
  · rw [lkS_o (by decide), ntS_o (by decide) (by decide)]
    exact r1
  · rw [lkS_o (by decide), ntS_o (by decide) (by decide)]
    exact r2
  · rw [lkS_o (by decide), ntS_o (by decide) (by decide)]
    exact r3
  · rw [ntS_o (by decide) (by decide)]
    exact r4
  · rw [e7, ntS_o (a := 0) (by decide) (by decide)]
    exact em
  · have hU2 : sumA (lkS S) a ((lkS S).1 0 3) = ρ.2.1 4 a := by
      rw [lkS_sum]
      exact hU.symm
    rw [lkA_v (w := 0) (show (lkS S).2.1 12 a = ρ.2.1 1 a by rw [lkS_o (by decide)]; exact r1) hU2]
    rcases em with ⟨z1, z2⟩ | ⟨z1, z2, z3, z4⟩
    · rw [z2, if_neg (by decide), z1]
    · rw [z1, if_pos rfl, if_neg (by rw [z2]; exact m1_ne z3)]
end CV
