abbrev gSt : Type := (Nat → Nat → Nat) × (Nat → Nat → Int32) × (Nat → Nat → Bool)
def up2 {α : Type} (f : Nat → Nat → α) (c i : Nat) (v : α) : Nat → Nat → α := fun c' i' => if c' = c ∧ i' = i then v else f c' i'
def sN (S : gSt) (c i v : Nat) : gSt := (up2 S.1 c i v, S.2.1, S.2.2)
def sI (S : gSt) (c i : Nat) (v : Int32) : gSt := (S.1, up2 S.2.1 c i v, S.2.2)
def sB (S : gSt) (c i : Nat) (v : Bool) : gSt := (S.1, S.2.1, up2 S.2.2 c i v)
theorem up2_self {α : Type} (f : Nat → Nat → α) (c i : Nat) (v : α) : up2 f c i v c i = v := if_pos ⟨rfl, rfl⟩
theorem up2_ne {α : Type} (f : Nat → Nat → α) {c i c' i' : Nat} (v : α) (h : c' ≠ c ∨ i' ≠ i) : up2 f c i v c' i' = f c' i' := if_neg (fun z => h.elim (fun g => g z.1) (fun g => g z.2))
theorem up2_col {α : Type} (f : Nat → Nat → α) {c i c' : Nat} (v : α) (h : c' ≠ c) : up2 f c i v c' = f c' := by
  funext i'
  exact up2_ne f v (Or.inl h)
theorem up2_I (f : Nat → Nat → Int32) (c i : Nat) (v : Int32) : up2 f c i v c = upd (f c) i v := by
  funext j
  by_cases h : j = i
  · subst h
    simp [up2, upd]
  · simp [up2, upd, h]
theorem up2_N (f : Nat → Nat → Nat) (c i v : Nat) : (fun j => nI (up2 f c i v c j)) = upd (fun j => nI (f c j)) i (nI v) := by
  funext j
  by_cases h : j = i
  · subst h
    simp [up2, upd]
  · simp [up2, upd, h]
theorem up2_B (f : Nat → Nat → Bool) (c i : Nat) (v : Bool) : (fun j => bI (up2 f c i v c j)) = upd (fun j => bI (f c j)) i (bI v) := by
  funext j
  by_cases h : j = i
  · subst h
    simp [up2, upd]
  · simp [up2, upd, h]
def oI : Option Nat → Int32
  | none => -1
  | some p => nI p
section MD
variable {m : Nat} {ad : Nat → Nat} {rf : Int32} {S : gSt}
end MD
def npj (S : gSt) : Nat := S.1 0 2
/-- the bounds of the counts -/
def SB (S : gSt) : Prop := S.1 0 1 ≤ 8 ∧ S.1 0 2 ≤ 21 ∧ S.1 0 3 ≤ 40 ∧ S.1 0 4 ≤ 30 ∧ S.1 0 6 ≤ S.1 0 3 ∧ (∀ p, p < S.1 0 2 → S.1 4 p ≤ 8) ∧ (∀ f, f < S.1 0 3 → S.1 5 f < 6 ∧ S.1 6 f < S.1 0 2) ∧ ∀ r, r < S.1 0 4 → S.1 9 r < S.1 0 3
def allB : Nat → (Nat → Bool) → Bool
  | 0, _ => true
  | k + 1, f => allB k f && f k
def lastP : Nat → (Nat → Bool) → Option Nat
  | 0, _ => none
  | k + 1, f => if f k = true then some k else lastP k f
/-- the letters of p's path begin with some of the buffer / of q's path -/
def bEq (S : gSt) (p n : Nat) : Bool := allB n (fun k => decide (S.2.1 3 (8 * p + k) = S.2.1 1 k))
def pEq (S : gSt) (p n : Nat) : Bool := decide (S.1 4 p = n) && bEq S p n
def lEq (S : gSt) (p q n : Nat) : Bool := allB n (fun k => decide (S.2.1 3 (8 * p + k) = S.2.1 3 (8 * q + k)))
def wIn (S : gSt) (p q : Nat) : Bool := decide (S.1 4 q ≤ S.1 4 p) && lEq S p q (S.1 4 q)
def fnd (S : gSt) (n : Nat) : Option Nat := lastP (npj S) (fun p => pEq S p n)
def chd (S : gSt) (q : Nat) (c : Int32) : Option Nat := lastP (npj S) (fun p => (decide (S.1 4 p = S.1 4 q + 1) && wIn S p q) && decide (S.2.1 3 (8 * p + S.1 4 q) = c))
def dpst (S : gSt) (q : Nat) : Nat → Nat
  | 0 => 0
  | k + 1 => if wIn S k q = true ∧ dpst S q k < S.1 4 k then S.1 4 k else dpst S q k
theorem bI_t : bI true = 1 := rfl
theorem bI_f : bI false = 0 := rfl
theorem bI_0 {b : Bool} : bI b = 0 ↔ b = false := by cases b <;> decide
theorem bI_n {b : Bool} : ¬ bI b = 0 ↔ b = true := by cases b <;> decide
theorem narrow_b (b : Bool) : narrow .boolean (.int (bI b)) = .int (bI b) := by cases b <;> rfl
theorem fits_b (b : Bool) : fits .boolean (.int (bI b)) = true := by cases b <;> rfl
theorem allB_f {n k : Nat} {f : Nat → Bool} (h : allB k f = false) (hk : k ≤ n) : allB n f = false := by
  induction n with
  | zero =>
    have : k = 0 := by omega
    subst this
    exact h
  | succ n ih =>
    by_cases c : k = n + 1
    · subst c
      exact h
    · unfold allB
      rw [ih (by omega)]
      rfl
def pI (σ : gS) (v : Int32) : Int32 → gS → Prop := fun r σ2 => r = v ∧ σ2 = σ
theorem oI_if (b : Bool) (p : Nat) (o : Option Nat) : (if b = true then nI p else oI o) = oI (if b = true then some p else o) := by cases b <;> rfl
theorem lastP_some {n : Nat} {f : Nat → Bool} {p : Nat} (h : lastP n f = some p) : p < n ∧ f p = true := by
  induction n with
  | zero => cases h
  | succ n ih =>
    unfold lastP at h
    split at h
    · cases h
      exact ⟨by omega, by assumption⟩
    · exact ⟨by have := (ih h).1; omega, (ih h).2⟩
theorem lastP_none {n : Nat} {f : Nat → Bool} (h : lastP n f = none) : ∀ p, p < n → f p = false := by
  induction n with
  | zero => intro p hp; omega
  | succ n ih =>
    unfold lastP at h
    split at h
    · cases h
    · intro p hp
      by_cases c : p = n
      · subst c
        exact Bool.eq_false_iff.mpr (by assumption)
      · exact ih h p (by omega)
theorem dpst_le {S : gSt} (hB : SB S) (q : Nat) : ∀ k, k ≤ S.1 0 2 → dpst S q k ≤ 8 := by
  intro k
  induction k with
  | zero => intro _; exact Nat.zero_le _
  | succ k ih =>
    intro hk
    unfold dpst
    split
    · exact hB.2.2.2.2.2.1 k (by omega)
    · exact ih (by omega)
def isP (S : gSt) (x : Int32) : Bool := decide (0 ≤ x) && decide (x ≤ nI (S.1 0 2) - 1)
def acct (S : gSt) (kd x : Int32) : Option Nat :=
  if kd = 0 then (if (decide (0 ≤ x) && decide (x ≤ 5)) = true then some x.toNatClampNeg else none)
  else if kd = 1 then (if (decide (0 ≤ x) && decide (x ≤ 2)) = true then some (6 + x.toNatClampNeg) else none)
  else if kd = 2 then (if isP S x = true then some (9 + x.toNatClampNeg) else none) else none
def cts (S : gSt) (f a : Nat) : Bool := (if a < 6 then decide (S.1 5 f = a) else if a < 9 then decide (S.1 5 f % 3 = a - 6) else wIn S (S.1 6 f) (a - 9)) && !(S.2.2 8 f)
def usg (S : gSt) (f : Nat) : Nat → Int32
  | 0 => if S.2.2 8 f = true then 0 else S.2.1 7 f
  | k + 1 => usg S f k + (if S.1 9 k = f ∧ S.2.2 11 k = true then S.2.1 10 k else 0)
def sumA (S : gSt) (a : Nat) : Nat → Int32
  | 0 => 0
  | k + 1 => sumA S a k + (if cts S k a = true then usg S k (S.1 0 4) else 0)
def cntF (S : gSt) (a : Nat) : Nat → Nat
  | 0 => 0
  | k + 1 => cntF S a k + (if cts S k a = true then 1 else 0)
theorem nonneg_nI {x : Int32} (h : 0 ≤ x) : x = nI x.toNatClampNeg := by
  obtain ⟨j, hj, rfl⟩ := nI_of (x := x) (fun z => by
    rw [Int32.lt_iff_toInt_lt] at z
    rw [Int32.le_iff_toInt_le] at h
    omega)
  rw [nI_clamp hj]
def isF (S : gSt) (x : Int32) : Bool := (decide (0 ≤ x) && decide (x ≤ nI (S.1 0 3) - 1)) && !(S.2.2 8 x.toNatClampNeg)
theorem le_pred {x : Int32} {n : Nat} (hn : n < 2 ^ 30) (h : (decide (0 ≤ x) && decide (x ≤ nI n - 1)) = true) : x = nI x.toNatClampNeg ∧ x.toNatClampNeg < n := by
  have h1 := of_decide_eq_true (Bool.and_eq_true_iff.mp h).1
  have h2 := of_decide_eq_true (Bool.and_eq_true_iff.mp h).2
  have e := nonneg_nI h1
  refine ⟨e, ?_⟩
  rw [Int32.le_iff_toInt_le] at h1 h2
  have e2 : (1 : Int32) = nI 1 := rfl
  rw [e2, pk_sub_toInt hn (by omega)] at h2
  have : ((x.toNatClampNeg : Nat) : Int) = x.toInt := by
    show ((x.toInt.toNat : Nat) : Int) = x.toInt
    rw [Int32.toInt_zero] at h1
    omega
  omega
theorem cntF_le (S : gSt) (a : Nat) : ∀ n, cntF S a n ≤ n := by
  intro n
  induction n with
  | zero => exact Nat.le_refl _
  | succ n ih =>
    unfold cntF
    split <;> omega
def colI (S : gSt) (c : Nat) (g : Nat → Int32) : gSt := (S.1, (fun c' i => if c' = c then g i else S.2.1 c' i), S.2.2)
def eqX (x : Nat) (S S2 : gSt) : Prop := S2.1 = S.1 ∧ S2.2.2 = S.2.2 ∧ ∀ c, c ≠ x → S2.2.1 c = S.2.1 c
theorem eqX_col (S : gSt) (c : Nat) (g : Nat → Int32) : eqX c S (colI S c g) := ⟨rfl, rfl, fun c' h => by
  funext i
  exact if_neg h⟩
theorem lEq_X {x : Nat} {S S2 : gSt} (h : eqX x S S2) (hx : x ≠ 3) (p q n : Nat) : lEq S2 p q n = lEq S p q n := by
  unfold lEq
  rw [h.2.2 3 (Ne.symm hx)]
theorem wIn_X {x : Nat} {S S2 : gSt} (h : eqX x S S2) (hx : x ≠ 3) (p q : Nat) : wIn S2 p q = wIn S p q := by
  unfold wIn
  rw [lEq_X h hx, h.1]
theorem cts_X {x : Nat} {S S2 : gSt} (h : eqX x S S2) (hx : x ≠ 3) (f a : Nat) : cts S2 f a = cts S f a := by
  unfold cts
  rw [wIn_X h hx, h.1, h.2.1]
theorem usg_X {x : Nat} {S S2 : gSt} (h : eqX x S S2) (h7 : x ≠ 7) (h10 : x ≠ 10) (f : Nat) : ∀ n, usg S2 f n = usg S f n := by
  intro n
  induction n with
  | zero => rw [usg, usg, h.2.1, h.2.2 7 (Ne.symm h7)]
  | succ n ih => rw [usg, usg, ih, h.1, h.2.1, h.2.2 10 (Ne.symm h10)]
theorem sumA_X {x : Nat} {S S2 : gSt} (h : eqX x S S2) (hx : x ≠ 3) (h7 : x ≠ 7) (h10 : x ≠ 10) (a : Nat) : ∀ n, sumA S2 a n = sumA S a n := by
  intro n
  induction n with
  | zero => rfl
  | succ n ih => rw [sumA, sumA, ih, cts_X h hx, usg_X h h7 h10, h.1]
theorem SB_X {x : Nat} {S S2 : gSt} (h : eqX x S S2) (hB : SB S) : SB S2 := by
  unfold SB
  rw [h.1]
  exact hB
def lkA (S : gSt) (a : Nat) : Int32 := if (!decide (S.2.1 12 a = -1) && decide (S.2.1 12 a < sumA S a (S.1 0 3))) = true then (if S.2.1 15 a = -1 then S.2.1 0 0 else S.2.1 15 a) else -1
def lkN (S : gSt) (n : Nat) : gSt := colI S 15 (fun a => if a < n then lkA S a else S.2.1 15 a)
def lkS (S : gSt) : gSt := lkN S (9 + S.1 0 2)
theorem lkN_0 (S : gSt) : lkN S 0 = S := by
  have e : (fun c' i => if c' = 15 then (if i < 0 then lkA S i else S.2.1 15 i) else S.2.1 c' i) = S.2.1 := by
    funext c' i
    by_cases h : c' = 15
    · subst h
      rw [if_pos rfl, if_neg (Nat.not_lt_zero _)]
    · rw [if_neg h]
  unfold lkN colI
  rw [e]
theorem lkN_s (S : gSt) (n : Nat) : sI (lkN S n) 15 n (lkA S n) = lkN S (n + 1) := by
  have e : up2 (lkN S n).2.1 15 n (lkA S n) = (lkN S (n + 1)).2.1 := by
    funext c' i
    unfold lkN colI up2
    dsimp only
    by_cases h : c' = 15
    · subst h
      rw [if_pos rfl, if_pos rfl]
      by_cases hi : i = n
      · subst hi
        rw [if_pos ⟨rfl, rfl⟩, if_pos (by omega)]
      · rw [if_neg (fun z => hi z.2)]
        by_cases hl : i < n
        · rw [if_pos hl, if_pos (by omega)]
        · rw [if_neg hl, if_neg (by omega)]
    · rw [if_neg (fun z => h z.1), if_neg h, if_neg h]
  unfold sI
  rw [e]
  rfl
theorem lk_1 (S : gSt) (n : Nat) : (lkN S n).1 = S.1 := rfl
theorem lk_2 (S : gSt) (n : Nat) : (lkN S n).2.2 = S.2.2 := rfl
theorem lk_col (S : gSt) (n : Nat) {c : Nat} (h : c ≠ 15) : (lkN S n).2.1 c = S.2.1 c := (eqX_col S 15 _).2.2 c h
theorem lk_15 (S : gSt) (n : Nat) : (lkN S n).2.1 15 n = S.2.1 15 n := by
  show (if (15 : Nat) = 15 then (if n < n then lkA S n else S.2.1 15 n) else S.2.1 15 n) = S.2.1 15 n
  rw [if_pos rfl, if_neg (Nat.lt_irrefl _)]
def ggn (S : gSt) (a : Nat) : Bool := !decide (S.2.1 15 a = -1) && decide (48 ≤ S.2.1 0 0 - S.2.1 15 a)
def askf (S : gSt) (p j : Nat) : Nat → Bool := fun k => decide (S.1 4 k + j = S.1 4 p + 2) && wIn S p k
def askO (S : gSt) (p j i : Nat) : Option Nat := (lastP i (askf S p j)).map (fun k => 9 + k)
def askd (S : gSt) (o p j : Nat) : Option Nat :=
  if j = 0 then some o else if j = 1 then some (6 + o % 3) else askO S p j (npj S)
theorem sub2 {a j : Nat} (h : j ≤ a + 2) : nI a - nI j + nI 2 = nI (a + 2 - j) := by
  rw [← pk_sub h, ← nI_add]
  rw [Int32.sub_eq_add_neg, Int32.sub_eq_add_neg, Int32.add_assoc, Int32.add_assoc, Int32.add_comm (-nI j)]
theorem sub2N {a j : Nat} (ha : a ≤ 100) (hj : j ≤ 100) (h : a + 2 < j) : nI a - nI j + nI 2 < 0 := by
  have e : nI a - nI j + nI 2 = nI (a + 2) - nI j := by
    rw [← nI_add, Int32.sub_eq_add_neg, Int32.sub_eq_add_neg, Int32.add_assoc, Int32.add_assoc, Int32.add_comm (-nI j)]
  rw [e]
  exact pk_sneg (by omega) h
theorem askd_lt {S : gSt} {o p j a : Nat} (ho : o < 6) (h : askd S o p j = some a) : a < 9 + S.1 0 2 := by
  unfold askd at h
  split at h
  · cases h
    omega
  · split at h
    · cases h
      omega
    · unfold askO at h
      cases hl : lastP (npj S) (askf S p j) with
      | none => rw [hl] at h; cases h
      | some k =>
        rw [hl] at h
        cases h
        have h2 : k < S.1 0 2 := (lastP_some hl).1
        show 9 + k < _
        omega
theorem askd_far {S : gSt} {o p j : Nat} (h : S.1 4 p + 2 < j) : askd S o p j = none := by
  unfold askd
  rw [if_neg (by omega), if_neg (by omega), askO]
  cases hl : lastP (npj S) (askf S p j) with
  | none => rfl
  | some k =>
    have := (lastP_some hl).2
    unfold askf at this
    rw [decide_eq_false (by omega)] at this
    cases this
def brH (S : gSt) (b : Int32) (a : Nat) : Bool := decide (0 < b) && (ggn S a || (!decide (S.2.1 13 a = -1) && decide (0 < lg_cmp ((sumA S a (S.1 0 3)).toInt64 + b.toInt64) (S.2.1 13 a).toInt64)))
def brF (S : gSt) (mr : Int32) (a : Nat) : Bool := decide (0 < mr) && (!decide (S.2.1 14 a = -1) && decide (S.2.1 14 a < nI (cntF S a (S.1 0 3)) + mr))
def brr (S : gSt) (o p : Nat) (b mr : Int32) : Nat → Nat → Option Nat
  | 0, _ => none
  | d + 1, j => match askd S o p j with
    | none => none
    | some a => if (brH S b a || brF S mr a) = true then some j else brr S o p b mr d (j + 1)
theorem askd_2 {S : gSt} {o p j : Nat} (h : j < 2) : ∃ a, askd S o p j = some a := by
  unfold askd
  by_cases h0 : j = 0
  · exact ⟨_, if_pos h0⟩
  · rw [if_neg h0]
    exact ⟨_, if_pos (by omega)⟩
theorem oI_none {o : Option Nat} (hb : ∀ a, o = some a → a < 100) : oI o = -1 ↔ o = none := by
  cases o with
  | none => exact ⟨fun _ => rfl, fun _ => rfl⟩
  | some a =>
    refine ⟨fun z => ?_, fun z => by cases z⟩
    have h := nI_pos' (n := a) (by have := hb a rfl; omega)
    rw [show oI (some a) = nI a from rfl] at z
    rw [z] at h
    exact absurd h (by decide)
def gd (w z : Int32) (S : gSt) (T : Int32 × gSt) : Int32 × Int32 × gSt := if w = 0 then (0, T.1, T.2) else (w, z, S)
theorem gd0 {w z : Int32} {S : gSt} {T : Int32 × gSt} (h : w = 0) : gd w z S T = (0, T.1, T.2) := if_pos h
theorem gd1 {w z : Int32} {S : gSt} {T : Int32 × gSt} (h : ¬ w = 0) : gd w z S T = (w, z, S) := if_neg h
theorem rf0 {w : Int32} : (if w = 0 then (0 : Int32) else 1) = 0 ↔ w = 0 := by
  by_cases h : w = 0
  · rw [if_pos h]
    exact ⟨fun _ => h, fun _ => rfl⟩
  · rw [if_neg h]
    exact ⟨fun z => absurd z (by decide), fun z => absurd z h⟩
theorem rf1 {A : Prop} [Decidable A] (h : (0 : Int32) = if A then 1 else 0) : ¬ A := fun a => by
  rw [if_pos a] at h
  exact absurd h (by decide)
theorem rf1' {A : Prop} [Decidable A] (h : (0 : Int32) = if A then 0 else 1) : A := by
  by_cases a : A
  · exact a
  · rw [if_neg a] at h
    exact absurd h (by decide)
theorem rf2 {A B : Prop} [Decidable A] [Decidable B] (h : (0 : Int32) = if A then 1 else if B then 2 else 0) : ¬ A ∧ ¬ B := by
  by_cases a : A
  · rw [if_pos a] at h
    exact absurd h (by decide)
  · by_cases b : B
    · rw [if_neg a, if_pos b] at h
      exact absurd h (by decide)
    · exact ⟨a, b⟩
theorem rf3 {A B C : Prop} [Decidable A] [Decidable B] [Decidable C] (h : (0 : Int32) = if A then 1 else if B then 2 else if C then 3 else 0) : ¬ A ∧ ¬ B ∧ ¬ C := by
  by_cases a : A
  · rw [if_pos a] at h
    exact absurd h (by decide)
  · by_cases b : B
    · rw [if_neg a, if_pos b] at h
      exact absurd h (by decide)
    · by_cases c : C
      · rw [if_neg a, if_neg b, if_pos c] at h
        exact absurd h (by decide)
      · exact ⟨a, b, c⟩
def rf_type (S : gSt) (c : Int32) : Int32 := if c < 97 ∨ 122 < c then 1 else if S.1 0 1 = 8 then 2 else 0
def mo_type (S : gSt) (c : Int32) : Int32 × Int32 × gSt := gd (rf_type S c) 0 S (nI (S.1 0 1 + 1), sN (sI S 1 (S.1 0 1) (vp_nar .char c)) 0 1 (S.1 0 1 + 1))
def rf_back (S : gSt) : Int32 := if S.1 0 1 = 0 then 1 else 0
def mo_back (S : gSt) : Int32 × Int32 × gSt := gd (rf_back S) 0 S (nI (S.1 0 1 - 1), sN S 0 1 (S.1 0 1 - 1))
def mo_clearPath (S : gSt) : Int32 × Int32 × gSt := (0, nI (S.1 0 1), sN S 0 1 0)
def mo_findProject (S : gSt) : Int32 × Int32 × gSt := (0, oI (fnd S (S.1 0 1)), S)
def mo_projects (S : gSt) : Int32 × Int32 × gSt := (0, nI (S.1 0 2), S)
def rf_letterAt (S : gSt) (x pl : Int32) : Int32 := if (isP S x && decide (0 ≤ pl)) = true then 0 else 1
def mo_letterAt (S : gSt) (x pl : Int32) : Int32 × Int32 × gSt := gd (rf_letterAt S x pl) 32 S ((if pl < nI (S.1 4 x.toNatClampNeg) then S.2.1 3 (8 * x.toNatClampNeg + pl.toNatClampNeg) else 32), S)
/-- every letter kept is a char -/
def nC (S : gSt) : Prop := ∀ c i, vp_nar .char (S.2.1 c i) = S.2.1 c i ∨ (c ≠ 1 ∧ c ≠ 2 ∧ c ≠ 3)
theorem nar_char {x : Int32} (h : vp_nar .char x = x) : narrow .char (.int x) = .int x := by
  have e : ∃ y, narrow .char (.int x) = .int y := ⟨_, rfl⟩
  obtain ⟨y, hy⟩ := e
  unfold vp_nar at h
  rw [hy] at h
  rw [hy]
  exact congrArg _ h
theorem isP_nI {S : gSt} (hB : SB S) {x : Int32} (h : isP S x = true) : ∃ p, p < S.1 0 2 ∧ x = nI p := by
  have b2 := hB.2.1
  obtain ⟨h1, h2⟩ := Bool.and_eq_true_iff.mp h
  have h1 := of_decide_eq_true h1
  have h2 := of_decide_eq_true h2
  have e := nonneg_nI h1
  refine ⟨x.toNatClampNeg, ?_, e⟩
  by_cases z : S.1 0 2 = 0
  · rw [z] at h2
    rw [Int32.le_iff_toInt_le] at h1 h2
    exfalso
    have : (nI 0 - 1).toInt = -1 := by decide
    have : (0 : Int32).toInt = 0 := by decide
    omega
  · have h2 : x ≤ nI (S.1 0 2) - nI 1 := h2
    rw [pk_sub (b := 1) (by omega)] at h2
    have h3 : x.toNatClampNeg ≤ S.1 0 2 - 1 := by
      have h4 := Int32.le_iff_toInt_le.mp h2
      have h5 := Int32.le_iff_toInt_le.mp h1
      rw [nI_toInt (by omega)] at h4
      have : (0 : Int32).toInt = 0 := by decide
      have h6 : x.toNatClampNeg = x.toInt.toNat := rfl
      omega
    omega
def rf_pass (S : gSt) (h : Int32) : Int32 := if (decide (1 ≤ h) && decide (h ≤ 1000)) = false then 1 else if 100000 < S.2.1 0 0 + h then 2 else 0
def mo_pass (S : gSt) (h : Int32) : Int32 × Int32 × gSt := gd (rf_pass S h) 0 S (S.2.1 0 0 + h, sI S 0 0 (S.2.1 0 0 + h))
theorem acct_lt {S : gSt} (hB : SB S) {kd x : Int32} {a : Nat} (h : acct S kd x = some a) : a < 9 + S.1 0 2 := by
  unfold acct at h
  split at h
  · split at h
    · cases h
      rename_i h1 h2
      obtain ⟨g1, g2⟩ := Bool.and_eq_true_iff.mp h2
      have g1 := of_decide_eq_true g1
      have g2 := of_decide_eq_true g2
      have h6 : x.toNatClampNeg = x.toInt.toNat := rfl
      have h7 := Int32.le_iff_toInt_le.mp g2
      have : (5 : Int32).toInt = 5 := by decide
      omega
    · cases h
  · split at h
    · split at h
      · cases h
        rename_i h0 h1 h2
        obtain ⟨g1, g2⟩ := Bool.and_eq_true_iff.mp h2
        have g2 := of_decide_eq_true g2
        have h6 : x.toNatClampNeg = x.toInt.toNat := rfl
        have h7 := Int32.le_iff_toInt_le.mp g2
        have : (2 : Int32).toInt = 2 := by decide
        omega
      · cases h
    · split at h
      · split at h
        · cases h
          rename_i h0 h1 h2 h3
          obtain ⟨p, hp, e⟩ := isP_nI hB h3
          have b2 := hB.2.1
          rw [e, nI_clamp (by omega)]
          omega
        · cases h
      · cases h
def mo_used (S : gSt) (kd x : Int32) : Int32 × Int32 × gSt := match acct S kd x with
  | none => (1, 0, S)
  | some a => (0, sumA S a (S.1 0 3), S)
def mo_filesOf (S : gSt) (kd x : Int32) : Int32 × Int32 × gSt := match acct S kd x with
  | none => (1, 0, S)
  | some a => (0, nI (cntF S a (S.1 0 3)), S)
def grA (S : gSt) (a : Nat) : Int32 := if S.2.1 15 a = -1 then -1 else if ggn S a = true then 0 else 48 - S.2.1 0 0 + S.2.1 15 a
def mo_grace (S : gSt) (kd x : Int32) : Int32 × Int32 × gSt := match acct S kd x with
  | none => (1, 0, S)
  | some a => (0, grA S a, S)
def mo_beginRecount (S : gSt) : Int32 × Int32 × gSt := (0, nI (S.1 0 3), sN (sB S 0 5 true) 0 6 0)
def rf_recount (S : gSt) (n : Int32) : Int32 := if (decide (1 ≤ n) && decide (n ≤ 40)) = false then 1 else if S.2.2 0 5 = false then 2 else 0
def rcT (S : gSt) (n : Int32) : Nat := if S.1 0 6 + n.toNatClampNeg < S.1 0 3 then S.1 0 6 + n.toNatClampNeg else S.1 0 3
def mo_recount (S : gSt) (n : Int32) : Int32 × Int32 × gSt := gd (rf_recount S n) 0 S (nI (S.1 0 3 - rcT S n), sN S 0 6 (rcT S n))
def rf_counted (S : gSt) (kd x : Int32) : Int32 := if acct S kd x = none then 1 else if S.2.2 0 5 = false then 2 else 0
def mo_counted (S : gSt) (kd x : Int32) : Int32 × Int32 × gSt := gd (rf_counted S kd x) 0 S (sumA S ((acct S kd x).getD 0) (S.1 0 6), S)
theorem isF_nI {S : gSt} (hB : SB S) {x : Int32} (h : isF S x = true) : ∃ f, f < S.1 0 3 ∧ x = nI f ∧ S.2.2 8 f = false ∧ x.toNatClampNeg = f := by
  have b3 := hB.2.2.1
  obtain ⟨h1, h2⟩ := Bool.and_eq_true_iff.mp h
  obtain ⟨e, hl⟩ := le_pred (by omega) h1
  refine ⟨x.toNatClampNeg, hl, e, ?_, rfl⟩
  cases z : S.2.2 8 x.toNatClampNeg with
  | false => rfl
  | true => rw [z] at h2; cases h2
def limO (s h f : Int32) : Bool := ((decide (-1 ≤ s) && decide (s ≤ 100000)) && (decide (-1 ≤ h) && decide (h ≤ 100000))) && (decide (-1 ≤ f) && decide (f ≤ 100))
def rf_setLimits (S : gSt) (kd x s h f : Int32) : Int32 := if acct S kd x = none then 1 else if limO s h f = false then 2 else 0
def mo_setLimits (S : gSt) (kd x s h f : Int32) : Int32 × Int32 × gSt := gd (rf_setLimits S kd x s h f) 0 S (0, lkS (sI (sI (sI S 12 ((acct S kd x).getD 0) s) 13 ((acct S kd x).getD 0) h) 14 ((acct S kd x).getD 0) f))
def may (S : gSt) (f : Nat) (b : Int32) : Bool := (decide (-1000 ≤ b) && decide (b ≤ 1000)) && decide (0 ≤ S.2.1 7 f + b)
def rf_write (S : gSt) (x b : Int32) : Int32 := if isF S x = false then 1 else if may S x.toNatClampNeg b = false then 2 else 0
def br2 (S : gSt) (o : Option Nat) (T : Int32 × gSt) : Int32 × gSt := match o with
  | some j => (-2 - nI j, S)
  | none => T
def mo_write (S : gSt) (x b : Int32) : Int32 × Int32 × gSt := gd (rf_write S x b) 0 S (br2 S (brr S (S.1 5 x.toNatClampNeg) (S.1 6 x.toNatClampNeg) b 0 12 0) (S.2.1 7 x.toNatClampNeg + b, lkS (sI S 7 x.toNatClampNeg (S.2.1 7 x.toNatClampNeg + b))))
theorem brr_lt {S : gSt} {o p : Nat} {b mr : Int32} : ∀ d j k, brr S o p b mr d j = some k → j ≤ k ∧ k < j + d := by
  intro d
  induction d with
  | zero => intro j k h; cases h
  | succ d ih =>
    intro j k h
    unfold brr at h
    split at h
    · cases h
    · split at h
      · cases h
        omega
      · have := ih (j + 1) k h
        omega
theorem brr_n {S : gSt} {o p : Nat} {b mr : Int32} : oI (brr S o p b mr 12 0) = -1 ↔ brr S o p b mr 12 0 = none := oI_none (fun a h => by have := brr_lt 12 0 a h; omega)
def rf_makeFile (S : gSt) (u x : Int32) : Int32 := if ((decide (0 ≤ u) && decide (u ≤ 5)) && isP S x) = false then 1 else if S.1 0 3 = 40 then 2 else 0
def mo_makeFile (S : gSt) (u x : Int32) : Int32 × Int32 × gSt := gd (rf_makeFile S u x) 0 S (br2 S (brr S u.toNatClampNeg x.toNatClampNeg 0 1 12 0) (nI (S.1 0 3), sN (sN (sN S 5 (S.1 0 3) u.toNatClampNeg) 6 (S.1 0 3) x.toNatClampNeg) 0 3 (S.1 0 3 + 1)))
theorem SB_places {S : gSt} (hB : SB S) {f p : Nat} (hp : p < S.1 0 2) : SB (sN S 6 f p) := by
  obtain ⟨b1, b2, b3, b4, b5, b6, b7, b8⟩ := hB
  refine ⟨b1, b2, b3, b4, b5, b6, fun g hg => ⟨(b7 g hg).1, ?_⟩, b8⟩
  show up2 S.1 6 f p 6 g < S.1 0 2
  by_cases z : g = f
  · subst z
    rw [up2_self]
    exact hp
  · rw [up2_ne _ _ (Or.inr z)]
    exact (b7 g hg).2
def rf_moveFile (S : gSt) (x y : Int32) : Int32 := if (isF S x && isP S y) = true then 0 else 1
def mo_moveFile (S : gSt) (x y : Int32) : Int32 × Int32 × gSt := gd (rf_moveFile S x y) 0 S (nI (S.1 6 x.toNatClampNeg), lkS (sN S 6 x.toNatClampNeg y.toNatClampNeg))
def rf_reserve (S : gSt) (x b : Int32) : Int32 := if isF S x = false then 1 else if (decide (1 ≤ b) && decide (b ≤ 1000)) = false then 2 else if S.1 0 4 = 30 then 3 else 0
def rsvS (S : gSt) (f : Nat) (b : Int32) : gSt := sN (sB (sI (sN S 9 (S.1 0 4) f) 10 (S.1 0 4) b) 11 (S.1 0 4) true) 0 4 (S.1 0 4 + 1)
def mo_reserve (S : gSt) (x b : Int32) : Int32 × Int32 × gSt := gd (rf_reserve S x b) 0 S (br2 S (brr S (S.1 5 x.toNatClampNeg) (S.1 6 x.toNatClampNeg) b 0 12 0) (nI (S.1 0 4), lkS (rsvS S x.toNatClampNeg b)))
theorem SB_rsv {S : gSt} (hB : SB S) {f : Nat} (b : Int32) (hf : f < S.1 0 3) (hn : ¬ S.1 0 4 = 30) : SB (rsvS S f b) := by
  obtain ⟨b1, b2, b3, b4, b5, b6, b7, b8⟩ := hB
  have e : ∀ c j, c ≠ 9 → (c ≠ 0 ∨ j ≠ 4) → (rsvS S f b).1 c j = S.1 c j := by
    intro c j h1 h2
    show up2 (up2 S.1 9 (S.1 0 4) f) 0 4 (S.1 0 4 + 1) c j = _
    rw [up2_ne _ _ h2, up2_ne _ _ (Or.inl h1)]
  have e4 : (rsvS S f b).1 0 4 = S.1 0 4 + 1 := rfl
  unfold SB
  rw [e 0 1 (by decide) (by decide), e 0 2 (by decide) (by decide), e 0 3 (by decide) (by decide), e4, e 0 6 (by decide) (by decide)]
  refine ⟨b1, b2, b3, by omega, b5, fun p hp => ?_, fun g hg => ?_, fun r hr => ?_⟩
  · rw [e 4 p (by decide) (Or.inl (by decide))]
    exact b6 p hp
  · rw [e 5 g (by decide) (Or.inl (by decide)), e 6 g (by decide) (Or.inl (by decide))]
    exact b7 g hg
  · show up2 (up2 S.1 9 (S.1 0 4) f) 0 4 (S.1 0 4 + 1) 9 r < _
    rw [up2_ne _ _ (Or.inl (by decide))]
    by_cases z : r = S.1 0 4
    · subst z
      rw [up2_self]
      exact hf
    · rw [up2_ne _ _ (Or.inr z)]
      exact b8 r (by omega)
def isR (S : gSt) (x : Int32) : Bool := (decide (0 ≤ x) && decide (x ≤ nI (S.1 0 4) - 1)) && S.2.2 11 x.toNatClampNeg
theorem isR_nI {S : gSt} (hB : SB S) {x : Int32} (h : isR S x = true) : ∃ r, r < S.1 0 4 ∧ x = nI r ∧ S.2.2 11 r = true ∧ x.toNatClampNeg = r := by
  have b4 := hB.2.2.2.1
  obtain ⟨h1, h2⟩ := Bool.and_eq_true_iff.mp h
  obtain ⟨e, hl⟩ := le_pred (by omega) h1
  exact ⟨x.toNatClampNeg, hl, e, h2, rfl⟩
def rf_settle (S : gSt) (x b : Int32) : Int32 := if isR S x = false then 1 else if (decide (0 ≤ b) && decide (b ≤ S.2.1 10 x.toNatClampNeg)) = false then 2 else 0
def stlS (S : gSt) (r : Nat) (b : Int32) : gSt := sI (sB S 11 r false) 7 (S.1 9 r) (S.2.1 7 (S.1 9 r) + b)
def mo_settle (S : gSt) (x b : Int32) : Int32 × Int32 × gSt := gd (rf_settle S x b) 0 S (S.2.1 7 (S.1 9 x.toNatClampNeg) + b, lkS (stlS S x.toNatClampNeg b))
def rf_delete (S : gSt) (x : Int32) : Int32 := if isF S x = true then 0 else 1
/-- the first k reservations seen: those of f are closed -/
def clO (S : gSt) (f k : Nat) : gSt := (S.1, S.2.1, fun c i => if c = 11 ∧ i < k then (S.2.2 11 i && !decide (S.1 9 i = f)) else S.2.2 c i)
theorem clO_0 (S : gSt) (f : Nat) : clO S f 0 = S := by
  unfold clO
  have e : (fun c i => if c = 11 ∧ i < 0 then (S.2.2 11 i && !decide (S.1 9 i = f)) else S.2.2 c i) = S.2.2 := by
    funext c i
    exact if_neg (fun z => absurd z.2 (Nat.not_lt_zero _))
  rw [e]
theorem clO_s (S : gSt) (f k : Nat) : sB (clO S f k) 11 k (S.2.2 11 k && !decide (S.1 9 k = f)) = clO S f (k + 1) := by
  have e : up2 (clO S f k).2.2 11 k (S.2.2 11 k && !decide (S.1 9 k = f)) = (clO S f (k + 1)).2.2 := by
    funext c i
    unfold clO up2
    dsimp only
    by_cases h : c = 11
    · subst h
      by_cases hi : i = k
      · subst hi
        rw [if_pos ⟨rfl, rfl⟩, if_pos ⟨rfl, by omega⟩]
      · rw [if_neg (fun z => hi z.2)]
        by_cases hl : i < k
        · rw [if_pos ⟨rfl, hl⟩, if_pos ⟨rfl, by omega⟩]
        · rw [if_neg (fun z => hl z.2), if_neg (fun z => by have := z.2; omega)]
    · rw [if_neg (fun z => h z.1), if_neg (fun z => h z.1), if_neg (fun z => h z.1)]
  unfold sB
  rw [e]
  rfl
theorem clO_k (S : gSt) (f k : Nat) : (clO S f k).2.2 11 k = S.2.2 11 k := if_neg (fun z => absurd z.2 (Nat.lt_irrefl _))
def delS (S : gSt) (f : Nat) : gSt := clO (sB S 8 f true) f (S.1 0 4)
def mo_delete (S : gSt) (x : Int32) : Int32 × Int32 × gSt := gd (rf_delete S x) 0 S (usg S x.toNatClampNeg (S.1 0 4), lkS (delS S x.toNatClampNeg))
/-- n places of column c from base on laid anew -/
def cpy (S : gSt) (c base n : Nat) (g : Nat → Int32) : gSt := colI S c (fun i => if base ≤ i ∧ i < base + n then g (i - base) else S.2.1 c i)
theorem cpy_0 (S : gSt) (c base : Nat) (g : Nat → Int32) : cpy S c base 0 g = S := by
  have e : (fun c' i => if c' = c then (if base ≤ i ∧ i < base + 0 then g (i - base) else S.2.1 c i) else S.2.1 c' i) = S.2.1 := by
    funext c' i
    by_cases h : c' = c
    · subst h
      rw [if_pos rfl, if_neg (by omega)]
    · rw [if_neg h]
  unfold cpy colI
  rw [e]
theorem cpy_s (S : gSt) (c base n : Nat) (g : Nat → Int32) : sI (cpy S c base n g) c (base + n) (g n) = cpy S c base (n + 1) g := by
  have e : up2 (cpy S c base n g).2.1 c (base + n) (g n) = (cpy S c base (n + 1) g).2.1 := by
    funext c' i
    unfold cpy colI up2
    dsimp only
    by_cases h : c' = c
    · subst h
      rw [if_pos rfl, if_pos rfl]
      by_cases hi : i = base + n
      · subst hi
        rw [if_pos ⟨rfl, rfl⟩, if_pos (by omega), Nat.add_sub_cancel_left]
      · rw [if_neg (fun z => hi z.2)]
        by_cases hl : base ≤ i ∧ i < base + n
        · rw [if_pos hl, if_pos (by omega)]
        · rw [if_neg hl, if_neg (by omega)]
    · rw [if_neg (fun z => h z.1), if_neg h, if_neg h]
  unfold sI
  rw [e]
  rfl
theorem cpy_col (S : gSt) {c c' : Nat} (base n : Nat) (g : Nat → Int32) (h : c' ≠ c) : (cpy S c base n g).2.1 c' = S.2.1 c' := (eqX_col S c _).2.2 c' h
def fndM (S : gSt) : Option Nat := if S.1 0 1 = 0 then none else fnd S (S.1 0 1 - 1)
def rf_makeProject (S : gSt) : Int32 := if fnd S (S.1 0 1) ≠ none ∨ fndM S = none ∨ S.1 0 2 = 21 then 1 else 0
def mkC (S : gSt) (k : Nat) : gSt := cpy S 3 (8 * S.1 0 2) k (fun j => vp_nar .char (S.2.1 1 j))
def mkS (S : gSt) : gSt := sN (sN (mkC S (S.1 0 1)) 4 (S.1 0 2) (S.1 0 1)) 0 2 (S.1 0 2 + 1)
def mo_makeProject (S : gSt) : Int32 × Int32 × gSt := gd (rf_makeProject S) 0 S (nI (S.1 0 2), mkS S)
theorem fnd_lt {S : gSt} {n p : Nat} (h : fnd S n = some p) : p < S.1 0 2 := (lastP_some h).1
theorem fnd_n {S : gSt} (hB : SB S) {n : Nat} : oI (fnd S n) = -1 ↔ fnd S n = none := oI_none (fun a h => by
  have := fnd_lt h
  have := hB.2.1
  omega)
/-- only the root has no letters -/
def SL (S : gSt) : Prop := ∀ p, p < S.1 0 2 → p ≠ 0 → 1 ≤ S.1 4 p
def canM2 (S : gSt) (p t : Nat) : Bool := decide (nI (dpst S p (npj S)) + (nI (S.1 4 t + 1) - nI (S.1 4 p)) ≤ 8) && (match chd S t (S.2.1 3 (8 * p + S.1 4 p - 1)) with
  | none => true
  | some q => decide (q = p))
def canM (S : gSt) (p : Nat) : Bool := !decide (p = 0) && (match fnd S (S.1 0 1) with
  | none => false
  | some t => !wIn S t p && canM2 S p t)
theorem chd_lt {S : gSt} {q p : Nat} {c : Int32} (h : chd S q c = some p) : p < S.1 0 2 := (lastP_some h).1
theorem chd_n {S : gSt} (hB : SB S) {q : Nat} {c : Int32} : oI (chd S q c) = -1 ↔ chd S q c = none := oI_none (fun a h => by
  have := chd_lt h
  have := hB.2.1
  omega)
def ldO (S : gSt) (k i : Nat) : gSt := cpy S 2 0 i (fun j => vp_nar .char (S.2.1 3 (8 * k + j)))
def ldG (S : gSt) (k gone : Nat) : Nat → Int32 := fun j => vp_nar .char (if j < S.1 0 1 then S.2.1 1 j else (ldO S k (S.1 4 k)).2.1 2 (j - S.1 0 1 + gone))
def ldC (S : gSt) (k gone i : Nat) : gSt := cpy (ldO S k (S.1 4 k)) 3 (8 * k) i (ldG S k gone)
def ldS (S : gSt) (k gone : Nat) : gSt := sN (ldC S k gone (S.1 4 k - gone + S.1 0 1)) 4 k (S.1 4 k - gone + S.1 0 1)
theorem vnvn (x : Int32) : vp_nar .char (vp_nar .char x) = vp_nar .char x := by
  simp only [vp_nar_char]
  apply Int32.toBitVec_inj.1
  apply BitVec.eq_of_toNat_eq
  simp
theorem fa_or (a b : Nat) : nI a ||| nI b = nI (a ||| b) := by
  apply Int32.toBitVec_inj.1
  show BitVec.ofNat 32 a ||| BitVec.ofNat 32 b = BitVec.ofNat 32 (a ||| b)
  apply BitVec.eq_of_getLsbD_eq
  intro i hi
  simp [hi]
theorem s_l : ∀ n, n < 32 → ((nI n &&& 31).toBitVec.smod 32).toNat = n := by decide +kernel
def msk (S : gSt) (p : Nat) : Nat → Nat
  | 0 => 0
  | k + 1 => msk S p k ||| (if wIn S k p = true then 2 ^ k else 0)
theorem msk_lt (S : gSt) (p : Nat) : ∀ n, msk S p n < 2 ^ n := by
  intro n
  induction n with
  | zero =>
    show 0 < 2 ^ 0
    decide
  | succ n ih =>
    unfold msk
    have h1 : 2 ^ n < 2 ^ (n + 1) := Nat.pow_lt_pow_right (by decide) (Nat.lt_succ_self n)
    refine Nat.or_lt_two_pow (Nat.lt_trans ih h1) ?_
    split
    · exact h1
    · exact Nat.two_pow_pos _
theorem msk_t (S : gSt) (p i : Nat) : ∀ n, (msk S p n).testBit i = (decide (i < n) && wIn S i p) := by
  intro n
  induction n with
  | zero => simp [msk]
  | succ n ih =>
    unfold msk
    rw [Nat.testBit_or, ih]
    have e : (if wIn S n p = true then 2 ^ n else 0).testBit i = (decide (i = n) && wIn S i p) := by
      cases hw : wIn S n p with
      | true =>
        rw [if_pos rfl, Nat.testBit_two_pow]
        by_cases h : i = n
        · subst h
          rw [decide_eq_true rfl, hw]
          rfl
        · rw [decide_eq_false h, decide_eq_false (Ne.symm h)]
          rfl
      | false =>
        rw [if_neg (by decide), Nat.zero_testBit]
        by_cases h : i = n
        · subst h
          rw [hw, Bool.and_false]
        · rw [decide_eq_false h]
          rfl
    rw [e]
    by_cases h1 : i < n
    · rw [decide_eq_true h1, decide_eq_false (by omega), decide_eq_true (by omega)]
      simp
    · by_cases h2 : i = n
      · rw [decide_eq_false h1, decide_eq_true h2, decide_eq_true (by omega)]
        simp
      · rw [decide_eq_false h1, decide_eq_false h2, decide_eq_false (by omega)]
        simp
theorem msk_b {S : gSt} {p i n : Nat} (h : i < n) : msk S p n / 2 ^ i % 2 = 1 ↔ wIn S i p = true := by
  have h1 := msk_t S p i n
  rw [Nat.testBit_eq_decide_div_mod_eq, decide_eq_true h, Bool.true_and] at h1
  rw [← h1]
  exact decide_eq_true_iff.symm
def mvL (S : gSt) (p gone : Nat) : Nat → gSt
  | 0 => S
  | k + 1 => if wIn S k p = true then ldS (mvL S p gone k) k gone else mvL S p gone k
def cntW (S : gSt) (p : Nat) : Nat → Nat
  | 0 => 0
  | k + 1 => cntW S p k + (if wIn S k p = true then 1 else 0)
theorem dpst_ge {S : gSt} {q k : Nat} (hw : wIn S k q = true) : ∀ n, k < n → S.1 4 k ≤ dpst S q n := by
  intro n
  induction n with
  | zero => intro h; omega
  | succ n ih =>
    intro h
    unfold dpst
    by_cases z : k = n
    · subst z
      by_cases c : wIn S k q = true ∧ dpst S q k < S.1 4 k
      · rw [if_pos c]
        exact Nat.le_refl _
      · rw [if_neg c]
        rcases Nat.lt_or_ge (dpst S q k) (S.1 4 k) with y | y
        · exact absurd ⟨hw, y⟩ c
        · exact y
    · have h1 := ih (by omega)
      split
      · omega
      · exact h1
theorem fnd_len {S : gSt} {n t : Nat} (h : fnd S n = some t) : S.1 4 t = n := of_decide_eq_true (Bool.and_eq_true_iff.mp (lastP_some h).2).1
/-- what a move's being allowed gives -/
theorem canM_f {S : gSt} (hB : SB S) (hL : SL S) {p : Nat} (hp : p < S.1 0 2) (h : canM S p = true) : ∃ t, fnd S (S.1 0 1) = some t ∧ p ≠ 0 ∧ wIn S t p = false ∧ canM2 S p t = true ∧ ∀ k, k < S.1 0 2 → wIn S k p = true → S.1 4 p - 1 ≤ S.1 4 k ∧ S.1 4 k - (S.1 4 p - 1) + S.1 0 1 ≤ 8 := by
  obtain ⟨h1, h2⟩ := Bool.and_eq_true_iff.mp h
  cases ht : fnd S (S.1 0 1) with
  | none => rw [ht] at h2; cases h2
  | some t =>
    rw [ht] at h2
    have h2 : (!wIn S t p && canM2 S p t) = true := h2
    obtain ⟨h3, h4⟩ := Bool.and_eq_true_iff.mp h2
    have hp0 : p ≠ 0 := by
      intro z
      rw [decide_eq_true z] at h1
      cases h1
    refine ⟨t, rfl, hp0, by simpa using h3, h4, fun k hk hw => ?_⟩
    have h5 := of_decide_eq_true (Bool.and_eq_true_iff.mp h4).1
    have hl := hL p hp hp0
    have hB0 := hB
    obtain ⟨b1, b2, b3, b4, b5, b6, b7, b8⟩ := hB
    have hlp := b6 p hp
    have e1 := fnd_len ht
    have e2 := dpst_ge hw (npj S) hk
    have e3 := dpst_le hB0 p (npj S) (Nat.le_refl _)
    have e4 : S.1 4 p ≤ S.1 4 k := of_decide_eq_true (Bool.and_eq_true_iff.mp hw).1
    have e5 : nI (dpst S p (npj S)) + (nI (S.1 4 t + 1) - nI (S.1 4 p)) = nI (dpst S p (npj S) + (S.1 4 t + 1)) - nI (S.1 4 p) := by
      rw [← nI_add (dpst S p (npj S)) (S.1 4 t + 1), Int32.sub_eq_add_neg, Int32.sub_eq_add_neg, Int32.add_assoc]
    rw [e5, Int32.le_iff_toInt_le, pk_sub_toInt (by omega) (by omega)] at h5
    have : (8 : Int32).toInt = 8 := by decide
    omega
theorem SB_ld {S : gSt} (hB : SB S) {k gone : Nat} (hl : S.1 4 k - gone + S.1 0 1 ≤ 8) : SB (ldS S k gone) := by
  obtain ⟨b1, b2, b3, b4, b5, b6, b7, b8⟩ := hB
  refine ⟨b1, b2, b3, b4, b5, fun q hq => ?_, b7, b8⟩
  show up2 S.1 4 k (S.1 4 k - gone + S.1 0 1) 4 q ≤ 8
  by_cases z : q = k
  · subst z
    rw [up2_self]
    exact hl
  · rw [up2_ne _ _ (Or.inr z)]
    exact b6 q hq
theorem mvL_f {S : gSt} (hB : SB S) {p gone : Nat} (hg : ∀ k, k < S.1 0 2 → wIn S k p = true → gone ≤ S.1 4 k ∧ S.1 4 k - gone + S.1 0 1 ≤ 8) : ∀ n, n ≤ S.1 0 2 → SB (mvL S p gone n) ∧ (∀ j, n ≤ j → (mvL S p gone n).1 4 j = S.1 4 j) ∧ ∀ c j, c ≠ 4 → (mvL S p gone n).1 c j = S.1 c j := by
  intro n
  induction n with
  | zero => exact fun _ => ⟨hB, fun _ _ => rfl, fun _ _ _ => rfl⟩
  | succ n ih =>
    intro hn
    obtain ⟨i1, i2, i3⟩ := ih (by omega)
    unfold mvL
    by_cases c : wIn S n p = true
    · rw [if_pos c]
      have e := (hg n (by omega) c).2
      rw [← i2 n (Nat.le_refl _), ← i3 0 1 (by decide)] at e
      refine ⟨SB_ld i1 e, fun j hj => ?_, fun c j hc => ?_⟩
      · show up2 _ 4 n _ 4 j = _
        rw [up2_ne _ _ (Or.inr (by omega))]
        exact i2 j (by omega)
      · show up2 _ 4 n _ c j = _
        rw [up2_ne _ _ (Or.inl hc)]
        exact i3 c j hc
    · rw [if_neg c]
      exact ⟨i1, fun j hj => i2 j (by omega), i3⟩
def sameM (S : gSt) (p : Nat) : Bool := match fnd S (S.1 0 1) with
  | none => false
  | some t => decide (chd S t (S.2.1 3 (8 * p + (S.1 4 p - 1))) = some p)
def rf_moveProject (S : gSt) (x : Int32) : Int32 := if isP S x = false then 1 else if canM S x.toNatClampNeg = false then 2 else 0
def mvT (S : gSt) (p : Nat) : Int32 × gSt := if sameM S p = true then (0, lkS S) else (nI (cntW S p (S.1 0 2)), lkS (mvL S p (S.1 4 p - 1) (S.1 0 2)))
def mo_moveProject (S : gSt) (x : Int32) : Int32 × Int32 × gSt := gd (rf_moveProject S x) 0 S (mvT S x.toNatClampNeg)
theorem nd_getD {l : List Nat} (h : l.Nodup) {i j : Nat} (hi : i < l.length) (hj : j < l.length) (e : l.getD i 0 = l.getD j 0) : i = j := by
  rw [List.getD_eq_getElem?_getD, List.getD_eq_getElem?_getD, List.getElem?_eq_getElem hi, List.getElem?_eq_getElem hj] at e
  have e : l[i] = l[j] := e
  have hp := List.pairwise_iff_getElem.mp h
  rcases Nat.lt_trichotomy i j with c | c | c
  · exact absurd e (hp i j hi hj c)
  · exact c
  · exact absurd e.symm (hp j i hj hi c)
def inN (i : Nat) : gSt := (fun c j => if c = 0 ∧ j = 2 then 1 else 0, fun c j => if 12 ≤ c ∧ c ≤ 15 ∧ j < i then -1 else 0, fun _ _ => false)
theorem inN_s (i : Nat) : sI (sI (sI (sI (inN i) 12 i (-1)) 13 i (-1)) 14 i (-1)) 15 i (-1) = inN (i + 1) := by
  have e : (sI (sI (sI (sI (inN i) 12 i (-1)) 13 i (-1)) 14 i (-1)) 15 i (-1)).2.1 = (inN (i + 1)).2.1 := by
    funext c j
    show up2 (up2 (up2 (up2 _ 12 i (-1)) 13 i (-1)) 14 i (-1)) 15 i (-1) c j = if 12 ≤ c ∧ c ≤ 15 ∧ j < i + 1 then -1 else 0
    unfold up2
    by_cases h : 12 ≤ c ∧ c ≤ 15 ∧ j < i + 1
    · rw [if_pos h]
      by_cases h5 : c = 15 ∧ j = i
      · rw [if_pos h5]
      · rw [if_neg h5]
        by_cases h4 : c = 14 ∧ j = i
        · rw [if_pos h4]
        · rw [if_neg h4]
          by_cases h3 : c = 13 ∧ j = i
          · rw [if_pos h3]
          · rw [if_neg h3]
            by_cases h2 : c = 12 ∧ j = i
            · rw [if_pos h2]
            · rw [if_neg h2]
              exact if_pos (by omega)
    · rw [if_neg h, if_neg (by omega), if_neg (by omega), if_neg (by omega), if_neg (by omega)]
      exact if_neg (by omega)
  exact Prod.ext rfl (Prod.ext e rfl)
def mf0 : List Value := [.int 0, .int 0, .null, .int 0, .null, .int 0, .null, .null, .int 0, .null, .null, .null, .null, .int 0, .null, .null, .null, .null, .null, .null, .null, .int 0, .int 0]
