/-! ===== the two sides: moveProject (1): what the model's letters become ===== -/
theorem cpy_c (S : gSt) (c base k : Nat) (g : Nat → Int32) (c' i : Nat) : (cpy S c base k g).2.1 c' i = if c' = c then (if base ≤ i ∧ i < base + k then g (i - base) else S.2.1 c i) else S.2.1 c' i := rfl
theorem vn_vn (x : Int32) : vp_nar .char (vp_nar .char x) = vp_nar .char x := by
  have key : ∀ b : BitVec 32, b &&& 65535#32 &&& 65535#32 = b &&& 65535#32 := fun b => by
    rw [BitVec.and_assoc, BitVec.and_self]
  have e : ∀ y : Int32, vp_nar .char y = y &&& 65535 := fun y => lg_i2c_mask y
  rw [e, e]
  exact Int32.toBitVec_inj.mp (key _)
section RL13
variable {S : gSt} {p gone : Nat}
def nl (S : gSt) (gone x : Nat) : Nat := S.1 4 x - gone + S.1 0 1
def nv (S : gSt) (gone x j : Nat) : Int32 := vp_nar .char (if j < S.1 0 1 then S.2.1 1 j else vp_nar .char (S.2.1 3 (8 * x + (j - S.1 0 1 + gone))))
theorem ldS_1 (S : gSt) (k gone c i : Nat) : (ldS S k gone).1 c i = if c = 4 ∧ i = k then nl S gone k else S.1 c i := rfl
theorem ldS_3 (S : gSt) {k gone j : Nat} (hg : gone ≤ S.1 4 k) (hj : j < nl S gone k) : (ldS S k gone).2.1 3 (8 * k + j) = nv S gone k j := by
  show (cpy (ldO S k (S.1 4 k)) 3 (8 * k) (S.1 4 k - gone + S.1 0 1) (ldG S k gone)).2.1 3 (8 * k + j) = _
  unfold nl at hj
  rw [cpy_c, if_pos rfl, if_pos ⟨by omega, by omega⟩, show 8 * k + j - 8 * k = j by omega]
  unfold ldG nv
  by_cases z : j < S.1 0 1
  · rw [if_pos z, if_pos z]
  · rw [if_neg z, if_neg z]
    unfold ldO
    rw [cpy_c, if_pos rfl, if_pos ⟨by omega, by omega⟩, Nat.sub_zero]
theorem ldS_3o (S : gSt) {k gone i : Nat} (hi : i < 8 * k ∨ 8 * k + nl S gone k ≤ i) : (ldS S k gone).2.1 3 i = S.2.1 3 i := by
  show (cpy (ldO S k (S.1 4 k)) 3 (8 * k) (S.1 4 k - gone + S.1 0 1) (ldG S k gone)).2.1 3 i = _
  unfold nl at hi
  rw [cpy_c, if_pos rfl, if_neg (by omega)]
  rfl
theorem ldS_o (S : gSt) {k gone c i : Nat} (h2 : c ≠ 2) (h3 : c ≠ 3) : (ldS S k gone).2.1 c i = S.2.1 c i := by
  show (cpy (ldO S k (S.1 4 k)) 3 (8 * k) (S.1 4 k - gone + S.1 0 1) (ldG S k gone)).2.1 c i = _
  rw [cpy_c, if_neg h3]
  unfold ldO
  rw [cpy_c, if_neg h2]
theorem ldS_n (h : nC S) (k gone : Nat) : nC (ldS S k gone) := by
  have hO : nC (ldO S k (S.1 4 k)) := by
    intro c i
    unfold ldO
    rw [cpy_c]
    by_cases z : c = 2
    · rw [if_pos z]
      left
      split
      · exact vn_vn _
      · subst z
        exact (h 2 i).elim id (fun y => absurd rfl y.2.1)
    · rw [if_neg z]
      exact h c i
  intro c i
  show vp_nar .char ((cpy (ldO S k (S.1 4 k)) 3 (8 * k) (S.1 4 k - gone + S.1 0 1) (ldG S k gone)).2.1 c i) = _ ∨ _
  by_cases z : c = 3
  · left
    show vp_nar .char ((cpy (ldO S k (S.1 4 k)) 3 (8 * k) (S.1 4 k - gone + S.1 0 1) (ldG S k gone)).2.1 c i) = (cpy (ldO S k (S.1 4 k)) 3 (8 * k) (S.1 4 k - gone + S.1 0 1) (ldG S k gone)).2.1 c i
    rw [cpy_c, if_pos z]
    split
    · exact vn_vn _
    · exact (hO 3 i).elim id (fun y => absurd rfl y.2.2)
  · have e : (ldS S k gone).2.1 c i = (ldO S k (S.1 4 k)).2.1 c i := by
      show (cpy (ldO S k (S.1 4 k)) 3 (8 * k) (S.1 4 k - gone + S.1 0 1) (ldG S k gone)).2.1 c i = _
      rw [cpy_c, if_neg z]
    have := hO c i
    rw [← e] at this
    exact this
/-- the model behind the first k projects -/
theorem mvL_v (hn : nC S) (hl8 : ∀ x, x < S.1 0 2 → S.1 4 x ≤ 8) (hg : ∀ x, wIn S x p = true → gone ≤ S.1 4 x) (h8 : ∀ x, x < S.1 0 2 → wIn S x p = true → nl S gone x ≤ 8) : ∀ k, k ≤ S.1 0 2 → (∀ x, (mvL S p gone k).1 4 x = if x < k ∧ wIn S x p = true then nl S gone x else S.1 4 x) ∧ (∀ x j, x < k → wIn S x p = true → j < nl S gone x → (mvL S p gone k).2.1 3 (8 * x + j) = nv S gone x j) ∧ (∀ x j, ¬ (x < k ∧ wIn S x p = true) → j < 8 → (mvL S p gone k).2.1 3 (8 * x + j) = S.2.1 3 (8 * x + j)) ∧ ((∀ c i, c ≠ 4 → (mvL S p gone k).1 c i = S.1 c i) ∧ (∀ c i, c ≠ 2 → c ≠ 3 → (mvL S p gone k).2.1 c i = S.2.1 c i) ∧ (mvL S p gone k).2.2 = S.2.2) ∧ nC (mvL S p gone k) := by
  intro k
  induction k with
  | zero =>
    intro _
    refine ⟨fun x => ?_, fun x j h => absurd h (Nat.not_lt_zero _), fun _ _ _ _ => rfl, ⟨fun _ _ _ => rfl, fun _ _ _ _ => rfl, rfl⟩, hn⟩
    rw [if_neg (fun z => absurd z.1 (Nat.not_lt_zero _))]
    rfl
  | succ k ih =>
    intro hk
    obtain ⟨i1, i2, i3, ⟨i4, i5, i6⟩, i7⟩ := ih (by omega)
    unfold mvL
    by_cases w : wIn S k p = true
    · rw [if_pos w]
      have ek : (mvL S p gone k).1 4 k = S.1 4 k := by rw [i1, if_neg (fun z => absurd z.1 (Nat.lt_irrefl _))]
      have e01 : (mvL S p gone k).1 0 1 = S.1 0 1 := i4 0 1 (by decide)
      have enl : nl (mvL S p gone k) gone k = nl S gone k := by
        unfold nl
        rw [ek, e01]
      have h8k := h8 k (by omega) w
      have hgk := hg k w
      have env : ∀ j, j < nl S gone k → nv (mvL S p gone k) gone k j = nv S gone k j := fun j hj => by
        unfold nl at hj
        have hlen : S.1 4 k - gone + S.1 0 1 ≤ 8 := h8k
        unfold nv
        rw [e01, i5 1 j (by decide) (by decide)]
        by_cases z : j < S.1 0 1
        · rw [if_pos z, if_pos z]
        · rw [if_neg z, if_neg z]
          have := hl8 k (by omega)
          rw [i3 k _ (fun v => absurd v.1 (Nat.lt_irrefl _)) (by omega)]
      refine ⟨fun x => ?_, fun x j hx hw hj => ?_, fun x j hx hj => ?_, ⟨fun c i hc => ?_, fun c i h2 h3 => ?_, i6⟩, ldS_n i7 k gone⟩
      · rw [ldS_1, enl]
        by_cases z : x = k
        · rw [if_pos ⟨rfl, z⟩, if_pos ⟨by omega, by rw [z]; exact w⟩, z]
        · rw [if_neg (fun v => z v.2), i1]
          by_cases y : x < k ∧ wIn S x p = true
          · rw [if_pos y, if_pos ⟨by omega, y.2⟩]
          · rw [if_neg y, if_neg (fun v => y ⟨by omega, v.2⟩)]
      · by_cases z : x = k
        · subst z
          rw [ldS_3 _ (by rw [ek]; exact hgk) (by rw [enl]; exact hj), env j hj]
        · have := h8 x (by omega) hw
          rw [ldS_3o _ (by rw [enl]; omega)]
          exact i2 x j (by omega) hw hj
      · have hxk : x ≠ k := fun z => hx ⟨by omega, by rw [z]; exact w⟩
        rw [ldS_3o _ (by rw [enl]; omega)]
        exact i3 x j (fun v => hx ⟨by omega, v.2⟩) hj
      · rw [ldS_1, if_neg (fun v => hc v.1)]
        exact i4 c i hc
      · rw [ldS_o _ h2 h3]
        exact i5 c i h2 h3
    · rw [if_neg w]
      refine ⟨fun x => ?_, fun x j hx hw hj => ?_, fun x j hx hj => ?_, ⟨i4, i5, i6⟩, i7⟩
      · rw [i1]
        by_cases y : x < k ∧ wIn S x p = true
        · rw [if_pos y, if_pos ⟨by omega, y.2⟩]
        · rw [if_neg y, if_neg (fun v => ?_)]
          by_cases z : x = k
          · rw [z] at v
            exact w v.2
          · exact y ⟨by omega, v.2⟩
      · by_cases z : x = k
        · rw [z] at hw
          exact absurd hw w
        · exact i2 x j (by omega) hw hj
      · exact i3 x j (fun v => hx ⟨by omega, v.2⟩) hj
end RL13
