/-! ===== the ledger's calls (8): makeFile, reserve ===== -/
def RE (ρ : gSt) : Prop := (ρ.1 11 2 = ρ.1 10 3 ∧ ρ.1 11 3 = ρ.1 10 4 ∧ ρ.1 11 4 = ρ.1 10 5) ∧ ρ.1 3 0 = 0
def aN (A : gAd) (k0 n y : Nat) : gAd := fun k i => if k = k0 ∧ i = n then y else A k i
theorem aN_o (A : gAd) {k0 n y k i : Nat} (h : k ≠ k0 ∨ i ≠ n) : aN A k0 n y k i = A k i := if_neg (fun z => h.elim (fun g => g z.1) (fun g => g z.2))
theorem aN_s (A : gAd) (k0 n y : Nat) : aN A k0 n y k0 n = y := if_pos ⟨rfl, rfl⟩
def fN (ρ : gSt) (n u g p : Nat) : gSt := sB (sI (sN (sN (sN (sN ρ 11 3 (n + 1)) 4 n u) 5 n g) 6 n p) 9 n 0) 8 n false
def rN (ρ : gSt) (n f : Nat) (b : Int32) : gSt := sB (sI (sN (sN ρ 11 4 (n + 1)) 7 n f) 10 n b) 11 n true
theorem upn_c {ρ ρ' : gSt} (h : ∀ p, ρ'.1 3 p = ρ.1 3 p) (p : Nat) : ∀ k, upn ρ' p k = upn ρ p k := by
  intro k
  induction k with
  | zero => rfl
  | succ k ih =>
    unfold upn
    rw [ih]
    cases upn ρ p k with
    | none => rfl
    | some q =>
      show par ρ' q = par ρ q
      unfold par
      rw [h]
section NF
variable {M : gMT} {σ σ2 : gS} {A : gAd} {ρ : gSt} {W : gWt}
theorem elA_lt {A' : gAd} (hW : RW ρ) (h1 : ∀ a, A' 1 a = A 1 a) (hk : ∀ k i, k ≤ 4 → k ≠ 1 → i < ρ.1 11 k → A' k i = A k i) {j i : Nat} (hj : lix j) (hi : i < cntL ρ W j) : elA A' W j i = elA A W j i := by
  obtain ⟨⟨w1, w2, w3, w4⟩, ⟨w5, w6, w7⟩, ⟨w8, w9⟩, ⟨w10, w11⟩, -⟩ := hW
  obtain ⟨j1, j2, j3⟩ := hj
  have hh : j = 1 ∨ j = 2 ∨ j = 3 ∨ j = 4 ∨ j = 5 ∨ j = 7 := by omega
  rcases hh with rfl | rfl | rfl | rfl | rfl | rfl
  · exact h1 _
  · exact h1 _
  · have hi : i < ρ.1 10 3 := hi
    exact hk 2 i (by decide) (by decide) (by omega)
  · have hi : i < ρ.1 10 4 := hi
    exact hk 3 i (by decide) (by decide) (by omega)
  · have hi : i < ρ.1 10 5 := hi
    exact hk 4 i (by decide) (by decide) (by omega)
  · exact h1 _
theorem ledF_eq {A' : gAd} {ρ' : gSt} (h5 : ∀ j, A' 5 j = A 5 j) (h2 : A' 2 0 = A 2 0) (h0 : ρ'.2.1 0 0 = ρ.2.1 0 0) (hb : ρ'.2.2 0 5 = ρ.2.2 0 5) (ht : ρ'.1 0 6 = ρ.1 0 6) : ledF A' ρ' = ledF A ρ := by
  unfold ledF
  rw [h5, h5, h5, h5, h5, h5, h5, h2, h0, hb, ht]
theorem accW_eq {ρ' : gSt} {a : Nat} (h : ∀ c, 1 ≤ c → c ≤ 8 → ρ'.2.1 c a = ρ.2.1 c a) : accW ρ' a = accW ρ a := by
  unfold accW
  rw [h 1 (by decide) (by decide), h 2 (by decide) (by decide), h 3 (by decide) (by decide), h 4 (by decide) (by decide), h 5 (by decide) (by decide), h 6 (by decide) (by decide), h 7 (by decide) (by decide), h 8 (by decide) (by decide)]
theorem prjF_eq {A' : gAd} {ρ' : gSt} (hW : RW ρ) {p : Nat} (hp : p < ρ.1 11 2) (h1 : A' 1 (9 + p) = A 1 (9 + p)) (h2 : ∀ q, q < ρ.1 11 2 → A' 2 q = A 2 q) (hl : ρ'.1 2 p = ρ.1 2 p) (h3 : ρ'.1 3 p = ρ.1 3 p) : prjF A' ρ' p = prjF A ρ p := by
  unfold prjF
  have e : par ρ' p = par ρ p := by
    unfold par
    rw [h3]
  rw [h1, hl, e]
  cases e9 : par ρ p with
  | none => rfl
  | some q =>
    show [_, _, _, va_rf (some (A' 2 q))] = [_, _, _, va_rf (some (A 2 q))]
    rw [h2 q (par_lt hW hp e9)]
theorem filF_eq {A' : gAd} {ρ' : gSt} (hW : RW ρ) {f : Nat} (hf : f < ρ.1 11 3) (h1 : ∀ a, a < ρ.1 11 1 → A' 1 a = A 1 a) (h2 : ∀ q, q < ρ.1 11 2 → A' 2 q = A 2 q) (c4 : ρ'.1 4 f = ρ.1 4 f) (c5 : ρ'.1 5 f = ρ.1 5 f) (c6 : ρ'.1 6 f = ρ.1 6 f) (c9 : ρ'.2.1 9 f = ρ.2.1 9 f) (c8 : ρ'.2.2 8 f = ρ.2.2 8 f) : filF A' ρ' f = filF A ρ f := by
  obtain ⟨w1, w2, w3⟩ := hW.2.2.2.2.2.2.2.1 f hf
  obtain ⟨v1, v2, -, -⟩ := hW.1
  have v5 := hW.2.1
  unfold filF
  rw [c4, c5, c6, c9, c8, h1 _ (by omega), h1 _ (by omega), h2 _ w3]
theorem rsvF_eq {A' : gAd} {ρ' : gSt} (hW : RW ρ) {r : Nat} (hr : r < ρ.1 11 4) (h3 : ∀ f, f < ρ.1 11 3 → A' 3 f = A 3 f) (c7 : ρ'.1 7 r = ρ.1 7 r) (c10 : ρ'.2.1 10 r = ρ.2.1 10 r) (c11 : ρ'.2.2 11 r = ρ.2.2 11 r) : rsvF A' ρ' r = rsvF A ρ r := by
  unfold rsvF
  rw [c7, c10, c11, h3 _ (hW.2.2.2.2.2.2.2.2 r hr)]
theorem k5 {k : Nat} (h : k ≤ 4) : k = 0 ∨ k = 1 ∨ k = 2 ∨ k = 3 ∨ k = 4 := by omega
theorem Raw.newF (h : Raw M σ A ρ W) (hW : RW ρ) {n y u g p : Nat} (hn : ρ.1 11 3 = n) (hy : σ y = none) : Raw M (gUp σ y (oB 3 [.int (nI n), .ref (A 1 u), .ref (A 1 g), .ref (A 2 p), .int 0, .int 0])) (aN A 3 n y) (fN ρ n u g p) W ∧ gFF σ (gUp σ y (oB 3 [.int (nI n), .ref (A 1 u), .ref (A 1 g), .ref (A 2 p), .int 0, .int 0])) := by
  have hA : ∀ k i, k ≤ 4 → i < ρ.1 11 k → aN A 3 n y k i = A k i := fun k i hk hi => aN_o A (by
    by_cases z : k = 3
    · subst z
      exact Or.inr (by omega)
    · exact Or.inl z)
  refine h.newO (A' := aN A 3 n y) (ρ' := fN ρ n u g p) (k := 3) (n := n) (re := wRe W) (by decide) hn hy (l := [.int (nI n), .ref (A 1 u), .ref (A 1 g), .ref (A 2 p), .int 0, .int 0]) ?_ (aN_s _ _ _ _) hA (fun j => aN_o A (Or.inl (by decide))) (fun k i hk hi => ?_) (fun j => ?_) ?_ (fun k' hk' hne => ?_) rfl (fun i => rfl) (fun j i hj hi => ?_)
  · show _ = filF _ _ n
    unfold filF
    have e4 : (fN ρ n u g p).1 4 n = u := by simp [fN, sN, sI, sB, up2]
    have e5 : (fN ρ n u g p).1 5 n = g := by simp [fN, sN, sI, sB, up2]
    have e6 : (fN ρ n u g p).1 6 n = p := by simp [fN, sN, sI, sB, up2]
    have e9 : (fN ρ n u g p).2.1 9 n = 0 := by simp [fN, sN, sI, sB, up2]
    have e8 : (fN ρ n u g p).2.2 8 n = false := by simp [fN, sN, sI, sB, up2]
    rw [e4, e5, e6, e9, e8, aN_o A (Or.inl (by decide)), aN_o A (Or.inl (by decide)), aN_o A (Or.inl (by decide))]
    rfl
  · rcases k5 hk with rfl | rfl | rfl | rfl | rfl
    · exact ledF_eq (fun j => aN_o A (Or.inl (by decide))) (aN_o A (Or.inl (by decide))) (by simp [fN, sN, sI, sB, up2]) (by simp [fN, sN, sI, sB, up2]) (by simp [fN, sN, sI, sB, up2])
    · exact accW_eq (fun c h1 h2 => by simp only [fN, sN, sI, sB, up2]; rw [if_neg (by omega)])
    · exact prjF_eq hW hi (aN_o A (Or.inl (by decide))) (fun q _ => aN_o A (Or.inl (by decide))) (by simp [fN, sN, sI, sB, up2]) (by simp [fN, sN, sI, sB, up2])
    · have hne : i ≠ n := by omega
      exact filF_eq hW hi (fun q _ => aN_o A (Or.inl (by decide))) (fun q _ => aN_o A (Or.inl (by decide))) (by simp [fN, sN, sI, sB, up2, hne]) (by simp [fN, sN, sI, sB, up2, hne]) (by simp [fN, sN, sI, sB, up2, hne]) (by simp [fN, sN, sI, sB, up2, hne]) (by simp [fN, sN, sI, sB, up2, hne])
    · exact rsvF_eq hW hi (fun f hf => aN_o A (Or.inr (by omega))) (by simp [fN, sN, sI, sB, up2]) (by simp [fN, sN, sI, sB, up2]) (by simp [fN, sN, sI, sB, up2])
  · simp [fN, sN, sI, sB, up2]
  · simp [fN, sN, sI, sB, up2]
  · simp [fN, sN, sI, sB, up2, hne]
  · exact elA_lt hW (fun a => aN_o A (Or.inl (by decide))) (fun k i hk _ hi => hA k i hk hi) hj hi
theorem fN_cel (hW : RW ρ) (A : gAd) {n u g p : Nat} (hn : ρ.1 11 3 = n) {k i : Nat} (hk : k ≤ 4) (hi : i < ρ.1 11 k) : cel A ρ k i = cel A (fN ρ n u g p) k i := by
  symm
  rcases k5 hk with rfl | rfl | rfl | rfl | rfl
  · exact ledF_eq (fun j => rfl) rfl (by simp [fN, sN, sI, sB, up2]) (by simp [fN, sN, sI, sB, up2]) (by simp [fN, sN, sI, sB, up2])
  · exact accW_eq (fun c h1 h2 => by simp only [fN, sN, sI, sB, up2]; rw [if_neg (by omega)])
  · exact prjF_eq hW hi rfl (fun q _ => rfl) (by simp [fN, sN, sI, sB, up2]) (by simp [fN, sN, sI, sB, up2])
  · have hne : i ≠ n := by omega
    exact filF_eq hW hi (fun q _ => rfl) (fun q _ => rfl) (by simp [fN, sN, sI, sB, up2, hne]) (by simp [fN, sN, sI, sB, up2, hne]) (by simp [fN, sN, sI, sB, up2, hne]) (by simp [fN, sN, sI, sB, up2, hne]) (by simp [fN, sN, sI, sB, up2, hne])
  · exact rsvF_eq hW hi (fun f hf => rfl) (by simp [fN, sN, sI, sB, up2]) (by simp [fN, sN, sI, sB, up2]) (by simp [fN, sN, sI, sB, up2])
theorem fN_cnt {n u g p : Nat} (hn : ρ.1 11 3 = n) (k : Nat) : ρ.1 11 k ≤ (fN ρ n u g p).1 11 k := by
  simp only [fN, sN, sI, sB, up2]
  rw [if_neg (by omega), if_neg (by omega), if_neg (by omega)]
  by_cases h : k = 3
  · rw [if_pos ⟨trivial, h⟩, h]
    omega
  · rw [if_neg (fun z => h z.2)]
    exact Nat.le_refl _
theorem cel_10 {A : gAd} {ρ ρ' : gSt} (h2 : ρ'.2 = ρ.2) {j v : Nat} (h1 : ρ'.1 = up2 ρ.1 10 j v) (k i : Nat) (hk : k ≤ 4) : cel A ρ' k i = cel A ρ k i := by
  have e : ∀ c x, c ≠ 10 → ρ'.1 c x = ρ.1 c x := fun c x h => by rw [h1]; exact up2_ne _ _ (Or.inl h)
  have ep : par ρ' i = par ρ i := by
    unfold par
    rw [e 3 i (by decide)]
  rcases k5 hk with rfl | rfl | rfl | rfl | rfl
  · exact ledF_eq (fun j => rfl) rfl (by rw [h2]) (by rw [h2]) (e _ _ (by decide))
  · exact accW_eq (fun c _ _ => by rw [h2])
  · show prjF _ _ _ = prjF _ _ _
    unfold prjF
    rw [ep, e 2 i (by decide)]
  · show filF _ _ _ = filF _ _ _
    unfold filF
    rw [e 4 i (by decide), e 5 i (by decide), e 6 i (by decide), h2]
  · show rsvF _ _ _ = rsvF _ _ _
    unfold rsvF
    rw [e 7 i (by decide), h2]
theorem fN_W (hW : RW ρ) {n u g p : Nat} (hn : ρ.1 11 3 = n) (h40 : n < 40) (hu : u < 6) (hg : 6 ≤ g ∧ g < 9) (hp : p < ρ.1 11 2) : RW (fN ρ n u g p) := by
  obtain ⟨w1, w2, ⟨w3, w3'⟩, w4, w5, w6, w7, w8, w9⟩ := hW
  have e : ∀ c i, c ≠ 11 → c ≠ 4 → c ≠ 5 → c ≠ 6 → (fN ρ n u g p).1 c i = ρ.1 c i := fun c i h1 h2 h3 h4 => by simp [fN, sN, sI, sB, up2, h1, h2, h3, h4]
  have e11 : ∀ i, i ≠ 3 → (fN ρ n u g p).1 11 i = ρ.1 11 i := fun i h => by simp [fN, sN, sI, sB, up2, h]
  have e113 : (fN ρ n u g p).1 11 3 = n + 1 := by simp [fN, sN, sI, sB, up2]
  have hup : ∀ p' k, upn (fN ρ n u g p) p' k = upn ρ p' k := fun p' k => upn_c (fun q => e 3 q (by decide) (by decide) (by decide) (by decide)) p' k
  refine ⟨⟨by rw [e11 0 (by decide)]; exact w1.1, by rw [e11 1 (by decide), e11 2 (by decide)]; exact w1.2.1, w1.2.2⟩, ⟨w2.1, by rw [e11 2 (by decide)]; exact w2.2⟩, ⟨?_, ?_⟩, ⟨by rw [e11 4 (by decide)]; exact w4.1, by rw [e11 4 (by decide)]; exact w4.2⟩, w5, w6, fun p' hp' => ?_, fun f hf => ?_, fun r hr => ?_⟩
  · rw [e113]
    show ρ.1 10 4 ≤ _
    omega
  · rw [e113]
    omega
  · rw [e11 2 (by decide)] at hp' ⊢
    rw [hup]
    exact w7 p' hp'
  · rw [e113] at hf
    rw [e11 2 (by decide)]
    by_cases z : f = n
    · subst z
      have e4 : (fN ρ f u g p).1 4 f = u := by simp [fN, sN, sI, sB, up2]
      have e5 : (fN ρ f u g p).1 5 f = g := by simp [fN, sN, sI, sB, up2]
      have e6 : (fN ρ f u g p).1 6 f = p := by simp [fN, sN, sI, sB, up2]
      rw [e4, e5, e6]
      exact ⟨hu, hg, hp⟩
    · have e4 : (fN ρ n u g p).1 4 f = ρ.1 4 f := by simp [fN, sN, sI, sB, up2, z]
      have e5 : (fN ρ n u g p).1 5 f = ρ.1 5 f := by simp [fN, sN, sI, sB, up2, z]
      have e6 : (fN ρ n u g p).1 6 f = ρ.1 6 f := by simp [fN, sN, sI, sB, up2, z]
      rw [e4, e5, e6]
      exact w8 f (by omega)
  · rw [e11 4 (by decide)] at hr
    rw [e113, e 7 r (by decide) (by decide) (by decide) (by decide)]
    have := w9 r hr
    omega
theorem sN_10_4 (hW : RW ρ) {n : Nat} (hn : n ≤ ρ.1 11 3) (hn2 : ρ.1 10 4 ≤ n) : RW (sN ρ 10 4 n) := by
  obtain ⟨w1, w2, ⟨w3, w3'⟩, w4, w5, w6, w7, w8, w9⟩ := hW
  have hup : ∀ p' k, upn (sN ρ 10 4 n) p' k = upn ρ p' k := fun p' k => upn_c (ρ := ρ) (ρ' := sN ρ 10 4 n) (fun q => rfl) p' k
  refine ⟨w1, w2, ⟨?_, w3'⟩, w4, w5, ?_, fun p' hp' => ?_, w8, w9⟩
  · show up2 ρ.1 10 4 n 10 4 ≤ _
    rw [up2_self]
    exact hn
  · show _ ≤ up2 ρ.1 10 4 n 10 4
    rw [up2_self]
    exact Nat.le_trans w6 hn2
  · rw [hup]
    exact w7 p' hp'
theorem sN_10_5 (hW : RW ρ) {n : Nat} (hn : n ≤ ρ.1 11 4) : RW (sN ρ 10 5 n) := by
  obtain ⟨w1, w2, w3, ⟨w4, w4'⟩, w5, w6, w7, w8, w9⟩ := hW
  have hup : ∀ p' k, upn (sN ρ 10 5 n) p' k = upn ρ p' k := fun p' k => upn_c (ρ := ρ) (ρ' := sN ρ 10 5 n) (fun q => rfl) p' k
  refine ⟨w1, w2, w3, ⟨?_, w4'⟩, w5, w6, fun p' hp' => ?_, w8, w9⟩
  · show up2 ρ.1 10 5 n 10 5 ≤ _
    rw [up2_self]
    exact hn
  · rw [hup]
    exact w7 p' hp'
end NF
