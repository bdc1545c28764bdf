/-! ===== the ledger's calls (11): makeProject ===== -/
theorem chr_ok : ∀ w, w < 128 → narrow .char (.int (nI w)) = .int (nI w) ∧ fits .char (.int (nI w)) = true := by decide +kernel
def a0V : Nat → Int32 := fun c => if c ≤ 3 then -1 else 0
def aP (ρ : gSt) (n : Nat) : gSt := setA (sN ρ 11 1 (n + 1)) n a0V
def aA (A : gAd) (n z : Nat) : gAd := fun k i => if k = 1 then (if i < n then A 1 i else if i = n then z else A 1 (i - 1)) else A k i
def aRe (W : gWt) (n : Nat) : Nat → Nat := fun i => if wRe W i < n then wRe W i else wRe W i + 1
def pN (ρ : gSt) (n q w : Nat) : gSt := sN (sN (sN ρ 11 2 (n + 1)) 2 n w) 3 n (q + 1)
def mkP (ρ : gSt) (q w : Nat) : gSt := pN (aP ρ (ρ.1 11 1)) (ρ.1 11 2) q w
theorem aA_o (A : gAd) {n z k i : Nat} (h : k ≠ 1) : aA A n z k i = A k i := if_neg h
theorem aA_l (A : gAd) {n z i : Nat} (h : i < n) : aA A n z 1 i = A 1 i := by
  unfold aA
  rw [if_pos rfl, if_pos h]
theorem upn_sh (ρ : gSt) {p q : Nat} (h : par ρ p = some q) : ∀ k, upn ρ p (k + 1) = upn ρ q k := by
  intro k
  induction k with
  | zero => exact h
  | succ k ih =>
    rw [upn, ih]
    rfl
section NP
variable {M : gMT} {σ σ2 : gS} {A : gAd} {ρ : gSt} {W : gWt}
theorem Raw.newA (h : Raw M σ A ρ W) (hW : RW ρ) {n z : Nat} (hn : ρ.1 11 1 = n) (hz : σ z = none) : (Raw M (gUp σ z (oB 0 acc0)) (aA A n z) (aP ρ n) (wRow W (aRe W n)) ∧ gFF σ (gUp σ z (oB 0 acc0))) ∧ ∀ k i, k ≤ 4 → i < ρ.1 11 k → cel (aA A n z) (aP ρ n) k i = cel A ρ k i := by
  have w1 := hW.1
  have hA : ∀ k i, k ≤ 4 → i < ρ.1 11 k → aA A n z k i = A k i := fun k i hk hi => by
    by_cases y : k = 1
    · subst y
      exact aA_l A (by omega)
    · exact aA_o A y
  have hcel : ∀ k i, k ≤ 4 → i < ρ.1 11 k → cel (aA A n z) (aP ρ n) k i = cel A ρ k i := fun k i hk hi => by
    have e1 : ∀ c i, c ≠ 11 → (aP ρ n).1 c i = ρ.1 c i := fun c i hc => up2_ne _ _ (Or.inl hc)
    rcases k5 hk with rfl | rfl | rfl | rfl | rfl
    · exact ledF_eq (fun j => aA_o A (by decide)) (aA_o A (by decide)) (setA_o _ _ _ (by omega)) rfl (e1 _ _ (by decide))
    · exact accW_eq (fun c h1 h2 => setA_o _ _ _ (by omega))
    · exact prjF_eq hW hi (aA_l A (by omega)) (fun q _ => aA_o A (by decide)) (e1 _ _ (by decide)) (e1 _ _ (by decide))
    · exact filF_eq hW hi (fun a ha => aA_l A (by omega)) (fun q _ => aA_o A (by decide)) (e1 _ _ (by decide)) (e1 _ _ (by decide)) (e1 _ _ (by decide)) (setA_o _ _ _ (by omega)) rfl
    · exact rsvF_eq hW hi (fun f hf => aA_o A (by decide)) (e1 _ _ (by decide)) (setA_o _ _ _ (by omega)) rfl
  refine ⟨h.newO (A' := aA A n z) (ρ' := aP ρ n) (k := 1) (n := n) (re := aRe W n) (by decide) hn hz (l := acc0) ?_ ?_ hA (fun j => aA_o A (by decide)) hcel (fun j => rfl) ?_ (fun k' hk' hne => ?_) rfl (fun i => rfl) (fun j i hj hi => ?_), hcel⟩
  · show _ = accW (aP ρ n) n
    unfold accW
    have e : ∀ c, 1 ≤ c → c ≤ 8 → (aP ρ n).2.1 c n = a0V c := fun c h1 h2 => setA_s _ _ _ ⟨h1, h2⟩
    rw [e 1 (by decide) (by decide), e 2 (by decide) (by decide), e 3 (by decide) (by decide), e 4 (by decide) (by decide), e 5 (by decide) (by decide), e 6 (by decide) (by decide), e 7 (by decide) (by decide), e 8 (by decide) (by decide)]
    rfl
  · unfold aA
    rw [if_pos rfl, if_neg (by omega), if_pos rfl]
  · exact up2_self ρ.1 11 1 (n + 1)
  · exact up2_ne _ _ (Or.inr hne)
  · obtain ⟨⟨w1, w2, w3, w4⟩, ⟨w5, w6, w7⟩, ⟨w8, w9⟩, ⟨w10, w11⟩, -⟩ := hW
    obtain ⟨j1, j2, j3⟩ := hj
    have hh : j = 1 ∨ j = 2 ∨ j = 3 ∨ j = 4 ∨ j = 5 ∨ j = 7 := by omega
    rcases hh with rfl | rfl | rfl | rfl | rfl | rfl
    · have hi : i < ρ.1 10 1 := hi
      exact aA_l A (by omega)
    · have hi : i < ρ.1 10 2 := hi
      exact aA_l A (by omega)
    · exact aA_o A (by decide)
    · exact aA_o A (by decide)
    · exact aA_o A (by decide)
    · show aA A n z 1 (aRe W n i) = A 1 (wRe W i)
      unfold aRe
      by_cases y : wRe W i < n
      · rw [if_pos y]
        exact aA_l A y
      · rw [if_neg y]
        unfold aA
        rw [if_pos rfl, if_neg (by omega), if_neg (by omega)]
        rfl
theorem Raw.newPr (h : Raw M σ A ρ W) (hW : RW ρ) {n y z q w : Nat} (hn : ρ.1 11 2 = n) (hq : q < n) (hz : σ z = none) (hy : σ y = none) (hne : z ≠ y) : ∃ A2 W2, (A2 0 0 = A 0 0 ∧ (∀ j, A2 5 j = A 5 j) ∧ A2 2 n = y) ∧ Raw M (gUp (gUp σ z (oB 0 acc0)) y (oB 1 [.int (nI n), .int (nI w), .ref z, .ref (A 2 q)])) A2 (mkP ρ q w) W2 ∧ gFF σ (gUp (gUp σ z (oB 0 acc0)) y (oB 1 [.int (nI n), .int (nI w), .ref z, .ref (A 2 q)])) := by
  have w1 := hW.1
  have w2 := hW.2.1
  obtain ⟨⟨hr1, hf1⟩, hc1⟩ := h.newA hW rfl hz
  have hy1 : gUp σ z (oB 0 acc0) y = none := by
    rw [gUp_ne _ _ (fun e => hne e.symm)]
    exact hy
  generalize gUp σ z (oB 0 acc0) = σ3 at *
  have hna : ρ.1 11 1 = 9 + n := by omega
  have hz1 : aA A (ρ.1 11 1) z 1 (9 + n) = z := by
    unfold aA
    rw [if_pos rfl, if_neg (by omega), if_pos (by omega)]
  have hA2q : aA A (ρ.1 11 1) z 2 = A 2 := by
    funext i
    exact aA_o A (by decide)
  have hA0 : aA A (ρ.1 11 1) z 0 0 = A 0 0 := aA_o A (by decide)
  have hA5 : ∀ j, aA A (ρ.1 11 1) z 5 j = A 5 j := fun j => aA_o A (by decide)
  have eMk : mkP ρ q w = pN (aP ρ (ρ.1 11 1)) n q w := by rw [mkP, hn]
  have e111 : ∀ k, k ≠ 1 → (aP ρ (ρ.1 11 1)).1 11 k = ρ.1 11 k := fun k hk => up2_ne _ _ (Or.inr hk)
  have e1111 : (aP ρ (ρ.1 11 1)).1 11 1 = ρ.1 11 1 + 1 := up2_self ρ.1 11 1 (ρ.1 11 1 + 1)
  have e1 : ∀ c i, c ≠ 11 → (aP ρ (ρ.1 11 1)).1 c i = ρ.1 c i := fun c i hc => up2_ne _ _ (Or.inl hc)
  rw [eMk]
  generalize aA A (ρ.1 11 1) z = A1 at *
  generalize wRow W (aRe W (ρ.1 11 1)) = W1 at *
  generalize hρ1 : aP ρ (ρ.1 11 1) = ρ1 at *
  have hA : ∀ k i, k ≤ 4 → i < ρ1.1 11 k → aN A1 2 n y k i = A1 k i := fun k i hk hi => aN_o A1 (by
    by_cases y : k = 2
    · subst y
      rw [e111 2 (by decide)] at hi
      exact Or.inr (by omega)
    · exact Or.inl y)
  have p1 : ∀ c i, c ≠ 11 → c ≠ 2 → c ≠ 3 → (pN ρ1 n q w).1 c i = ρ1.1 c i := fun c i h1 h2 h3 => by simp [pN, sN, up2, h1, h2, h3]
  have p2 : ∀ c i, i ≠ n → c ≠ 11 → (pN ρ1 n q w).1 c i = ρ1.1 c i := fun c i h1 h2 => by simp [pN, sN, up2, h1, h2]
  have hpar : ∀ i, i < n → par (pN ρ1 n q w) i = par ρ i := fun i hi => by
    unfold par
    rw [p2 3 i (by omega) (by decide), e1 3 i (by decide)]
  have hpar1 : ∀ i, par ρ1 i = par ρ i := fun i => by
    unfold par
    rw [e1 3 i (by decide)]
  have key := hr1.newO (A' := aN A1 2 n y) (ρ' := pN ρ1 n q w) (k := 2) (n := n) (y := y) (re := wRe W1) (by decide) (by rw [e111 2 (by decide)]; exact hn) hy1 (l := [.int (nI n), .int (nI w), .ref z, .ref (A 2 q)]) ?_ (aN_s _ _ _ _) hA (fun j => aN_o A1 (Or.inl (by decide))) (fun k i hk hi => ?_) (fun j => ?_) ?_ (fun k' hk' hne => ?_) ?_ (fun i => ?_) (fun j i hj hi => ?_)
  · refine ⟨aN A1 2 n y, wRow W1 (wRe W1), ⟨(aN_o A1 (Or.inl (by decide))).trans hA0, fun j => (aN_o A1 (Or.inl (by decide))).trans (hA5 j), aN_s _ _ _ _⟩, key.1, hf1.trans key.2⟩
  · show _ = prjF _ _ n
    have e2 : (pN ρ1 n q w).1 2 n = w := by simp [pN, sN, up2]
    have e3 : par (pN ρ1 n q w) n = some q := by
      have : (pN ρ1 n q w).1 3 n = q + 1 := by simp [pN, sN, up2]
      unfold par
      rw [this, if_neg (by omega)]
      rfl
    unfold prjF
    rw [e2, e3, aN_o A1 (Or.inl (by decide)), hz1]
    show _ = [_, _, _, va_rf (some (aN A1 2 n y 2 q))]
    rw [aN_o A1 (Or.inr (by omega)), hA2q]
    rfl
  · rcases k5 hk with rfl | rfl | rfl | rfl | rfl
    · refine ledF_eq (fun j => aN_o A1 (Or.inl (by decide))) (aN_o A1 (Or.inr (by omega))) rfl rfl (p1 _ _ (by decide) (by decide) (by decide))
    · exact accW_eq (fun c h1 h2 => rfl)
    · rw [e111 2 (by decide)] at hi
      show prjF _ _ _ = prjF _ _ _
      unfold prjF
      rw [p2 2 i (by omega) (by decide), aN_o A1 (Or.inl (by decide)), hpar i (by omega), hpar1]
      cases e9 : par ρ i with
      | none => rfl
      | some r =>
        have hlt := par_lt hW hi e9
        show [_, _, _, va_rf (some (aN A1 2 n y 2 r))] = [_, _, _, va_rf (some (A1 2 r))]
        rw [aN_o A1 (Or.inr (by omega))]
    · rw [e111 3 (by decide)] at hi
      have h6 := (hW.2.2.2.2.2.2.2.1 i hi).2.2
      show filF _ _ _ = filF _ _ _
      unfold filF
      rw [p1 4 i (by decide) (by decide) (by decide), p1 5 i (by decide) (by decide) (by decide), p1 6 i (by decide) (by decide) (by decide), aN_o A1 (Or.inl (by decide)), aN_o A1 (Or.inl (by decide)), aN_o A1 (Or.inr (by rw [e1 6 i (by decide)]; omega))]
      rfl
    · show rsvF _ _ _ = rsvF _ _ _
      unfold rsvF
      rw [p1 7 i (by decide) (by decide) (by decide), aN_o A1 (Or.inl (by decide))]
      rfl
  · exact p1 10 j (by decide) (by decide) (by decide)
  · simp [pN, sN, up2]
  · simp [pN, sN, up2, hne]
  · exact p1 0 0 (by decide) (by decide) (by decide)
  · exact p1 1 i (by decide) (by decide) (by decide)
  · obtain ⟨j1, j2, j3⟩ := hj
    have hh : j = 1 ∨ j = 2 ∨ j = 3 ∨ j = 4 ∨ j = 5 ∨ j = 7 := by omega
    rcases hh with rfl | rfl | rfl | rfl | rfl | rfl
    · exact aN_o A1 (Or.inl (by decide))
    · exact aN_o A1 (Or.inl (by decide))
    · have hi : i < ρ1.1 10 3 := hi
      rw [e1 10 3 (by decide)] at hi
      exact aN_o A1 (Or.inr (by omega))
    · exact aN_o A1 (Or.inl (by decide))
    · exact aN_o A1 (Or.inl (by decide))
    · exact aN_o A1 (Or.inl (by decide))
theorem mkP_c (ρ : gSt) (q w : Nat) {c i : Nat} (h1 : c ≠ 11) (h2 : c ≠ 2) (h3 : c ≠ 3) : (mkP ρ q w).1 c i = ρ.1 c i := by simp [mkP, aP, setA, pN, sN, up2, h1, h2, h3]
theorem mkP_i (ρ : gSt) (q w : Nat) {c i : Nat} (h1 : c ≠ 11) (h2 : i ≠ ρ.1 11 2) : (mkP ρ q w).1 c i = ρ.1 c i := by simp [mkP, aP, setA, pN, sN, up2, h1, h2]
theorem mkP_11 (ρ : gSt) (q w : Nat) {i : Nat} (h1 : i ≠ 1) (h2 : i ≠ 2) : (mkP ρ q w).1 11 i = ρ.1 11 i := by simp [mkP, aP, setA, pN, sN, up2, h1, h2]
theorem mkP_par (ρ : gSt) (q w : Nat) (hq : q < ρ.1 11 2) (p : Nat) : par (mkP ρ q w) p = if p = ρ.1 11 2 then some q else par ρ p := by
  unfold par
  by_cases z : p = ρ.1 11 2
  · have e3 : (mkP ρ q w).1 3 p = q + 1 := by simp [mkP, aP, setA, pN, sN, up2, z]
    rw [e3, if_neg (by omega), if_pos z]
    rfl
  · rw [mkP_i ρ q w (by decide) z, if_neg z]
theorem mkP_upn (hW : RW ρ) (q w : Nat) (hq : q < ρ.1 11 2) {p : Nat} (hp : p < ρ.1 11 2) : ∀ k, upn (mkP ρ q w) p k = upn ρ p k := by
  intro k
  induction k with
  | zero => rfl
  | succ k ih =>
    rw [upn, ih, upn]
    cases hu : upn ρ p k with
    | none => rfl
    | some r =>
      have := upn_lt hW hp k r hu
      show par _ r = par _ r
      rw [mkP_par ρ q w hq, if_neg (by omega)]
theorem mkP_W (hW : RW ρ) {q w : Nat} (hq : q < ρ.1 11 2) (h21 : ρ.1 11 2 < 21) (hw : w < 128) (hu : upn ρ q 8 = none) : RW (mkP ρ q w) := by
  have hW0 := hW
  obtain ⟨w1, w2, w3, w4, w5, w6, w7, w8, w9⟩ := hW
  have e1 : (mkP ρ q w).1 11 1 = ρ.1 11 1 + 1 := by simp [mkP, aP, setA, pN, sN, up2]
  have e2 : (mkP ρ q w).1 11 2 = ρ.1 11 2 + 1 := by simp [mkP, aP, setA, pN, sN, up2]
  refine ⟨?_, ?_, ?_, ?_, ?_, ?_, fun p hp => ?_, fun f hf => ?_, fun r hr => ?_⟩
  · rw [e1, e2, mkP_11 ρ q w (by decide) (by decide), mkP_c ρ q w (by decide) (by decide) (by decide), mkP_c ρ q w (by decide) (by decide) (by decide)]
    omega
  · rw [e2, mkP_c ρ q w (by decide) (by decide) (by decide)]
    omega
  · rw [mkP_11 ρ q w (by decide) (by decide), mkP_c ρ q w (by decide) (by decide) (by decide)]
    exact w3
  · rw [mkP_11 ρ q w (by decide) (by decide), mkP_c ρ q w (by decide) (by decide) (by decide)]
    exact w4
  · rw [mkP_c ρ q w (by decide) (by decide) (by decide)]
    refine ⟨w5.1, fun i hi => ?_⟩
    rw [mkP_c ρ q w (by decide) (by decide) (by decide)]
    exact w5.2 i hi
  · rw [mkP_c ρ q w (by decide) (by decide) (by decide), mkP_c ρ q w (by decide) (by decide) (by decide)]
    exact w6
  · rw [e2] at hp
    by_cases z : p = ρ.1 11 2
    · have e22 : (mkP ρ q w).1 2 p = w := by simp [mkP, aP, setA, pN, sN, up2, z]
      have e23 : (mkP ρ q w).1 3 p = q + 1 := by simp [mkP, aP, setA, pN, sN, up2, z]
      refine ⟨by rw [e22]; exact hw, by rw [e23, e2]; omega, ?_⟩
      rw [upn_sh (mkP ρ q w) (q := q) (by rw [mkP_par ρ q w hq, if_pos z]), mkP_upn hW0 q w hq hq]
      exact hu
    · rw [mkP_i ρ q w (by decide) z, mkP_i ρ q w (by decide) z, mkP_upn hW0 q w hq (by omega), e2]
      have h7 := w7 p (by omega)
      exact ⟨h7.1, by omega, h7.2.2⟩
  · rw [mkP_11 ρ q w (by decide) (by decide)] at hf
    rw [mkP_c ρ q w (by decide) (by decide) (by decide), mkP_c ρ q w (by decide) (by decide) (by decide), mkP_c ρ q w (by decide) (by decide) (by decide), e2]
    have h8 := w8 f hf
    exact ⟨h8.1, h8.2.1, by omega⟩
  · rw [mkP_11 ρ q w (by decide) (by decide)] at hr ⊢
    rw [mkP_c ρ q w (by decide) (by decide) (by decide)]
    exact w9 r hr
theorem sN_10_3 (hW : RW ρ) {n : Nat} (h1 : 1 ≤ n) (hn : n ≤ ρ.1 11 2) : RW (sN ρ 10 3 n) := by
  obtain ⟨w1, ⟨w2, w2', w2''⟩, w3, w4, w5, w6, w7, w8, w9⟩ := hW
  have hup : ∀ p' k, upn (sN ρ 10 3 n) p' k = upn ρ p' k := fun p' k => upn_c (ρ := ρ) (ρ' := sN ρ 10 3 n) (fun q => rfl) p' k
  refine ⟨w1, ⟨?_, ?_, w2''⟩, w3, w4, w5, w6, fun p' hp' => ?_, w8, w9⟩
  · show 1 ≤ up2 ρ.1 10 3 n 10 3
    rw [up2_self]
    exact h1
  · show up2 ρ.1 10 3 n 10 3 ≤ _
    rw [up2_self]
    exact hn
  · rw [hup]
    exact w7 p' hp'
theorem cho_par {p q : Nat} {c : Int32} (h : cho ρ q c = some p) : par ρ p = some q ∧ nI (ρ.1 2 p) = c := by
  have h1 := (firP_some _ _ h).2.2
  unfold choF at h1
  obtain ⟨h2, h3⟩ := Bool.and_eq_true_iff.mp h1
  exact ⟨of_decide_eq_true h2, of_decide_eq_true h3⟩
theorem pop_upn : ∀ n q, pop ρ n = some q → upn ρ q n = some 0 := by
  intro n
  induction n with
  | zero =>
    intro q h
    cases h
    rfl
  | succ n ih =>
    intro q h
    unfold pop at h
    cases hp : pop ρ n with
    | none => rw [hp] at h; cases h
    | some x =>
      rw [hp] at h
      rw [upn_sh ρ (cho_par h).1]
      exact ih x hp
theorem pop_up8 (hE : RE ρ) {n q : Nat} (h : pop ρ n = some q) (hn : n ≤ 7) : upn ρ q 8 = none := by
  refine upn_n ρ q (k := n + 1) ?_ 8 (by omega)
  rw [upn_s ρ q n (pop_upn n q h)]
  unfold par
  rw [hE.2, if_pos rfl]
end NP
def lo_makeProject (ρ : gSt) : lRes := if ρ.1 0 0 = 0 ∨ pop ρ (ρ.1 0 0) ≠ none then (eS, 0, ρ) else match pop ρ (ρ.1 0 0 - 1) with
  | none => (eS, 0, ρ)
  | some q => if 21 ≤ ρ.1 10 3 then (eS, 0, ρ) else ("", nI (ρ.1 10 3), sN (mkP ρ q (ρ.1 1 (ρ.1 0 0 - 1))) 10 3 (ρ.1 10 3 + 1))
set_option maxRecDepth 100000 in
set_option maxHeartbeats 4000000 in
theorem c_L_makeProject (l : Launch) (hfl : l.stackTraces = false) (M : gMT) (σ : gS) (A : gAd) (ρ : gSt) (W : gWt) (hr : Raw M σ A ρ W) (hW : RW ρ) (hE : RE ρ) : Con l M yX4_makeProject (.code yX4_makeProject cX4_makeProject 4 (Option.some FieldType.int)) 12 40 1000 [.ref (A 0 0)] σ (rI (lP M σ A (lo_makeProject ρ))) (lX σ (lo_makeProject ρ)) := by
  refine g_con hfl (by decide) (lv := [(0, .ref (A 0 0))]) rfl rfl (Nat.le_of_ble_eq_true rfl) (fun X hX hC hR htb => ?_)
  have b5 := hW.2.2.2.2.1
  have w2 := hW.2.1
  have e23 := hE.1.1
  obtain ⟨-, -, hbytes⟩ := hr.2.2.2.2.2
  have bad : (ρ.1 0 0 = 0 ∨ pop ρ (ρ.1 0 0) ≠ none) → G X M 4 (gQ X M 40 1000 (rI (lP M σ A (lo_makeProject ρ))) (lX σ (lo_makeProject ρ))) 0 0 σ 20 [(1, .int (nI (ρ.1 0 0))), (0, .ref (A 0 0))] [] := by
    intro hb
    exact g_throwS hC hR htb (tS (is := 95) (text := "the project is there") (by decide +kernel)) dX4_makeProject_20 dX4_makeProject_23 dX4_makeProject_24 dX4_makeProject_26 dX4_makeProject_29 (by decide) (Nat.le_of_ble_eq_true rfl) (by omega) (by omega) (lX_of (by rw [lo_makeProject, if_pos hb]) eS_n)
  refine g_aload_n (q := 1) (i := 0) hC dX4_makeProject_0 rfl rfl rfl ?_
  refine g_getf (q := 4) (v := .ref (A 5 6)) hC kg_X4_31 dX4_makeProject_1 (hr.led hW) rfl rfl ?_
  refine g_ci (q := 7) (g_runV hC kv_X4_72 md_J4_length_8abf5 (c_sb_len _ hC.fl M _ (A 5 6) _ _ _ hr.sb) (ci := 7) rfl hr.sb dX4_makeProject_4 (by decide) (by decide) (by omega) (by omega) rfl rfl (Nat.le_of_ble_eq_true rfl)) rfl (fun r σ ⟨e1, e2⟩ => ?_) (fun _ _ h9 => False.elim h9)
  subst e1 e2
  refine g_istore_n (q := 8) (i := 1) hC dX4_makeProject_7 rfl (by decide) rfl ?_
  refine g_iload_n (q := 9) (i := 1) hC dX4_makeProject_8 rfl rfl rfl ?_
  refine g_if_eq (tgt := 20) (q := 12) hC dX4_makeProject_9 (by decide) rfl (fun c_9 => ?_) (fun c_9 => ?_)
  · exact bad (Or.inl ((nI_eq (b := 0) (by omega) (by omega)).mp c_9))
  · refine g_aload_n (q := 13) (i := 0) hC dX4_makeProject_12 rfl rfl rfl ?_
    refine g_iload_n (q := 14) (i := 1) hC dX4_makeProject_13 rfl rfl rfl ?_
    have hne : ¬ ρ.1 0 0 = 0 := fun z => c_9 (by rw [z]; rfl)
    refine g_cq (q := 17) (g_runV hC kv_X4_91 md_X4_projectOfPath (c_L_projectOfPath _ hC.fl M _ A ρ W (ρ.1 0 0) hr hW (Nat.le_refl _)) (ci := 4) rfl (hr.led hW) dX4_makeProject_14 (by decide) (by decide) (by omega) (by omega) rfl rfl (Nat.le_of_ble_eq_true rfl)) rfl (fun r σ ⟨e1, e2⟩ => ?_) (fun _ _ h9 => False.elim h9)
    subst e1 e2
    refine g_ifnull (o := (pop ρ (ρ.1 0 0)).map (A 2)) (tgt := 30) (q := 20) hC dX4_makeProject_17 (by decide) rfl (fun c_17 => ?_) (fun a c_17 => ?_)
    · have h0 : pop ρ (ρ.1 0 0) = none := Option.map_eq_none_iff.mp c_17
      have ok : ¬ (ρ.1 0 0 = 0 ∨ pop ρ (ρ.1 0 0) ≠ none) := fun z => z.elim hne (fun y => y h0)
      refine g_aload_n (q := 31) (i := 0) hC dX4_makeProject_30 rfl rfl rfl ?_
      refine g_iload_n (q := 32) (i := 1) hC dX4_makeProject_31 rfl rfl rfl ?_
      refine g_iconst (q := 33) (v := nI 1) hC dX4_makeProject_32 rfl rfl ?_
      refine g_isub (q := 34) (v := (nI ((ρ.1 0 0) - 1))) hC dX4_makeProject_33 (pk_sub (by omega)) rfl ?_
      refine g_cq (q := 37) (g_runV hC kv_X4_91 md_X4_projectOfPath (c_L_projectOfPath _ hC.fl M _ A ρ W (ρ.1 0 0 - 1) hr hW (by omega)) (ci := 4) rfl (hr.led hW) dX4_makeProject_34 (by decide) (by decide) (by omega) (by omega) rfl rfl (Nat.le_of_ble_eq_true rfl)) rfl (fun r σ ⟨e1, e2⟩ => ?_) (fun _ _ h9 => False.elim h9)
      subst e1 e2
      cases e9 : pop ρ (ρ.1 0 0 - 1) with
      | none =>
        refine g_astore_nQ (q := 38) (i := 2) (o := none) hC dX4_makeProject_37 rfl (by decide) rfl ?_
        refine g_aload_nQ (q := 39) (i := 2) (o := none) hC dX4_makeProject_38 rfl rfl rfl ?_
        refine g_ifnonnull (o := none) (tgt := 52) (q := 42) hC dX4_makeProject_39 (by decide) rfl (fun a c_39 => ?_) (fun c_39 => ?_)
        · cases c_39
        · exact g_throwS hC hR htb (tS (is := 97) (text := "the parent is not there") (by decide +kernel)) dX4_makeProject_42 dX4_makeProject_45 dX4_makeProject_46 dX4_makeProject_48 dX4_makeProject_51 (by decide) (Nat.le_of_ble_eq_true rfl) (by omega) (by omega) (lX_of (by rw [lo_makeProject, if_neg ok, e9]) eS_n)
      | some q =>
        have hq := pop_lt hW _ _ e9
        refine g_astore_nQ (q := 38) (i := 2) (o := (some (A 2 q))) hC dX4_makeProject_37 rfl (by decide) rfl ?_
        refine g_aload_nQ (q := 39) (i := 2) (o := (some (A 2 q))) hC dX4_makeProject_38 rfl rfl rfl ?_
        refine g_ifnonnull (o := some (A 2 q)) (tgt := 52) (q := 42) hC dX4_makeProject_39 (by decide) rfl (fun a c_39 => ?_) (fun c_39 => ?_)
        · skip
          refine g_aload_n (q := 53) (i := 0) hC dX4_makeProject_52 rfl rfl rfl ?_
          refine g_getf (q := 56) (v := .ref (A 5 3)) hC kg_X4_19 dX4_makeProject_53 (hr.led hW) rfl rfl ?_
          refine g_ci (q := 59) (g_runV hC kv_X4_99 md_Jx4a65c_size_8abf5 (c_size _ hC.fl M _ (A 5 3) _ _ _ hr.l3) (ci := 6) rfl hr.l3 dX4_makeProject_56 (by decide) (by decide) (by omega) (by omega) rfl rfl (Nat.le_of_ble_eq_true rfl)) rfl (fun r σ ⟨e1, e2⟩ => ?_) (fun _ _ h9 => False.elim h9)
          subst e1 e2
          refine g_bipush (q := 61) (v := nI 21) hC dX4_makeProject_59 rfl rfl ?_
          refine g_icmp_lt (tgt := 74) (q := 64) hC dX4_makeProject_61 (by decide) rfl (fun c_61 => ?_) (fun c_61 => ?_)
          · have h21 : ρ.1 10 3 < 21 := Nat.lt_of_not_le (fun z => absurd c_61 (Int32.not_lt.mpr (nI_le z (by omega))))
            have eT : lo_makeProject ρ = ("", nI (ρ.1 10 3), sN (mkP ρ q (ρ.1 1 (ρ.1 0 0 - 1))) 10 3 (ρ.1 10 3 + 1)) := by rw [lo_makeProject, if_neg ok, e9]; exact if_neg (by omega)
            rw [eT]
            have hw := b5.2 (ρ.1 0 0 - 1) (by omega)
            have hb9 := hbytes (ρ.1 0 0 - 1) (by omega)
            generalize ρ.1 1 (ρ.1 0 0 - 1) = w at *
            refine g_new (q := 77) (ty := tyX1) (fs := [.int 0, .int 0, .null, .null]) hC kn_X4_56 tyX1_ok dX4_makeProject_74 (fun j hj => by
              have h : j = 0 ∨ j = 1 ∨ j = 2 ∨ j = 3 := by omega
              rcases h with rfl | rfl | rfl | rfl <;> rfl) (by omega) (by omega) rfl (fun y hy => ?_)
            have hkp : ∀ b e, σ b = some e → gUp σ y (oB 1 [.int 0, .int 0, .null, .null]) b = some e := fun b e hb => by
              rw [gUp_ne _ _ (fun z => by rw [z, hy] at hb; cases hb)]
              exact hb
            refine g_dup (q := 78) hC dX4_makeProject_77 rfl rfl ?_
            refine g_aload_n (q := 79) (i := 0) hC dX4_makeProject_78 rfl rfl rfl ?_
            refine g_getf (q := 82) hC kg_X4_19 dX4_makeProject_79 (hkp _ _ (hr.led hW)) rfl rfl ?_
            refine g_ci (q := 85) (g_runV hC kv_X4_99 md_Jx4a65c_size_8abf5 (c_size _ hC.fl M _ (A 5 3) _ _ _ (hkp _ _ hr.l3)) (ci := 6) rfl (hkp _ _ hr.l3) dX4_makeProject_82 (by decide) (by decide) (by omega) (by omega) rfl rfl (Nat.le_of_ble_eq_true rfl)) rfl (fun r σ3 ⟨e1, e2⟩ => ?_) (fun _ _ h9 => False.elim h9)
            subst e1 e2
            refine g_aload_n (q := 86) (i := 2) hC dX4_makeProject_85 rfl rfl rfl ?_
            refine g_aload_n (q := 87) (i := 0) hC dX4_makeProject_86 rfl rfl rfl ?_
            refine g_getf (q := 90) hC kg_X4_31 dX4_makeProject_87 (hkp _ _ (hr.led hW)) rfl rfl ?_
            refine g_iload_n (q := 91) (i := 1) hC dX4_makeProject_90 rfl rfl rfl ?_
            refine g_iconst (q := 92) (v := nI 1) hC dX4_makeProject_91 rfl rfl ?_
            refine g_isub (q := 93) (v := (nI ((ρ.1 0 0) - 1))) hC dX4_makeProject_92 (pk_sub (by omega)) rfl ?_
            refine g_ci (q := 96) (g_runV hC kv_X4_104 md_J4_charAt_5068e (c_sb_chr _ hC.fl M _ (A 5 6) _ _ (ρ.1 0 0 - 1) w _ _ (hkp _ _ hr.sb) (hkp _ _ hr.sv) (by omega) (by omega) hb9 hw) (ci := 7) rfl (hkp _ _ hr.sb) dX4_makeProject_93 (by decide) (by decide) (by omega) (by omega) rfl rfl (Nat.le_of_ble_eq_true rfl)) rfl (fun r σ3 ⟨e1, e2⟩ => ?_) (fun _ _ h9 => False.elim h9)
            subst e1 e2
            refine g_cv (q := 99) (g_runI hC ki_X4_58 md_X1_init (c_P_init _ hC.fl M _ y (nI (ρ.1 10 3)) (nI w) (some (A 2 q)) (gUp_self _ _ _) (chr_ok w hw)) dX4_makeProject_96 (by decide) (by decide) (by omega) (by omega) rfl rfl (Nat.le_of_ble_eq_true rfl)) rfl (fun σ4 ⟨z, hz, e4⟩ => ?_) (fun _ _ h9 => False.elim h9)
            have hne1 : z ≠ y := fun e => by rw [e, gUp_self] at hz; cases hz
            rw [gUp_ne _ _ hne1] at hz
            rw [gUp_tri (fun e => hne1 e.symm)] at e4
            obtain ⟨A2, W2, ⟨a1, a2, a3⟩, hr2, hf2⟩ := hr.newPr hW (n := ρ.1 10 3) (w := w) e23 hq hz hy hne1
            rw [show (Value.ref (A 2 q)) = va_rf (some (A 2 q)) from rfl, ← e4] at hr2 hf2
            clear hkp e4
            have hW2 := mkP_W hW (q := q) (w := w) (by omega) (by omega) hw (pop_up8 hE e9 (by omega))
            rw [← a1, ← a3]
            have e11 : (mkP ρ q w).1 11 2 = ρ.1 11 2 + 1 := by simp [mkP, aP, setA, pN, sN, up2]
            have e10 : (mkP ρ q w).1 10 3 = ρ.1 10 3 := mkP_c ρ q w (by decide) (by decide) (by decide)
            have hn5 : ρ.1 10 3 < (mkP ρ q w).1 11 2 := by omega
            generalize mkP ρ q w = ρ2 at *
            refine g_astore_n (q := 100) (i := 3) hC dX4_makeProject_99 rfl (by decide) rfl ?_
            refine g_aload_n (q := 101) (i := 0) hC dX4_makeProject_100 rfl rfl rfl ?_
            refine g_getf (q := 104) (v := .ref (A2 5 3)) hC kg_X4_19 dX4_makeProject_101 (hr2.led hW2) rfl rfl ?_
            refine g_aload_n (q := 105) (i := 3) hC dX4_makeProject_104 rfl rfl rfl ?_
            have hl3 : σ4 (A2 5 3) = some (oB 6 (lV (wMd W2 3) (wDd W2 3) (ρ.1 10 3))) := by rw [← e10]; exact hr2.l3
            have hLR := hr2.2.2.1 3 ⟨by decide, by decide, by decide⟩
            have hc3 : cntL ρ2 W2 3 = ρ.1 10 3 := e10
            have hle3 : ρ.1 10 3 ≤ wN W2 3 := by rw [← hc3]; exact hLR.2.2.1
            refine g_addG (q := 108) (ms9 := 60) hC hl3 hLR.2.1 hle3 hLR.2.2.2.1.1 (by omega) ?_ (by rw [← hc3]; exact hr2.els hW2 (j := 3) ⟨by decide, by decide, by decide⟩ (fun z => absurd z (by decide))) (hr2.gobj (k := 2) (by decide) (by decide) hn5) dX4_makeProject_105 (by omega) (by omega) (by omega) (Nat.le_of_ble_eq_true rfl) rfl (fun σ7 d2 n2 hg => ?_)
            · unfold gGrow
              split <;> omega
            · have hW7 : RW (sN ρ2 10 3 (ρ.1 10 3 + 1)) := sN_10_3 hW2 (by omega) (by omega)
              rw [← hc3] at hg
              obtain ⟨⟨W7, hr7⟩, hF7⟩ := hr2.addL (ρ' := sN ρ2 10 3 (ρ.1 10 3 + 1)) (j := 3) ⟨by decide, by decide, by decide⟩ hg (by rw [hc3]; omega) (by decide) (by rw [hc3]; rfl) (fun k i hk hi => cel_10 (A := A2) (ρ := ρ2) (ρ' := sN ρ2 10 3 (ρ.1 10 3 + 1)) (j := 3) (v := ρ.1 10 3 + 1) rfl rfl k i hk) (fun k => rfl) (fun j' hj' => up2_ne _ _ (Or.inr hj')) (by rw [e10]; exact up2_self ρ2.1 10 3 (ρ.1 10 3 + 1)) rfl (fun i => rfl)
              refine g_pop (q := 109) hC dX4_makeProject_108 rfl rfl ?_
              refine g_aload_n (q := 110) (i := 3) hC dX4_makeProject_109 rfl rfl rfl ?_
              refine g_getf (q := 113) hC kg_X4_108 dX4_makeProject_110 (hr7.prj (p := ρ.1 10 3) hn5) rfl rfl ?_
              exact g_iret hC hR dX4_makeProject_113 (by omega) (by omega) (⟨_, rfl, rfl, rfl, ⟨A2, a1, W7, hr7⟩, hf2.trans hF7⟩)
          · have h21 : 21 ≤ ρ.1 10 3 := Nat.le_of_not_lt (fun z => c_61 (nI_lt z (by decide)))
            exact g_throwS hC hR htb (tS (is := 102) (text := "there are all the projects that can be") (by decide +kernel)) dX4_makeProject_64 dX4_makeProject_67 dX4_makeProject_68 dX4_makeProject_70 dX4_makeProject_73 (by decide) (Nat.le_of_ble_eq_true rfl) (by omega) (by omega) (lX_of (by rw [lo_makeProject, if_neg ok, e9]; show (if 21 ≤ ρ.1 10 3 then (eS, 0, ρ) else _ : lRes).1 = eS; rw [if_pos h21]) eS_n)
        · cases c_39
    · exact bad (Or.inr (fun z => by rw [z] at c_17; cases c_17))
