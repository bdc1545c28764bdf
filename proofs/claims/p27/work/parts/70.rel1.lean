/-! ===== the two sides: the tree ===== -/
def pth (ρ : gSt) (p k : Nat) : Nat := ρ.1 2 ((upn ρ p (dep ρ p - 1 - k)).getD 0)
def Tr (ρ : gSt) : Prop := (∀ p, p < ρ.1 10 3 → par ρ p = none → p = 0) ∧ ∀ p q t, p < ρ.1 10 3 → q < ρ.1 10 3 → par ρ p = some t → par ρ q = some t → ρ.1 2 p = ρ.1 2 q → p = q
def Rt (ρ S : gSt) : Prop := S.1 0 2 = ρ.1 10 3 ∧ ∀ p, p < ρ.1 10 3 → S.1 4 p = dep ρ p ∧ ∀ k, k < dep ρ p → S.2.1 3 (8 * p + k) = nI (pth ρ p k)
theorem firP_iff {f : Nat → Bool} : ∀ d i, (∀ x y, f x = true → f y = true → x < i + d → y < i + d → x = y) → ∀ r, firP f d i = some r ↔ i ≤ r ∧ r < i + d ∧ f r = true := by
  intro d
  induction d with
  | zero =>
    intro i _ r
    refine ⟨fun h => (by cases h), fun h => ?_⟩
    omega
  | succ d ih =>
    intro i hu r
    refine ⟨fun h => firP_some _ _ h, fun ⟨h1, h2, h3⟩ => ?_⟩
    unfold firP
    by_cases z : f i = true
    · rw [if_pos z, hu i r z h3 (by omega) h2]
    · rw [if_neg z]
      refine (ih (i + 1) (fun x y hx hy h4 h5 => hu x y hx hy (by omega) (by omega)) r).mpr ⟨?_, by omega, h3⟩
      by_cases y : i = r
      · rw [y] at z
        exact absurd h3 z
      · omega
theorem lastP_iff {g : Nat → Bool} : ∀ n, (∀ x y, g x = true → g y = true → x < n → y < n → x = y) → ∀ r, lastP n g = some r ↔ r < n ∧ g r = true := by
  intro n
  induction n with
  | zero =>
    intro _ r
    refine ⟨fun h => (by cases h), fun h => ?_⟩
    omega
  | succ n ih =>
    intro hu r
    refine ⟨fun h => lastP_some h, fun ⟨h1, h2⟩ => ?_⟩
    unfold lastP
    by_cases z : g n = true
    · rw [if_pos z, hu n r z h2 (by omega) h1]
    · rw [if_neg z]
      refine (ih (fun x y hx hy h4 h5 => hu x y hx hy (by omega) (by omega)) r).mpr ⟨?_, h2⟩
      by_cases y : n = r
      · rw [y] at z
        exact absurd h2 z
      · omega
theorem opt_ext {a b : Option Nat} (h : ∀ r, a = some r ↔ b = some r) : a = b := by
  cases a with
  | none =>
    cases b with
    | none => rfl
    | some y => exact absurd ((h y).mpr rfl) (by simp)
  | some x => exact ((h x).mp rfl).symm
theorem allB_iff {f : Nat → Bool} : ∀ n, allB n f = true ↔ ∀ k, k < n → f k = true := by
  intro n
  induction n with
  | zero => exact ⟨fun _ k hk => absurd hk (Nat.not_lt_zero _), fun _ => rfl⟩
  | succ n ih =>
    unfold allB
    rw [Bool.and_eq_true, ih]
    refine ⟨fun ⟨h1, h2⟩ k hk => ?_, fun h => ⟨fun k hk => h k (by omega), h n (Nat.lt_succ_self _)⟩⟩
    by_cases z : k = n
    · rw [z]
      exact h2
    · exact h1 k (by omega)
section RT
variable {ρ S : gSt}
theorem np_lt (hW : RW ρ) (hE : RE ρ) {p : Nat} (hp : p < ρ.1 10 3) : p < ρ.1 11 2 := by
  have := hE.1.1
  omega
theorem np_9 (hW : RW ρ) (hE : RE ρ) {p : Nat} (hp : p < ρ.1 10 3) : upn ρ p 9 = none := (hW.2.2.2.2.2.2.1 p (np_lt hW hE hp)).2.2
theorem upn_np (hW : RW ρ) (hE : RE ρ) {p k q : Nat} (hp : p < ρ.1 10 3) (h : upn ρ p k = some q) : q < ρ.1 10 3 := by
  have h1 := upn_lt hW (np_lt hW hE hp) k q h
  have := hE.1.1
  omega
theorem par_np (hW : RW ρ) (hE : RE ρ) {p q : Nat} (hp : p < ρ.1 10 3) (h : par ρ p = some q) : q < ρ.1 10 3 := by
  have h1 := par_lt hW (np_lt hW hE hp) h
  have := hE.1.1
  omega
theorem par_dep (hW : RW ρ) (hE : RE ρ) {p q : Nat} (hp : p < ρ.1 10 3) (h : par ρ p = some q) : dep ρ p = dep ρ q + 1 := by
  have h1 : upn ρ p 1 = some q := h
  have := (dep_up (np_9 hW hE hp) h1).2
  omega
theorem dep_0 (hW : RW ρ) (hE : RE ρ) (hT : Tr ρ) {p : Nat} (hp : p < ρ.1 10 3) : dep ρ p = 0 ↔ p = 0 := by
  refine ⟨fun h => ?_, fun h => ?_⟩
  · have := dep_top (np_9 hW hE hp)
    rw [h] at this
    exact hT.1 p hp this
  · subst h
    refine dep_eq (np_9 hW hE hp) (x := 0) rfl ?_
    show par ρ 0 = none
    unfold par
    rw [hE.2, if_pos rfl]
theorem par_some (hT : Tr ρ) {p : Nat} (hp : p < ρ.1 10 3) (h0 : p ≠ 0) : ∃ q, par ρ p = some q := by
  cases h : par ρ p with
  | none => exact absurd (hT.1 p hp h) h0
  | some q => exact ⟨q, rfl⟩
theorem pth_par (hW : RW ρ) (hE : RE ρ) {p q k : Nat} (hp : p < ρ.1 10 3) (h : par ρ p = some q) (hk : k < dep ρ q) : pth ρ p k = pth ρ q k := by
  have h1 := par_dep hW hE hp h
  unfold pth
  rw [h1, show dep ρ q + 1 - 1 - k = (dep ρ q - 1 - k) + 1 by omega, upn_sh ρ h]
theorem pth_last (hW : RW ρ) (hE : RE ρ) {p q : Nat} (hp : p < ρ.1 10 3) (h : par ρ p = some q) : pth ρ p (dep ρ q) = ρ.1 2 p := by
  have h1 := par_dep hW hE hp h
  unfold pth
  rw [h1, show dep ρ q + 1 - 1 - dep ρ q = 0 by omega]
  rfl
theorem pth_lt (hW : RW ρ) (hE : RE ρ) {p k : Nat} (hp : p < ρ.1 10 3) : pth ρ p k < 128 := by
  unfold pth
  cases hu : upn ρ p (dep ρ p - 1 - k) with
  | none =>
    have := hW.2.1
    exact (hW.2.2.2.2.2.2.1 0 (by omega)).1
  | some q => exact (hW.2.2.2.2.2.2.1 q (np_lt hW hE (upn_np hW hE hp hu))).1
/-- a path is one project's -/
theorem pth_uniq (hW : RW ρ) (hE : RE ρ) (hT : Tr ρ) : ∀ d p q, p < ρ.1 10 3 → q < ρ.1 10 3 → dep ρ p = d → dep ρ q = d → (∀ k, k < d → pth ρ p k = pth ρ q k) → p = q := by
  intro d
  induction d with
  | zero =>
    intro p q hp hq h1 h2 _
    rw [(dep_0 hW hE hT hp).mp h1, (dep_0 hW hE hT hq).mp h2]
  | succ d ih =>
    intro p q hp hq h1 h2 h
    obtain ⟨p', hp'⟩ := par_some hT hp (fun z => by rw [(dep_0 hW hE hT hp).mpr z] at h1; cases h1)
    obtain ⟨q', hq'⟩ := par_some hT hq (fun z => by rw [(dep_0 hW hE hT hq).mpr z] at h2; cases h2)
    have e1 := par_dep hW hE hp hp'
    have e2 := par_dep hW hE hq hq'
    have d1 : dep ρ p' = d := by omega
    have d2 : dep ρ q' = d := by omega
    have e : p' = q' := ih p' q' (par_np hW hE hp hp') (par_np hW hE hq hq') d1 d2 (fun k hk => by
      have := h k (by omega)
      rw [pth_par hW hE hp hp' (by omega), pth_par hW hE hq hq' (by omega)] at this
      exact this)
    subst e
    have hl := h d (by omega)
    rw [← d1, pth_last hW hE hp hp', pth_last hW hE hq hq'] at hl
    exact hT.2 p q p' hp hq hp' hq' hl
theorem pth_up (hW : RW ρ) (hE : RE ρ) {p q j k : Nat} (hp : p < ρ.1 10 3) (h : upn ρ p j = some q) (hk : k < dep ρ q) : pth ρ p k = pth ρ q k := by
  have h1 := (dep_up (np_9 hW hE hp) h).2
  unfold pth
  rw [h1, show j + dep ρ q - 1 - k = j + (dep ρ q - 1 - k) by omega, upn_add ρ h]
theorem wIn_iff (hW : RW ρ) (hE : RE ρ) (hS : Rt ρ S) {p q : Nat} (hp : p < ρ.1 10 3) (hq : q < ρ.1 10 3) : wIn S p q = true ↔ dep ρ q ≤ dep ρ p ∧ ∀ k, k < dep ρ q → pth ρ p k = pth ρ q k := by
  obtain ⟨s1, s2⟩ := hS.2 p hp
  obtain ⟨t1, t2⟩ := hS.2 q hq
  unfold wIn lEq
  rw [Bool.and_eq_true, decide_eq_true_eq, allB_iff, s1, t1]
  refine ⟨fun ⟨h1, h2⟩ => ⟨h1, fun k hk => ?_⟩, fun ⟨h1, h2⟩ => ⟨h1, fun k hk => ?_⟩⟩
  · have := of_decide_eq_true (h2 k hk)
    rw [s2 k (by omega), t2 k hk] at this
    exact (nI_eq (by have := pth_lt hW hE (k := k) hp; omega) (by have := pth_lt hW hE (k := k) hq; omega)).mp this
  · rw [s2 k (by omega), t2 k hk, h2 k hk]
    exact decide_eq_true rfl
theorem wIn_wi (hW : RW ρ) (hE : RE ρ) (hT : Tr ρ) (hS : Rt ρ S) {p q : Nat} (hp : p < ρ.1 10 3) (hq : q < ρ.1 10 3) : wIn S p q = wi ρ p q := by
  rw [Bool.eq_iff_iff, wIn_iff hW hE hS hp hq, wi_iff (np_9 hW hE hp)]
  refine ⟨fun ⟨h1, h2⟩ => ?_, fun ⟨j, hj⟩ => ?_⟩
  · obtain ⟨q', hq'⟩ := dep_some ρ p (dep ρ p - dep ρ q) (by omega)
    have hn := upn_np hW hE hp hq'
    have hd := (dep_up (np_9 hW hE hp) hq').2
    have e : q' = q := pth_uniq hW hE hT (dep ρ q) q' q hn hq (by omega) rfl (fun k hk => by
      rw [← h2 k hk, pth_up hW hE hp hq' (by omega)])
    rw [e] at hq'
    exact ⟨_, hq'⟩
  · have hd := (dep_up (np_9 hW hE hp) hj).2
    exact ⟨by omega, fun k hk => pth_up hW hE hp hj hk⟩
theorem upn_1p (hW : RW ρ) (hE : RE ρ) {k t : Nat} (hk : k < ρ.1 10 3) (h1 : dep ρ k = dep ρ t + 1) (h2 : wi ρ k t = true) : par ρ k = some t := by
  obtain ⟨j, hj⟩ := (wi_iff (np_9 hW hE hk)).mp h2
  have hd := (dep_up (np_9 hW hE hk) hj).2
  have : j = 1 := by omega
  subst this
  exact hj
theorem cho_iff (hT : Tr ρ) {t : Nat} {c : Int32} (hb : ∀ p, p < ρ.1 10 3 → ρ.1 2 p < 128) (r : Nat) : cho ρ t c = some r ↔ r < ρ.1 10 3 ∧ par ρ r = some t ∧ nI (ρ.1 2 r) = c := by
  have hc : ∀ x, choF ρ t c x = true ↔ par ρ x = some t ∧ nI (ρ.1 2 x) = c := fun x => by
    unfold choF
    rw [Bool.and_eq_true, decide_eq_true_eq, decide_eq_true_eq]
  unfold cho
  rw [firP_iff _ _ (fun x y hx hy h1 h2 => ?_), hc]
  · constructor
    · rintro ⟨-, h2, h3⟩
      exact ⟨by omega, h3⟩
    · rintro ⟨h2, h3⟩
      exact ⟨Nat.zero_le _, by omega, h3⟩
  · obtain ⟨x1, x2⟩ := (hc x).mp hx
    obtain ⟨y1, y2⟩ := (hc y).mp hy
    have l1 := hb x (by omega)
    have l2 := hb y (by omega)
    exact hT.2 x y t (by omega) (by omega) x1 y1 ((nI_eq (by omega) (by omega)).mp (x2.trans y2.symm))
theorem chd_cho (hW : RW ρ) (hE : RE ρ) (hT : Tr ρ) (hS : Rt ρ S) {t : Nat} (ht : t < ρ.1 10 3) (c : Int32) : chd S t c = cho ρ t c := by
  have hb : ∀ p, p < ρ.1 10 3 → ρ.1 2 p < 128 := fun p hp => (hW.2.2.2.2.2.2.1 p (np_lt hW hE hp)).1
  have key : ∀ k, k < ρ.1 10 3 → (((decide (S.1 4 k = S.1 4 t + 1) && wIn S k t) && decide (S.2.1 3 (8 * k + S.1 4 t) = c)) = true ↔ par ρ k = some t ∧ nI (ρ.1 2 k) = c) := fun k hk => by
    obtain ⟨s1, s2⟩ := hS.2 k hk
    rw [Bool.and_eq_true, Bool.and_eq_true, decide_eq_true_eq, decide_eq_true_eq, s1, (hS.2 t ht).1, wIn_wi hW hE hT hS hk ht]
    refine ⟨fun ⟨⟨h1, h2⟩, h3⟩ => ?_, fun ⟨h1, h2⟩ => ?_⟩
    · have hp := upn_1p hW hE hk h1 h2
      rw [s2 _ (by omega), pth_last hW hE hk hp] at h3
      exact ⟨hp, h3⟩
    · have hd := par_dep hW hE hk h1
      refine ⟨⟨hd, (wi_iff (np_9 hW hE hk)).mpr ⟨1, h1⟩⟩, ?_⟩
      rw [s2 _ (by omega), pth_last hW hE hk h1]
      exact h2
  refine opt_ext (fun r => ?_)
  rw [cho_iff hT hb, chd, show npj S = ρ.1 10 3 from hS.1, lastP_iff _ (fun x y hx hy h1 h2 => ?_)]
  · exact ⟨fun ⟨h1, h2⟩ => ⟨h1, (key r h1).mp h2⟩, fun ⟨h1, h2⟩ => ⟨h1, (key r h1).mpr h2⟩⟩
  · obtain ⟨x1, x2⟩ := (key x h1).mp hx
    obtain ⟨y1, y2⟩ := (key y h2).mp hy
    have l1 := hb x h1
    have l2 := hb y h2
    exact hT.2 x y t h1 h2 x1 y1 ((nI_eq (by omega) (by omega)).mp (x2.trans y2.symm))
def Rp (ρ S : gSt) : Prop := S.1 0 1 = ρ.1 0 0 ∧ ∀ i, i < ρ.1 0 0 → S.2.1 1 i = nI (ρ.1 1 i)
theorem pop_iff (hW : RW ρ) (hE : RE ρ) (hT : Tr ρ) : ∀ n, n ≤ ρ.1 0 0 → ∀ r, pop ρ n = some r ↔ r < ρ.1 10 3 ∧ dep ρ r = n ∧ ∀ k, k < n → pth ρ r k = ρ.1 1 k := by
  have hb : ∀ p, p < ρ.1 10 3 → ρ.1 2 p < 128 := fun p hp => (hW.2.2.2.2.2.2.1 p (np_lt hW hE hp)).1
  have w2 := hW.2.1
  have w5 := hW.2.2.2.2.1.2
  intro n
  induction n with
  | zero =>
    intro _ r
    refine ⟨fun h => ?_, fun ⟨h1, h2, _⟩ => ?_⟩
    · cases h
      exact ⟨by omega, (dep_0 hW hE hT (by omega)).mpr rfl, fun k hk => absurd hk (Nat.not_lt_zero _)⟩
    · rw [(dep_0 hW hE hT h1).mp h2]
      rfl
  | succ n ih =>
    intro hn r
    have ih := ih (by omega)
    unfold pop
    have lw := w5 n (by omega)
    constructor
    · intro h
      cases hp : pop ρ n with
      | none => rw [hp] at h; cases h
      | some q =>
        rw [hp] at h
        have h : cho ρ q (nI (ρ.1 1 n)) = some r := h
        obtain ⟨h1, h2, h3⟩ := (cho_iff hT hb r).mp h
        obtain ⟨g1, g2, g3⟩ := (ih q).mp hp
        have hd := par_dep hW hE h1 h2
        have l1 := hb r h1
        refine ⟨h1, by omega, fun k hk => ?_⟩
        by_cases z : k = n
        · subst z
          have e := pth_last hW hE h1 h2
          rw [g2] at e
          rw [e]
          exact (nI_eq (by omega) (by omega)).mp h3
        · rw [pth_par hW hE h1 h2 (by omega)]
          exact g3 k (by omega)
    · rintro ⟨h1, h2, h3⟩
      obtain ⟨q, hq⟩ := par_some hT h1 (fun z => by rw [(dep_0 hW hE hT h1).mpr z] at h2; cases h2)
      have hd := par_dep hW hE h1 hq
      have hdq : dep ρ q = n := by omega
      have e : pop ρ n = some q := (ih q).mpr ⟨par_np hW hE h1 hq, hdq, fun k hk => by
        rw [← pth_par hW hE h1 hq (by omega)]
        exact h3 k (by omega)⟩
      rw [e]
      show cho ρ q (nI (ρ.1 1 n)) = some r
      refine (cho_iff hT hb r).mpr ⟨h1, hq, ?_⟩
      have e2 := pth_last hW hE h1 hq
      rw [← e2, hdq, h3 n (Nat.lt_succ_self _)]
theorem fnd_pop (hW : RW ρ) (hE : RE ρ) (hT : Tr ρ) (hS : Rt ρ S) (hP : Rp ρ S) {n : Nat} (hn : n ≤ ρ.1 0 0) : fnd S n = pop ρ n := by
  have w5 := hW.2.2.2.2.1.2
  have key : ∀ k, k < ρ.1 10 3 → (pEq S k n = true ↔ dep ρ k = n ∧ ∀ i, i < n → pth ρ k i = ρ.1 1 i) := fun k hk => by
    obtain ⟨s1, s2⟩ := hS.2 k hk
    unfold pEq bEq
    rw [Bool.and_eq_true, decide_eq_true_eq, allB_iff, s1]
    refine ⟨fun ⟨h1, h2⟩ => ⟨h1, fun i hi => ?_⟩, fun ⟨h1, h2⟩ => ⟨h1, fun i hi => ?_⟩⟩
    · have h3 := of_decide_eq_true (h2 i hi)
      rw [s2 i (by omega), hP.2 i (by omega)] at h3
      have l1 := pth_lt hW hE (k := i) hk
      have l2 := w5 i (by omega)
      exact (nI_eq (by omega) (by omega)).mp h3
    · rw [s2 i (by omega), hP.2 i (by omega), h2 i hi]
      exact decide_eq_true rfl
  refine opt_ext (fun r => ?_)
  rw [pop_iff hW hE hT n hn, fnd, show npj S = ρ.1 10 3 from hS.1, lastP_iff _ (fun x y hx hy h1 h2 => ?_)]
  · exact ⟨fun ⟨h1, h2⟩ => ⟨h1, (key r h1).mp h2⟩, fun ⟨h1, h2⟩ => ⟨h1, (key r h1).mpr h2⟩⟩
  · obtain ⟨x1, x2⟩ := (key x h1).mp hx
    obtain ⟨y1, y2⟩ := (key y h2).mp hy
    exact pth_uniq hW hE hT n x y h1 h2 x1 y1 (fun k hk => by rw [x2 k hk, y2 k hk])
theorem dpst_dpw (hW : RW ρ) (hE : RE ρ) (hT : Tr ρ) (hS : Rt ρ S) {q : Nat} (hq : q < ρ.1 10 3) : ∀ n, n ≤ ρ.1 10 3 → dpst S q n = dpw ρ q n := by
  intro n
  induction n with
  | zero => intro _; rfl
  | succ n ih =>
    intro hn
    unfold dpst dpw
    rw [ih (by omega), wIn_wi hW hE hT hS (by omega) hq, (hS.2 n (by omega)).1]
    by_cases z : wi ρ n q = true
    · rw [if_pos z]
      by_cases y : dpw ρ q n < dep ρ n
      · rw [if_pos ⟨z, y⟩, Nat.max_eq_right (by omega)]
      · rw [if_neg (fun w => y w.2), Nat.max_eq_left (by omega)]
    · rw [if_neg (fun w => z w.1), if_neg z]
theorem cntW_cnw (hW : RW ρ) (hE : RE ρ) (hT : Tr ρ) (hS : Rt ρ S) {q : Nat} (hq : q < ρ.1 10 3) : ∀ n, n ≤ ρ.1 10 3 → cntW S q n = cnw ρ q n := by
  intro n
  induction n with
  | zero => intro _; rfl
  | succ n ih =>
    intro hn
    unfold cntW cnw
    rw [ih (by omega), wIn_wi hW hE hT hS (by omega) hq]
end RT
