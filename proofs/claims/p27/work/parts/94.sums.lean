/-! ===== what adds up: users, groups, the root; what is within ===== -/
section SM
variable {n : Nat} {ρ S : gSt}
theorem isum_add {g h : Nat → Int32} : ∀ k, isum (fun i => g i + h i) k = isum g k + isum h k := by
  intro k
  induction k with
  | zero => rfl
  | succ k ih =>
    show isum (fun i => g i + h i) k + (g k + h k) = isum g k + g k + (isum h k + h k)
    rw [ih]
    grind
theorem isum_le {g h : Nat → Int32} {B : Int} : ∀ k : Nat, (k : Int) * B < 2 ^ 31 → (∀ i, i < k → 0 ≤ (g i).toInt ∧ (g i).toInt ≤ (h i).toInt ∧ (h i).toInt ≤ B) → (isum g k).toInt ≤ (isum h k).toInt := by
  intro k
  induction k with
  | zero => intro _ _; exact Int.le_refl _
  | succ k ih =>
    intro hB hh
    have e : ((k + 1 : Nat) : Int) * B = k * B + B := by
      rw [Int.natCast_add, Int.add_mul]
      omega
    rw [e] at hB
    obtain ⟨h1, h2, h3⟩ := hh k (Nat.lt_succ_self _)
    obtain ⟨g1, g2⟩ := isum_b (g := g) (B := B) k (by omega) (fun i hi => by have := hh i (by omega); omega)
    obtain ⟨k1, k2⟩ := isum_b (g := h) (B := B) k (by omega) (fun i hi => by have := hh i (by omega); omega)
    have ih := ih (by omega) (fun i hi => hh i (by omega))
    show (isum g k + g k).toInt ≤ (isum h k + h k).toInt
    rw [Jvm.Kit.i32_add (by omega) (by omega), Jvm.Kit.i32_add (by omega) (by omega)]
    omega
def wgt (ρ : gSt) (v : Nat → Int32) (f a : Nat) : Int32 := if ρ.2.2 8 f = false ∧ ctL ρ f a = true then v f else 0
theorem uW_wgt (f a : Nat) : uW ρ f a = wgt ρ (fun f => bub ρ f (ρ.1 10 5)) f a := rfl
theorem fW_wgt (f a : Nat) : fW ρ f a = wgt ρ (fun _ => 1) f a := rfl
theorem wgt_y {v : Nat → Int32} {f a : Nat} (h8 : ρ.2.2 8 f = false) (h : ctL ρ f a = true) : wgt ρ v f a = v f := if_pos ⟨h8, h⟩
theorem wgt_n {v : Nat → Int32} {f a : Nat} (h : ¬ ctL ρ f a = true) : wgt ρ v f a = 0 := if_neg (fun z => h z.2)
theorem wgt_d {v : Nat → Int32} {f a : Nat} (h : ¬ ρ.2.2 8 f = false) : wgt ρ v f a = 0 := if_neg (fun z => h z.1)
theorem ct_u (hw : RW ρ ∧ RE ρ) {f a : Nat} (hf : f < ρ.1 10 4) (ha : a < 6) : ctL ρ f a = true ↔ ρ.1 4 f = a := by
  rw [ctL_eq hw.1 hw.2 hf, if_pos ha]
theorem ct_g (hw : RW ρ ∧ RE ρ) {f k : Nat} (hf : f < ρ.1 10 4) (hk : k < 3) : ctL ρ f (6 + k) = true ↔ ρ.1 5 f = 6 + k := by
  rw [ctL_eq hw.1 hw.2 hf, if_neg (by omega), if_pos (by omega)]
theorem ct_p (hw : RW ρ ∧ RE ρ) {f p : Nat} (hf : f < ρ.1 10 4) : ctL ρ f (9 + p) = true ↔ wi ρ (ρ.1 6 f) p = true := by
  rw [ctL_eq hw.1 hw.2 hf, if_neg (by omega), if_neg (by omega), show 9 + p - 9 = p by omega]
theorem wgt_grp (hR : Rel n ρ S) (v : Nat → Int32) {f k : Nat} (hf : f < ρ.1 10 4) (hk : k < 3) : wgt ρ v f (6 + k) = wgt ρ v f k + wgt ρ v f (k + 3) := by
  have hw : RW ρ ∧ RE ρ := ⟨hR.1.1, hR.1.2.1⟩
  obtain ⟨r1, -, -⟩ := fl_row hw.1 hw.2 hf
  have h5 := (hR.1.2.2.2.2.2.1.2 f hf).2.1
  by_cases h8 : ρ.2.2 8 f = false
  · by_cases z : ρ.1 4 f = k
    · rw [wgt_y h8 ((ct_g hw hf hk).mpr (by omega)), wgt_y h8 ((ct_u hw hf (by omega)).mpr z), wgt_n (fun y => by have := (ct_u hw hf (by omega)).mp y; omega), Int32.add_zero]
    · by_cases y : ρ.1 4 f = k + 3
      · rw [wgt_y h8 ((ct_g hw hf hk).mpr (by omega)), wgt_n (fun w => z ((ct_u hw hf (by omega)).mp w)), wgt_y h8 ((ct_u hw hf (by omega)).mpr y), Int32.zero_add]
      · rw [wgt_n (fun w => by have := (ct_g hw hf hk).mp w; omega), wgt_n (fun w => z ((ct_u hw hf (by omega)).mp w)), wgt_n (fun w => y ((ct_u hw hf (by omega)).mp w)), Int32.add_zero]
  · rw [wgt_d h8, wgt_d h8, wgt_d h8, Int32.add_zero]
/-- all are within the root -/
theorem wi_0 (hR : Rel n ρ S) {p : Nat} (hp : p < ρ.1 10 3) : wi ρ p 0 = true := by
  obtain ⟨hW, hE, hT, -⟩ := hR.1
  have h9 := np_9 hW hE hp
  obtain ⟨q, hq⟩ := dep_some ρ p (dep ρ p) (Nat.le_refl _)
  have hd := (dep_up h9 hq).2
  have hq0 := (dep_0 hW hE hT (upn_np hW hE hp hq)).mp (by omega)
  rw [hq0] at hq
  exact (wi_iff h9).mpr ⟨_, hq⟩
theorem wgt_all (hR : Rel n ρ S) (v : Nat → Int32) {f : Nat} (hf : f < ρ.1 10 4) : wgt ρ v f 9 = wgt ρ v f 0 + wgt ρ v f 1 + wgt ρ v f 2 + wgt ρ v f 3 + wgt ρ v f 4 + wgt ρ v f 5 := by
  have hw : RW ρ ∧ RE ρ := ⟨hR.1.1, hR.1.2.1⟩
  obtain ⟨r1, -, r3⟩ := fl_row hw.1 hw.2 hf
  by_cases h8 : ρ.2.2 8 f = false
  · rw [wgt_y h8 ((ct_p (p := 0) hw hf).mpr (wi_0 hR r3))]
    have key : ∀ a, a < 6 → wgt ρ v f a = if ρ.1 4 f = a then v f else 0 := fun a ha => by
      by_cases z : ρ.1 4 f = a
      · rw [if_pos z, wgt_y h8 ((ct_u hw hf ha).mpr z)]
      · rw [if_neg z, wgt_n (fun y => z ((ct_u hw hf ha).mp y))]
    rw [key 0 (by decide), key 1 (by decide), key 2 (by decide), key 3 (by decide), key 4 (by decide), key 5 (by decide)]
    have h6 : ρ.1 4 f = 0 ∨ ρ.1 4 f = 1 ∨ ρ.1 4 f = 2 ∨ ρ.1 4 f = 3 ∨ ρ.1 4 f = 4 ∨ ρ.1 4 f = 5 := by omega
    rcases h6 with h | h | h | h | h | h <;> rw [h] <;> simp
  · rw [wgt_d h8, wgt_d h8, wgt_d h8, wgt_d h8, wgt_d h8, wgt_d h8, wgt_d h8]
    rfl
theorem wi_tr (hw : RW ρ ∧ RE ρ) {p q r : Nat} (hp : p < ρ.1 10 3) (h1 : wi ρ p q = true) (h2 : wi ρ q r = true) : wi ρ p r = true := by
  have h9 := np_9 hw.1 hw.2 hp
  obtain ⟨i, hi⟩ := (wi_iff h9).mp h1
  have hq := upn_np hw.1 hw.2 hp hi
  obtain ⟨j, hj⟩ := (wi_iff (np_9 hw.1 hw.2 hq)).mp h2
  exact (wi_iff h9).mpr ⟨i + j, by rw [upn_add ρ hi, hj]⟩
theorem wgt_in (hR : Rel n ρ S) {v : Nat → Int32} {f p q : Nat} {B : Int} (hf : f < ρ.1 10 4) (hv : 0 ≤ (v f).toInt ∧ (v f).toInt ≤ B) (h : wi ρ p q = true) : 0 ≤ (wgt ρ v f (9 + p)).toInt ∧ (wgt ρ v f (9 + p)).toInt ≤ (wgt ρ v f (9 + q)).toInt ∧ (wgt ρ v f (9 + q)).toInt ≤ B := by
  have hw : RW ρ ∧ RE ρ := ⟨hR.1.1, hR.1.2.1⟩
  obtain ⟨-, -, r3⟩ := fl_row hw.1 hw.2 hf
  have e0 : (0 : Int32).toInt = 0 := by decide
  by_cases h8 : ρ.2.2 8 f = false
  · by_cases z : wi ρ (ρ.1 6 f) p = true
    · rw [wgt_y h8 ((ct_p hw hf).mpr z), wgt_y h8 ((ct_p hw hf).mpr (wi_tr hw r3 z h))]
      omega
    · rw [wgt_n (fun y => z ((ct_p hw hf).mp y)), e0]
      by_cases y : ctL ρ f (9 + q) = true
      · rw [wgt_y h8 y]
        omega
      · rw [wgt_n y, e0]
        omega
  · rw [wgt_d h8, wgt_d h8, e0]
    omega
theorem bub_v (hn : n ≤ 600) (hR : Rel n ρ S) {f : Nat} (hf : f < ρ.1 10 4) : 0 ≤ (bub ρ f (ρ.1 10 5)).toInt ∧ (bub ρ f (ρ.1 10 5)).toInt ≤ 630000 := by
  have w4 := hR.1.1.2.2.2.1
  have := bub_b hn hR.1.1 hR.2.2.2.1 hf (ρ.1 10 5) (Nat.le_refl _)
  omega
/-! the columns of the accounts: 4 the blocks, 5 the files -/
def cW (ρ : gSt) (c : Nat) : Nat → Int32 := if c = 4 then fun f => bub ρ f (ρ.1 10 5) else fun _ => 1
theorem col_v (hR : Rel n ρ S) {c a : Nat} (hc : c = 4 ∨ c = 5) (ha : a < 9 + ρ.1 10 3) : ρ.2.1 c a = isum (fun f => wgt ρ (cW ρ c) f a) (ρ.1 10 4) := by
  obtain ⟨a1, a2, -⟩ := hR.2.2.2.2.1 a ha
  rcases hc with rfl | rfl
  · exact a1
  · exact a2
theorem cW_b (hn : n ≤ 600) (hR : Rel n ρ S) {c : Nat} (hc : c = 4 ∨ c = 5) {f : Nat} (hf : f < ρ.1 10 4) : 0 ≤ (cW ρ c f).toInt ∧ (cW ρ c f).toInt ≤ 630000 := by
  rcases hc with rfl | rfl
  · exact bub_v hn hR hf
  · exact (⟨by decide, by decide⟩ : 0 ≤ (1 : Int32).toInt ∧ (1 : Int32).toInt ≤ 630000)
theorem col_nn (hn : n ≤ 600) (hR : Rel n ρ S) {c a : Nat} (hc : c = 4 ∨ c = 5) (ha : a < 9 + ρ.1 10 3) : 0 ≤ (ρ.2.1 c a).toInt := by
  have w3 := hR.1.1.2.2.1
  rw [col_v hR hc ha]
  refine (isum_b (B := 630000) _ (by omega) (fun f hf => ?_)).1
  have := cW_b hn hR hc hf
  unfold wgt
  split
  · exact this
  · exact ⟨by decide, by decide⟩
theorem col_g (hR : Rel n ρ S) {c k : Nat} (hc : c = 4 ∨ c = 5) (hk : k < 3) : ρ.2.1 c (6 + k) = ρ.2.1 c k + ρ.2.1 c (k + 3) := by
  have w2 := hR.1.1.2.1
  rw [col_v hR hc (by omega), col_v hR hc (by omega), col_v hR hc (by omega), ← isum_add]
  exact isum_c _ (fun f hf => wgt_grp hR _ hf hk)
theorem col_r (hR : Rel n ρ S) {c : Nat} (hc : c = 4 ∨ c = 5) : isum (ρ.2.1 c) 6 = ρ.2.1 c 9 := by
  have w2 := hR.1.1.2.1
  have e9 : ρ.2.1 c 9 = ρ.2.1 c 0 + ρ.2.1 c 1 + ρ.2.1 c 2 + ρ.2.1 c 3 + ρ.2.1 c 4 + ρ.2.1 c 5 := by
    rw [col_v hR hc (by omega), col_v hR hc (a := 0) (by omega), col_v hR hc (a := 1) (by omega), col_v hR hc (a := 2) (by omega), col_v hR hc (a := 3) (by omega), col_v hR hc (a := 4) (by omega), col_v hR hc (a := 5) (by omega), ← isum_add, ← isum_add, ← isum_add, ← isum_add, ← isum_add]
    exact isum_c _ (fun f hf => wgt_all hR _ hf)
  rw [e9]
  show 0 + ρ.2.1 c 0 + ρ.2.1 c 1 + ρ.2.1 c 2 + ρ.2.1 c 3 + ρ.2.1 c 4 + ρ.2.1 c 5 = _
  rw [Int32.zero_add]
theorem col_gs (hR : Rel n ρ S) : isum (fun k => ρ.2.1 4 (6 + k)) 3 = isum (ρ.2.1 4) 6 := by
  show 0 + ρ.2.1 4 (6 + 0) + ρ.2.1 4 (6 + 1) + ρ.2.1 4 (6 + 2) = 0 + ρ.2.1 4 0 + ρ.2.1 4 1 + ρ.2.1 4 2 + ρ.2.1 4 3 + ρ.2.1 4 4 + ρ.2.1 4 5
  rw [col_g hR (Or.inl rfl) (by decide), col_g hR (Or.inl rfl) (by decide), col_g hR (Or.inl rfl) (by decide)]
  grind
theorem col_in (hn : n ≤ 600) (hR : Rel n ρ S) {c p q : Nat} (hc : c = 4 ∨ c = 5) (hp : p < ρ.1 10 3) (hq : q < ρ.1 10 3) (h : wi ρ p q = true) : (ρ.2.1 c (9 + p)).toInt ≤ (ρ.2.1 c (9 + q)).toInt := by
  have w3 := hR.1.1.2.2.1
  rw [col_v hR hc (by omega), col_v hR hc (by omega)]
  exact isum_le (B := 630000) _ (by omega) (fun f hf => wgt_in hR hf (cW_b hn hR hc hf) h)
theorem gr_b (hR : Rel n ρ S) {a : Nat} (ha : a < 9 + ρ.1 10 3) : -1 ≤ (fGrace (ρ.2.1 7 a) (ρ.2.1 8 a) (ρ.2.1 0 0)).toInt ∧ (fGrace (ρ.2.1 7 a) (ρ.2.1 8 a) (ρ.2.1 0 0)).toInt ≤ 48 := by
  obtain ⟨⟨-, -, h⟩, -⟩ := hR.2.2.2.2.2.1 a ha
  have hc := hR.2.1.2.2
  unfold fGrace
  rcases h with ⟨-, h⟩ | ⟨h1, -, h3, h4⟩
  · rw [h, if_pos rfl]
    exact ⟨by decide, by decide⟩
  · rw [h1, if_neg (by decide)]
    obtain ⟨-, e2, -⟩ := gr_v h3 h4 hc
    have h0 := iMax_nn (48 - (ρ.2.1 0 0 - ρ.2.1 8 a))
    refine ⟨by omega, ?_⟩
    unfold iMax
    split
    · omega
    · decide
/-! ===== the projects that one is within ===== -/
def cnB (g : Nat → Bool) : Nat → Nat
  | 0 => 0
  | k + 1 => cnB g k + (if g k = true then 1 else 0)
theorem cnB_le (g : Nat → Bool) : ∀ k, cnB g k ≤ k := by
  intro k
  induction k with
  | zero => exact Nat.le_refl _
  | succ k ih =>
    unfold cnB
    split <;> omega
theorem cnB_c {g h : Nat → Bool} : ∀ k, (∀ i, i < k → g i = h i) → cnB g k = cnB h k := by
  intro k
  induction k with
  | zero => intro _; rfl
  | succ k ih =>
    intro hh
    unfold cnB
    rw [ih (fun i hi => hh i (by omega)), hh k (Nat.lt_succ_self _)]
theorem cnB_0 {g : Nat → Bool} : ∀ k, (∀ i, i < k → g i = false) → cnB g k = 0 := by
  intro k
  induction k with
  | zero => intro _; rfl
  | succ k ih =>
    intro hh
    unfold cnB
    rw [ih (fun i hi => hh i (by omega)), hh k (Nat.lt_succ_self _)]
    rfl
theorem cnB_1 {g h : Nat → Bool} {x : Nat} (hx : h x = false) (hg : ∀ i, g i = true ↔ i = x ∨ h i = true) : ∀ k, cnB g k = cnB h k + (if x < k then 1 else 0) := by
  intro k
  induction k with
  | zero => rfl
  | succ k ih =>
    unfold cnB
    rw [ih]
    by_cases z : k = x
    · rw [if_pos ((hg k).mpr (Or.inl z)), z, hx, if_neg (Nat.lt_irrefl _), if_pos (Nat.lt_succ_self _)]
      rfl
    · by_cases y : h k = true
      · rw [if_pos ((hg k).mpr (Or.inr y)), if_pos y]
        by_cases w : x < k
        · rw [if_pos w, if_pos (by omega)]
        · rw [if_neg w, if_neg (by omega)]
      · rw [if_neg (fun w => ((hg k).mp w).elim z y), if_neg y]
        by_cases w : x < k
        · rw [if_pos w, if_pos (by omega)]
        · rw [if_neg w, if_neg (by omega)]
theorem wi_self (hw : RW ρ ∧ RE ρ) {p : Nat} (hp : p < ρ.1 10 3) : wi ρ p p = true := (wi_iff (np_9 hw.1 hw.2 hp)).mpr ⟨0, rfl⟩
theorem wi_dep (hw : RW ρ ∧ RE ρ) {p q : Nat} (hp : p < ρ.1 10 3) (h : wi ρ p q = true) : p = q ∨ dep ρ q < dep ρ p := by
  have h9 := np_9 hw.1 hw.2 hp
  obtain ⟨j, hj⟩ := (wi_iff h9).mp h
  have hd := (dep_up h9 hj).2
  cases j with
  | zero => exact Or.inl (Option.some.inj hj)
  | succ j => exact Or.inr (by omega)
theorem wi_anti (hw : RW ρ ∧ RE ρ) {p q : Nat} (hp : p < ρ.1 10 3) (hq : q < ρ.1 10 3) (h : wi ρ p q = true) (hne : p ≠ q) : wi ρ q p = false := by
  cases z : wi ρ q p with
  | false => rfl
  | true =>
    have h1 := wi_dep hw hp h
    have h2 := wi_dep hw hq z
    omega
theorem anc_n (hR : Rel n ρ S) : ∀ d p, dep ρ p = d → p < ρ.1 10 3 → cnB (wi ρ p) (ρ.1 10 3) = d + 1 := by
  have hw : RW ρ ∧ RE ρ := ⟨hR.1.1, hR.1.2.1⟩
  have hT := hR.1.2.2.1
  intro d
  induction d with
  | zero =>
    intro p hd hp
    have h0 : ∀ i, wi ρ p i = true ↔ i = p ∨ (fun _ => false) i = true := fun i => by
      constructor
      · intro h
        rcases wi_dep hw hp h with z | z
        · exact Or.inl z.symm
        · omega
      · rintro (h | h)
        · rw [h]
          exact wi_self hw hp
        · cases h
    rw [cnB_1 (h := fun _ => false) rfl h0, cnB_0 _ (fun _ _ => rfl), if_pos hp]
  | succ d ih =>
    intro p hd hp
    have hp0 : p ≠ 0 := fun z => by
      have := (dep_0 hw.1 hw.2 hT hp).mpr z
      omega
    obtain ⟨q, hq⟩ := par_some hT hp hp0
    have hqn := par_np hw.1 hw.2 hp hq
    have hdq := par_dep hw.1 hw.2 hp hq
    have h9 := np_9 hw.1 hw.2 hp
    have h9q := np_9 hw.1 hw.2 hqn
    have h0 : ∀ i, wi ρ p i = true ↔ i = p ∨ wi ρ q i = true := fun i => by
      rw [wi_iff h9, wi_iff h9q]
      constructor
      · rintro ⟨j, hj⟩
        cases j with
        | zero => exact Or.inl (Option.some.inj hj).symm
        | succ j =>
          rw [upn_sh ρ hq] at hj
          exact Or.inr ⟨j, hj⟩
      · rintro (h | ⟨j, hj⟩)
        · exact ⟨0, by rw [h]; rfl⟩
        · exact ⟨j + 1, by rw [upn_sh ρ hq]; exact hj⟩
    have hx : wi ρ q p = false := by
      cases z : wi ρ q p with
      | false => rfl
      | true =>
        rcases wi_dep hw hqn z with y | y
        · rw [y] at hdq
          omega
        · omega
    rw [cnB_1 hx h0, ih q (by omega) hqn, if_pos hp]
/-! ===== the letters of a path ===== -/
def ltv (ρ : gSt) (p t : Nat) : Int32 := if t < dep ρ p then nI (pth ρ p t) else 32
theorem lt_v (hw : RW ρ ∧ RE ρ) {p t : Nat} (hp : p < ρ.1 10 3) (ht : t < 2 ^ 30) : lo_letterAt ρ (nI p) (nI t) = ("", ltv ρ p t, ρ) := by
  have w2 := hw.1.2.1
  have hd := dep_8 (np_9 hw.1 hw.2 hp)
  have e := nI_toInt (n := dep ρ p) (by omega)
  have e2 := nI_toInt (n := t) (by omega)
  have e1 : (1 : Int32).toInt = 1 := by decide
  have es : (nI (dep ρ p) - 1).toInt = (dep ρ p : Int) - 1 := by rw [Jvm.Kit.i32_sub (by rw [e, e1]; omega) (by rw [e, e1]; omega), e, e1]
  unfold lo_letterAt ltv
  rw [if_neg (fun z => z.elim (fun y => by rw [inR_ok hp (by omega)] at y; cases y) (nI_pos (by omega))), nI_clamp (by omega), nI_clamp (by omega)]
  by_cases z : t < dep ρ p
  · rw [if_neg (by rw [Int32.lt_iff_toInt_lt, es, e2]; omega), if_pos z]
    rfl
  · rw [if_pos (by rw [Int32.lt_iff_toInt_lt, es, e2]; omega), if_neg z]
theorem pth_97 (h : Iv n ρ) {p t : Nat} (hp : p < ρ.1 10 3) (ht : t < dep ρ p) : 97 ≤ pth ρ p t := by
  have hw := h.w
  obtain ⟨⟨S, hR, -⟩, hl⟩ := h
  have hT := hR.1.2.2.1
  obtain ⟨q, hq⟩ := dep_some ρ p (dep ρ p - 1 - t) (by omega)
  have hd := (dep_up (np_9 hw.1 hw.2 hp) hq).2
  have hqn := upn_np hw.1 hw.2 hp hq
  unfold pth
  rw [hq]
  exact hl.2 q hqn (fun z => by
    have := (dep_0 hw.1 hw.2 hT hqn).mpr z
    omega)
theorem ltv_s (h : Iv n ρ) {p t : Nat} (hp : p < ρ.1 10 3) (ht : t < dep ρ p) : ltv ρ p t ≠ 32 := by
  have hw := h.w
  have h1 := pth_97 h hp ht
  have h2 := pth_lt hw.1 hw.2 (k := t) hp
  unfold ltv
  rw [if_pos ht]
  intro z
  have := (nI_eq (a := pth ρ p t) (b := 32) (by omega) (by omega)).mp z
  omega
theorem ltv_e {p t : Nat} (ht : ¬ t < dep ρ p) : ltv ρ p t = 32 := if_neg ht
theorem wi_ltv (h : Iv n ρ) {p q : Nat} (hp : p < ρ.1 10 3) (hq : q < ρ.1 10 3) : wi ρ p q = true ↔ ∀ s, s < dep ρ q → ltv ρ p s = ltv ρ q s := by
  have hw := h.w
  have h0 := h
  obtain ⟨⟨S, hR, -⟩, hl⟩ := h
  obtain ⟨hW, hE, hT, hS, -⟩ := hR.1
  rw [← wIn_wi hW hE hT hS hp hq, wIn_iff hW hE hS hp hq]
  constructor
  · rintro ⟨h1, h2⟩ s hs
    unfold ltv
    rw [if_pos (by omega), if_pos hs, h2 s hs]
  · intro h1
    have hle : dep ρ q ≤ dep ρ p := by
      rcases Nat.lt_or_ge (dep ρ p) (dep ρ q) with z | z
      · have e := h1 (dep ρ p) z
        rw [ltv_e (Nat.lt_irrefl _)] at e
        exact absurd e.symm (ltv_s h0 hq z)
      · exact z
    refine ⟨hle, fun s hs => ?_⟩
    have e := h1 s hs
    unfold ltv at e
    rw [if_pos (by omega), if_pos hs] at e
    have g1 := pth_lt hW hE (k := s) hp
    have g2 := pth_lt hW hE (k := s) hq
    exact (nI_eq (by omega) (by omega)).mp e
end SM
