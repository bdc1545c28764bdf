/-! ===== the two sides: write, reserve, settle, delete ===== -/
def bt (ρ : gSt) (f i : Nat) : Int32 := if ρ.2.2 11 i = true ∧ ρ.1 7 i = f then ρ.2.1 10 i else 0
section RL9
variable {n : Nat} {ρ ρ' ρ1 S S' S1 : gSt}
theorem bub_s (f : Nat) : ∀ k, bub ρ f k = ρ.2.1 9 f + isum (bt ρ f) k := by
  intro k
  induction k with
  | zero =>
    show ρ.2.1 9 f = ρ.2.1 9 f + 0
    rw [Int32.add_zero]
  | succ k ih =>
    show bub ρ f k + bt ρ f k = ρ.2.1 9 f + (isum (bt ρ f) k + bt ρ f k)
    rw [ih, Int32.add_assoc]
theorem ct_1 (h : ρ'.1 = ρ.1) (i a : Nat) : ctL ρ' i a = ctL ρ i a := (row_c (by rw [h]) (by rw [h]) (by rw [h]) (fun k => upn_1 h _ k)).2.2 a
theorem Rs_fr (h : Rs ρ S) (hW' : RW ρ') (hE' : RE ρ') (l0 : ρ'.1 0 0 = ρ.1 0 0) (l : ∀ c i, c = 1 ∨ c = 2 ∨ c = 3 → ρ'.1 c i = ρ.1 c i) (l10 : ρ'.1 10 3 = ρ.1 10 3) (m : S'.1 0 1 = S.1 0 1 ∧ S'.1 0 2 = S.1 0 2) (m4 : ∀ p, S'.1 4 p = S.1 4 p) (m3 : ∀ c i, c = 1 ∨ c = 3 → S'.2.1 c i = S.2.1 c i) (hF' : Rf ρ' S') (hR' : Rr ρ' S') : Rs ρ' S' := by
  obtain ⟨hW, hE, hT, ht, hp, hF, hR⟩ := h
  have h3 : ∀ q, ρ'.1 3 q = ρ.1 3 q := fun q => l 3 q (by decide)
  have h2 : ∀ q, ρ'.1 2 q = ρ.1 2 q := fun q => l 2 q (by decide)
  refine ⟨hW', hE', ⟨fun p hp h0 => ?_, fun p q t hp hq hp1 hq1 he => ?_⟩, ⟨by rw [m.2, l10]; exact ht.1, fun p hp => ?_⟩, ⟨by rw [m.1, l0]; exact hp.1, fun i hi => ?_⟩, hF', hR'⟩
  · rw [l10] at hp
    rw [par_c h3] at h0
    exact hT.1 p hp h0
  · rw [l10] at hp hq
    rw [par_c h3] at hp1 hq1
    rw [h2, h2] at he
    exact hT.2 p q t hp hq hp1 hq1 he
  · rw [l10] at hp
    rw [m4, dep_c h3]
    refine ⟨(ht.2 p hp).1, fun k hk => ?_⟩
    rw [m3 3 _ (by decide), pth_c h3 h2]
    exact (ht.2 p hp).2 k hk
  · rw [l0] at hi
    rw [m3 1 i (by decide), l 1 i (by decide)]
    exact hp.2 i hi
theorem uW_d {f a : Nat} {d : Int32} (hl : ρ.2.2 8 f = false) (hl' : ρ1.2.2 8 f = false) (hc : ctL ρ1 f a = ctL ρ f a) (hb : bub ρ1 f (ρ1.1 10 5) = bub ρ f (ρ.1 10 5) + d) : uW ρ1 f a = uW ρ f a + (if ctL ρ1 f a = true then d else 0) ∧ fW ρ1 f a = fW ρ f a + (if ctL ρ1 f a = true then 0 else 0) := by
  unfold uW fW
  rw [hc, hl, hl', hb]
  by_cases z : ctL ρ f a = true
  · rw [if_pos z, if_pos z, if_pos ⟨rfl, z⟩, if_pos ⟨rfl, z⟩, if_pos ⟨rfl, z⟩, Int32.add_zero]
    exact ⟨rfl, rfl⟩
  · rw [if_neg z, if_neg z, if_neg (fun y => z y.2), if_neg (fun y => z y.2), if_neg (fun y => z y.2), Int32.add_zero]
    exact ⟨rfl, rfl⟩
theorem Bd.w (h : Bd n ρ) {f : Nat} {b v : Int32} (hn : n ≤ 600) (hf : f < ρ.1 10 4) (hv : v = ρ.2.1 9 f + b) (h1 : b.toInt ≤ 1000) (h2 : -1000 ≤ b.toInt) (h0 : 0 ≤ v.toInt) : v.toInt ≤ 1000 * ((n + 1 : Nat) : Int) := by
  have := h.1 f hf
  rw [hv, Jvm.Kit.i32_add (by omega) (by omega)]
  omega
/-- the rows' bars are the same -/
theorem bar_row (h : Rel n ρ S) (hn : n ≤ 600) {ρ' : gSt} (h1 : ∀ c q, c = 3 → ρ'.1 c q = ρ.1 c q) (h2 : ρ'.2.1 = ρ.2.1 ∨ ∀ c a, c ≤ 8 → ρ'.2.1 c a = ρ.2.1 c a) {f o p : Nat} (ho : o < 6) (h4 : ρ'.1 4 f = o) (h5 : ρ'.1 5 f = 6 + o % 3) (h6 : ρ'.1 6 f = p) (hp : p < ρ.1 10 3) (b mr : Int32) : brr S o p b mr 12 0 = bpl ρ' f b mr := by
  obtain ⟨hW, hE, hT, ht, hpp, hF, hR⟩ := h.1
  have hcol : ∀ c a, c ≤ 8 → ρ'.2.1 c a = ρ.2.1 c a := by
    rcases h2 with h2 | h2
    · intro c a _
      rw [h2]
    · exact h2
  have hr := askd_row hW hE hT ht (ρ' := ρ') (fun q => h1 3 q rfl) h4 h5 h6 hp
  refine brr_fir (rowN_le ρ' f) hr (fun j hj => ?_)
  have ha : rowE ρ' f j < 9 + ρ.1 10 3 := by
    have e := hr j
    rw [if_pos hj] at e
    have := askd_lt ho e
    rw [ht.1] at this
    exact this
  have hA := h.2.2.2.2.2.1 (rowE ρ' f j) ha
  have e : barA ρ' (rowE ρ' f j) b mr = barA ρ (rowE ρ' f j) b mr := by
    unfold barA
    rw [hcol 2 _ (by decide), hcol 3 _ (by decide), hcol 4 _ (by decide), hcol 5 _ (by decide), hcol 7 _ (by decide), hcol 8 _ (by decide), hcol 0 _ (by decide)]
  show barA ρ' _ b mr = _
  rw [e]
  refine bar_eq hA.1 h.2.1 (h.u ha) ?_ (h.f ha)
  rw [(h.2.2.2.2.1 _ ha).1]
  exact usum_b hn hW h.2.2.2.1 _ _ (Nat.le_refl _)
theorem br_eq {w : Int32} {X : gSt} {Y : gSt} {o : Option Nat} {v : Int32} {cd : String → Int32} (h : Rel n ρ S) (hr : o = none → Rel (n + 1) X Y) (hw : w = 0) : Mt cd n ρ (lb2 ρ o (v, X)) (gd w 0 S (br2 S o (v, Y))) := by
  rw [gd0 hw]
  cases o with
  | none => exact Or.inl ⟨rfl, rfl, rfl, hr rfl⟩
  | some j => exact Or.inl ⟨rfl, rfl, rfl, h.mono⟩
theorem m_write (h : Rel n ρ S) (hn : n ≤ 600) {cd : String → Int32} (hi : cd eI = 1) (hA : cd eA = 2) (x b : Int32) : Mt cd n ρ (lo_write ρ x b) (mo_write S x b) := by
  have hFq := isF_eq h x
  by_cases z : lvf ρ x = false
  · exact Mt.no (z := 0) (w := 1) (S := S) (E := eI) (by rw [lo_write, if_pos z]) eI_n (by rw [mo_write, rf_write, hFq, if_pos z]; rfl) hi.symm h
  · obtain ⟨f, hf, ex, ec, hl⟩ := lvf_nI h.1.1 (by simpa using z)
    obtain ⟨f1, f2, f3, f4, f5⟩ := h.1.2.2.2.2.2.1.2 f hf
    obtain ⟨r1, r2, r3⟩ := fl_row h.1.1 h.1.2.1 hf
    have em : may S f b = false ↔ (b < -1000 ∨ 1000 < b ∨ ρ.2.1 9 f + b < 0) := by
      unfold may
      rw [Bool.and_eq_false_iff, Bool.and_eq_false_iff, decide_eq_false_iff_not, decide_eq_false_iff_not, decide_eq_false_iff_not, Int32.not_le, Int32.not_le, Int32.not_le, f4, or_assoc]
    by_cases y : b < -1000 ∨ 1000 < b ∨ ρ.2.1 9 f + b < 0
    · exact Mt.no (z := 0) (w := 2) (S := S) (E := eA) (by rw [lo_write, if_neg z, ec, if_pos y]) eA_n (by rw [mo_write, rf_write, hFq, if_neg z, ec, if_pos (em.mpr y)]; rfl) hA.symm h
    · have y1 : -1000 ≤ b := Int32.not_lt.mp (fun w => y (Or.inl w))
      have y2 : b ≤ 1000 := Int32.not_lt.mp (fun w => y (Or.inr (Or.inl w)))
      have y3 : 0 ≤ ρ.2.1 9 f + b := Int32.not_lt.mp (fun w => y (Or.inr (Or.inr w)))
      rw [Int32.le_iff_toInt_le] at y1 y2 y3
      have e1 : (-1000 : Int32).toInt = -1000 := by decide
      have e2 : (1000 : Int32).toInt = 1000 := by decide
      have e0 : (0 : Int32).toInt = 0 := by decide
      rw [lo_write, if_neg z, ec, if_neg y, mo_write, ec, f1, f3, f4, bar_row h hn (fun _ _ _ => rfl) (Or.inl rfl) r1 rfl f2 rfl r3 b 0]
      refine br_eq h (fun _ => ?_) (by rw [rf_write, hFq, if_neg z, ec, if_neg (fun w => y (em.mp w))])
      have hbv := h.2.2.2.1.w hn hf rfl (by omega) (by omega) (by omega : 0 ≤ (ρ.2.1 9 f + b).toInt)
      have e9 : ∀ i, (sI ρ 9 f (ρ.2.1 9 f + b)).2.1 9 i = if i = f then ρ.2.1 9 f + b else ρ.2.1 9 i := fun i => by
        show up2 ρ.2.1 9 f (ρ.2.1 9 f + b) 9 i = _
        by_cases w : i = f
        · rw [if_pos w, w, up2_self]
        · rw [if_neg w, up2_ne _ _ (Or.inr w)]
      have e7 : ∀ i, (sI S 7 f (ρ.2.1 9 f + b)).2.1 7 i = if i = f then ρ.2.1 9 f + b else S.2.1 7 i := fun i => by
        show up2 S.2.1 7 f (ρ.2.1 9 f + b) 7 i = _
        by_cases w : i = f
        · rw [if_pos w, w, up2_self]
        · rw [if_neg w, up2_ne _ _ (Or.inr w)]
      have hs1 : Rs (sI ρ 9 f (ρ.2.1 9 f + b)) (sI S 7 f (ρ.2.1 9 f + b)) := by
        refine Rs_fr h.1 (RW_1 rfl h.1.1) h.1.2.1 rfl (fun _ _ _ => rfl) rfl ⟨rfl, rfl⟩ (fun _ => rfl) (fun c i hc => up2_ne _ _ (Or.inl (by omega))) ⟨h.1.2.2.2.2.2.1.1, fun i hi => ?_⟩ ⟨h.1.2.2.2.2.2.2.1, fun r hr => ?_⟩
        · obtain ⟨g1, g2, g3, g4, g5⟩ := h.1.2.2.2.2.2.1.2 i hi
          refine ⟨g1, g2, g3, ?_, g5⟩
          rw [e9, e7, g4]
        · obtain ⟨g1, g2, g3⟩ := h.1.2.2.2.2.2.2.2 r hr
          refine ⟨g1, ?_, g3⟩
          show up2 S.2.1 7 f (ρ.2.1 9 f + b) 10 r = up2 ρ.2.1 9 f (ρ.2.1 9 f + b) 10 r
          rw [up2_ne _ _ (by omega), up2_ne _ _ (by omega)]
          exact g2
      have hct : ∀ i a, ctL (sI ρ 9 f (ρ.2.1 9 f + b)) i a = ctL ρ i a := fun i a => ct_1 (ρ := ρ) (ρ' := sI ρ 9 f (ρ.2.1 9 f + b)) rfl i a
      have hbt : ∀ i, bt (sI ρ 9 f (ρ.2.1 9 f + b)) i = bt ρ i := fun i => by
        funext k
        unfold bt
        show (if ρ.2.2 11 k = true ∧ ρ.1 7 k = i then up2 ρ.2.1 9 f (ρ.2.1 9 f + b) 10 k else 0) = _
        rw [up2_ne _ _ (by omega)]
      refine fin_chg h hs1 (fun c a hc => up2_ne _ _ (Or.inl (by omega))) (fun _ _ => rfl) rfl rfl (fun c a hc => up2_ne _ _ (Or.inl (by omega))) rfl rfl hf (fun i hi hne a => ?_) (fun a => ?_) ⟨fun i hi => ?_, fun r hr => ?_⟩ h.2.2.2.2.2.2.2.1 (nC_I h.2.2.2.2.2.2.2.2 (Or.inr (by decide)))
      · refine uW_c (hct i a) rfl ?_
        rw [bub_s, bub_s, hbt, e9, if_neg hne]
        rfl
      · refine uW_d hl hl (hct f a) ?_
        rw [bub_s, bub_s, hbt, e9, if_pos rfl, Int32.add_assoc, Int32.add_comm b, ← Int32.add_assoc]
        rfl
      · rw [e9]
        by_cases w : i = f
        · rw [if_pos w]
          exact ⟨by omega, hbv⟩
        · rw [if_neg w]
          have := h.2.2.2.1.1 i hi
          omega
      · show 1 ≤ (up2 ρ.2.1 9 f (ρ.2.1 9 f + b) 10 r).toInt ∧ (up2 ρ.2.1 9 f (ρ.2.1 9 f + b) 10 r).toInt ≤ 1000
        rw [up2_ne _ _ (by omega)]
        exact h.2.2.2.1.2 r hr
theorem m_settle (h : Rel n ρ S) (hn : n ≤ 600) {cd : String → Int32} (hi : cd eI = 1) (hA : cd eA = 2) (x b : Int32) : Mt cd n ρ (lo_settle ρ x b) (mo_settle S x b) := by
  have hRq := isR_eq h x
  by_cases z : lvR ρ x = false
  · exact Mt.no (z := 0) (w := 1) (S := S) (E := eI) (by rw [lo_settle, if_pos z]) eI_n (by rw [mo_settle, rf_settle, hRq, if_pos z]; rfl) hi.symm h
  · have z1 : lvR ρ x = true := by simpa using z
    have w4 := h.1.1.2.2.2.1
    obtain ⟨z2, z3⟩ := Bool.and_eq_true_iff.mp z1
    obtain ⟨r, hr, ex, ec⟩ := inR_nI (by omega) z2
    rw [ec] at z3
    obtain ⟨q1, q2, q3⟩ := h.1.2.2.2.2.2.2.2 r hr
    have em : (decide (0 ≤ b) && decide (b ≤ S.2.1 10 r)) = false ↔ (b < 0 ∨ ρ.2.1 10 r < b) := by
      rw [Bool.and_eq_false_iff, decide_eq_false_iff_not, decide_eq_false_iff_not, Int32.not_le, Int32.not_le, q2]
    by_cases y : b < 0 ∨ ρ.2.1 10 r < b
    · exact Mt.no (z := 0) (w := 2) (S := S) (E := eA) (by rw [lo_settle, if_neg z, ec, if_pos y]) eA_n (by rw [mo_settle, rf_settle, hRq, if_neg z, ec, if_pos (em.mpr y)]; rfl) hA.symm h
    · have y1 : 0 ≤ b := Int32.not_lt.mp (fun w => y (Or.inl w))
      have y2 : b ≤ ρ.2.1 10 r := Int32.not_lt.mp (fun w => y (Or.inr w))
      rw [Int32.le_iff_toInt_le] at y1 y2
      have e0 : (0 : Int32).toInt = 0 := by decide
      have hh := h.2.2.2.1.2 r hr
      have hf : ρ.1 7 r < ρ.1 10 4 := by
        have h1 := h.1.1.2.2.2.2.2.2.2.2 r (by have := h.1.2.1.1.2.2; omega)
        have := h.1.2.1.1.2.1
        omega
      have hl := h.2.2.2.2.2.2.2.1 r hr z3
      generalize hf9 : ρ.1 7 r = f at *
      have f4 := (h.1.2.2.2.2.2.1.2 f hf).2.2.2.1
      have hb9 := h.2.2.2.1.1 f hf
      have ev : (ρ.2.1 9 f + b).toInt = (ρ.2.1 9 f).toInt + b.toInt := Jvm.Kit.i32_add (by omega) (by omega)
      refine Mt.ok cd (v := ρ.2.1 9 f + b) (ρ' := ntS (stL ρ r f b)) (S' := lkS (stlS S r b)) (by rw [lo_settle, if_neg z, ec, if_neg y, hf9]) (by rw [mo_settle, rf_settle, hRq, if_neg z, ec, if_neg (fun w => y (em.mp w)), gd0 rfl, q1, f4]) ?_
      unfold stL stlS
      rw [q1, f4]
      have e9 : ∀ i, (sI (sB ρ 11 r false) 9 f (ρ.2.1 9 f + b)).2.1 9 i = if i = f then ρ.2.1 9 f + b else ρ.2.1 9 i := fun i => by
        show up2 ρ.2.1 9 f (ρ.2.1 9 f + b) 9 i = _
        by_cases w : i = f
        · rw [if_pos w, w, up2_self]
        · rw [if_neg w, up2_ne _ _ (Or.inr w)]
      have e7 : ∀ i, (sI (sB S 11 r false) 7 f (ρ.2.1 9 f + b)).2.1 7 i = if i = f then ρ.2.1 9 f + b else S.2.1 7 i := fun i => by
        show up2 S.2.1 7 f (ρ.2.1 9 f + b) 7 i = _
        by_cases w : i = f
        · rw [if_pos w, w, up2_self]
        · rw [if_neg w, up2_ne _ _ (Or.inr w)]
      have hs1 : Rs (sI (sB ρ 11 r false) 9 f (ρ.2.1 9 f + b)) (sI (sB S 11 r false) 7 f (ρ.2.1 9 f + b)) := by
        refine Rs_fr h.1 (RW_1 rfl h.1.1) h.1.2.1 rfl (fun _ _ _ => rfl) rfl ⟨rfl, rfl⟩ (fun _ => rfl) (fun c i hc => up2_ne _ _ (Or.inl (by omega))) ⟨h.1.2.2.2.2.2.1.1, fun i hi => ?_⟩ ⟨h.1.2.2.2.2.2.2.1, fun k hk => ?_⟩
        · obtain ⟨g1, g2, g3, g4, g5⟩ := h.1.2.2.2.2.2.1.2 i hi
          refine ⟨g1, g2, g3, ?_, ?_⟩
          · rw [e9, e7, g4]
          · show up2 S.2.2 11 r false 8 i = up2 ρ.2.2 11 r false 8 i
            rw [up2_ne _ _ (by omega), up2_ne _ _ (by omega)]
            exact g5
        · obtain ⟨g1, g2, g3⟩ := h.1.2.2.2.2.2.2.2 k hk
          refine ⟨g1, ?_, ?_⟩
          · show up2 S.2.1 7 f (ρ.2.1 9 f + b) 10 k = up2 ρ.2.1 9 f (ρ.2.1 9 f + b) 10 k
            rw [up2_ne _ _ (by omega), up2_ne _ _ (by omega)]
            exact g2
          · show up2 S.2.2 11 r false 11 k = up2 ρ.2.2 11 r false 11 k
            by_cases w : k = r
            · rw [w, up2_self, up2_self]
            · rw [up2_ne _ _ (Or.inr w), up2_ne _ _ (Or.inr w)]
              exact g3
      have hct : ∀ i a, ctL (sI (sB ρ 11 r false) 9 f (ρ.2.1 9 f + b)) i a = ctL ρ i a := fun i a => ct_1 (ρ := ρ) (ρ' := sI (sB ρ 11 r false) 9 f (ρ.2.1 9 f + b)) rfl i a
      have hbt : ∀ i k, ¬ (k = r ∧ i = f) → bt (sI (sB ρ 11 r false) 9 f (ρ.2.1 9 f + b)) i k = bt ρ i k := fun i k hik => by
        unfold bt
        show (if up2 ρ.2.2 11 r false 11 k = true ∧ ρ.1 7 k = i then up2 ρ.2.1 9 f (ρ.2.1 9 f + b) 10 k else 0) = _
        rw [up2_ne ρ.2.1 _ (by omega)]
        by_cases w : k = r
        · rw [if_neg (fun v => hik ⟨w, by rw [← v.2, w, hf9]⟩), if_neg (fun v => hik ⟨w, by rw [← v.2, w, hf9]⟩)]
        · rw [up2_ne _ _ (Or.inr w)]
      have hbr : bt (sI (sB ρ 11 r false) 9 f (ρ.2.1 9 f + b)) f r = bt ρ f r + (-(ρ.2.1 10 r)) := by
        unfold bt
        show (if up2 ρ.2.2 11 r false 11 r = true ∧ ρ.1 7 r = f then up2 ρ.2.1 9 f (ρ.2.1 9 f + b) 10 r else 0) = _
        rw [up2_self, if_neg (fun v => by cases v.1), if_pos ⟨z3, hf9⟩, Int32.add_right_neg]
      have h8' : ∀ j, (sI (sB ρ 11 r false) 9 f (ρ.2.1 9 f + b)).2.2 8 j = ρ.2.2 8 j := fun j => up2_ne (c := 11) (i := r) (c' := 8) (i' := j) ρ.2.2 false (Or.inl (by decide))
      have h05 : (sI (sB ρ 11 r false) 9 f (ρ.2.1 9 f + b)).2.2 0 5 = ρ.2.2 0 5 := up2_ne (c := 11) (i := r) (c' := 0) (i' := 5) ρ.2.2 false (Or.inl (by decide))
      have m05 : (sI (sB S 11 r false) 7 f (ρ.2.1 9 f + b)).2.2 0 5 = S.2.2 0 5 := up2_ne (c := 11) (i := r) (c' := 0) (i' := 5) S.2.2 false (Or.inl (by decide))
      refine fin_chg h hs1 (fun c a hc => up2_ne _ _ (Or.inl (by omega))) (fun _ _ => rfl) rfl h05 (fun c a hc => up2_ne _ _ (Or.inl (by omega))) rfl m05 hf (fun i hi hne a => ?_) (fun a => ?_) ⟨fun i hi => ?_, fun k hk => ?_⟩ (fun k hk ho => ?_) (nC_I h.2.2.2.2.2.2.2.2 (Or.inr (by decide)))
      · refine uW_c (hct i a) (h8' i) ?_
        rw [bub_s, bub_s, e9, if_neg hne, isum_c _ (fun k _ => hbt i k (fun w => hne w.2))]
        rfl
      · refine uW_d hl ((h8' f).trans hl) (hct f a) ?_
        rw [bub_s, bub_s, e9, if_pos rfl, isum_u (f := r) hbr _ (fun k _ hk => hbt f k (fun w => hk w.1))]
        show _ + (_ + if r < ρ.1 10 5 then _ else _) = _
        rw [if_pos hr, Int32.sub_eq_add_neg]
        show ρ.2.1 9 f + b + (isum (bt ρ f) (ρ.1 10 5) + -ρ.2.1 10 r) = ρ.2.1 9 f + isum (bt ρ f) (ρ.1 10 5) + (b + -ρ.2.1 10 r)
        grind
      · rw [e9]
        by_cases w : i = f
        · rw [if_pos w]
          omega
        · rw [if_neg w]
          have := h.2.2.2.1.1 i hi
          omega
      · show 1 ≤ (up2 ρ.2.1 9 f (ρ.2.1 9 f + b) 10 k).toInt ∧ (up2 ρ.2.1 9 f (ρ.2.1 9 f + b) 10 k).toInt ≤ 1000
        rw [up2_ne _ _ (by omega)]
        exact h.2.2.2.1.2 k hk
      · have ho : up2 ρ.2.2 11 r false 11 k = true := ho
        show up2 ρ.2.2 11 r false 8 (ρ.1 7 k) = false
        rw [up2_ne _ _ (by omega)]
        by_cases w : k = r
        · rw [w, up2_self] at ho
          cases ho
        · rw [up2_ne _ _ (Or.inr w)] at ho
          exact h.2.2.2.2.2.2.2.1 k hk ho
end RL9
