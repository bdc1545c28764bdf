/-! ===== the two sides: reserve, delete, moveFile ===== -/
def rvL (ρ : gSt) (f : Nat) (b : Int32) : gSt := sN (rN ρ (ρ.1 10 5) f b) 10 5 (ρ.1 10 5 + 1)
section RL10
variable {n : Nat} {ρ ρ' ρ1 S S' S1 : gSt}
theorem rvL_c (f : Nat) (b : Int32) {c i : Nat} (h11 : c ≠ 11) (h7 : c ≠ 7) (h10 : c ≠ 10 ∨ i ≠ 5) : (rvL ρ f b).1 c i = ρ.1 c i := by
  show up2 (up2 (up2 ρ.1 11 4 (ρ.1 10 5 + 1)) 7 (ρ.1 10 5) f) 10 5 (ρ.1 10 5 + 1) c i = _
  rw [up2_ne _ _ h10, up2_ne _ _ (Or.inl h7), up2_ne _ _ (Or.inl h11)]
theorem rvL_7 (f : Nat) (b : Int32) {i : Nat} (h : i ≠ ρ.1 10 5) : (rvL ρ f b).1 7 i = ρ.1 7 i := by
  show up2 (up2 (up2 ρ.1 11 4 (ρ.1 10 5 + 1)) 7 (ρ.1 10 5) f) 10 5 (ρ.1 10 5 + 1) 7 i = _
  rw [up2_ne _ _ (Or.inl (by decide)), up2_ne _ _ (Or.inr h), up2_ne _ _ (Or.inl (by decide))]
theorem rvL_7s (f : Nat) (b : Int32) : (rvL ρ f b).1 7 (ρ.1 10 5) = f := by
  show up2 (up2 (up2 ρ.1 11 4 (ρ.1 10 5 + 1)) 7 (ρ.1 10 5) f) 10 5 (ρ.1 10 5 + 1) 7 (ρ.1 10 5) = f
  rw [up2_ne _ _ (Or.inl (by decide)), up2_self]
theorem rvL_10 (f : Nat) (b : Int32) : (rvL ρ f b).1 10 5 = ρ.1 10 5 + 1 := up2_self (rN ρ (ρ.1 10 5) f b).1 10 5 _
theorem rvL_I (f : Nat) (b : Int32) {c i : Nat} (h : c ≠ 10 ∨ i ≠ ρ.1 10 5) : (rvL ρ f b).2.1 c i = ρ.2.1 c i := up2_ne (c := 10) (i := ρ.1 10 5) ρ.2.1 b h
theorem rvL_Is (f : Nat) (b : Int32) : (rvL ρ f b).2.1 10 (ρ.1 10 5) = b := up2_self ρ.2.1 10 (ρ.1 10 5) b
theorem rvL_B (f : Nat) (b : Int32) {c i : Nat} (h : c ≠ 11 ∨ i ≠ ρ.1 10 5) : (rvL ρ f b).2.2 c i = ρ.2.2 c i := up2_ne (c := 11) (i := ρ.1 10 5) ρ.2.2 true h
theorem rvL_Bs (f : Nat) (b : Int32) : (rvL ρ f b).2.2 11 (ρ.1 10 5) = true := up2_self ρ.2.2 11 (ρ.1 10 5) true
theorem rvS_c (f : Nat) (b : Int32) {c i : Nat} (h9 : c ≠ 9) (h0 : c ≠ 0 ∨ i ≠ 4) : (rsvS S f b).1 c i = S.1 c i := by
  show up2 (up2 S.1 9 (S.1 0 4) f) 0 4 (S.1 0 4 + 1) c i = _
  rw [up2_ne _ _ h0, up2_ne _ _ (Or.inl h9)]
theorem rvS_9 (f : Nat) (b : Int32) {i : Nat} (h : i ≠ S.1 0 4) : (rsvS S f b).1 9 i = S.1 9 i := by
  show up2 (up2 S.1 9 (S.1 0 4) f) 0 4 (S.1 0 4 + 1) 9 i = _
  rw [up2_ne _ _ (Or.inl (by decide)), up2_ne _ _ (Or.inr h)]
theorem rvS_9s (f : Nat) (b : Int32) : (rsvS S f b).1 9 (S.1 0 4) = f := by
  show up2 (up2 S.1 9 (S.1 0 4) f) 0 4 (S.1 0 4 + 1) 9 (S.1 0 4) = f
  rw [up2_ne _ _ (Or.inl (by decide)), up2_self]
theorem rvS_I (f : Nat) (b : Int32) {c i : Nat} (h : c ≠ 10 ∨ i ≠ S.1 0 4) : (rsvS S f b).2.1 c i = S.2.1 c i := up2_ne (c := 10) (i := S.1 0 4) S.2.1 b h
theorem rvS_Is (f : Nat) (b : Int32) : (rsvS S f b).2.1 10 (S.1 0 4) = b := up2_self S.2.1 10 (S.1 0 4) b
theorem rvS_B (f : Nat) (b : Int32) {c i : Nat} (h : c ≠ 11 ∨ i ≠ S.1 0 4) : (rsvS S f b).2.2 c i = S.2.2 c i := up2_ne (c := 11) (i := S.1 0 4) S.2.2 true h
theorem rvS_Bs (f : Nat) (b : Int32) : (rsvS S f b).2.2 11 (S.1 0 4) = true := up2_self S.2.2 11 (S.1 0 4) true
theorem m_reserve (h : Rel n ρ S) (hn : n ≤ 600) {cd : String → Int32} (hi : cd eI = 1) (hA : cd eA = 2) (hS : cd eS = 3) (x b : Int32) : Mt cd n ρ (lo_reserve ρ x b) (mo_reserve S x b) := by
  have hFq := isF_eq h x
  have w4 := h.1.1.2.2.2.1
  have e45 := h.1.2.1.1.2.2
  have hr4 := h.1.2.2.2.2.2.2.1
  by_cases z : lvf ρ x = false
  · exact Mt.no (z := 0) (w := 1) (S := S) (E := eI) (by rw [lo_reserve, if_pos z]) eI_n (by rw [mo_reserve, rf_reserve, hFq, if_pos z]; rfl) hi.symm h
  · obtain ⟨f, hf, ex, ec, hl⟩ := lvf_nI h.1.1 (by simpa using z)
    obtain ⟨f1, f2, f3, f4, f5⟩ := h.1.2.2.2.2.2.1.2 f hf
    obtain ⟨r1, r2, r3⟩ := fl_row h.1.1 h.1.2.1 hf
    have em : (decide (1 ≤ b) && decide (b ≤ 1000)) = false ↔ (b < 1 ∨ 1000 < b) := by
      rw [Bool.and_eq_false_iff, decide_eq_false_iff_not, decide_eq_false_iff_not, Int32.not_le, Int32.not_le]
    by_cases y : b < 1 ∨ 1000 < b
    · exact Mt.no (z := 0) (w := 2) (S := S) (E := eA) (by rw [lo_reserve, if_neg z, ec, if_pos y]) eA_n (by rw [mo_reserve, rf_reserve, hFq, if_neg z, if_pos (em.mpr y)]; rfl) hA.symm h
    · have y' := fun w => y (em.mp w)
      by_cases q : 30 ≤ ρ.1 10 5
      · exact Mt.no (z := 0) (w := 3) (S := S) (E := eS) (by rw [lo_reserve, if_neg z, ec, if_neg y, if_pos q]) eS_n (by rw [mo_reserve, rf_reserve, hFq, if_neg z, if_neg y', if_pos (by omega)]; rfl) hS.symm h
      · have y1 : 1 ≤ b := Int32.not_lt.mp (fun w => y (Or.inl w))
        have y2 : b ≤ 1000 := Int32.not_lt.mp (fun w => y (Or.inr w))
        rw [Int32.le_iff_toInt_le] at y1 y2
        have e1 : (1 : Int32).toInt = 1 := by decide
        have e2 : (1000 : Int32).toInt = 1000 := by decide
        rw [lo_reserve, if_neg z, ec, if_neg y, if_neg q, mo_reserve, ec, f1, f3, bar_row h hn (fun _ _ _ => rfl) (Or.inl rfl) r1 rfl f2 rfl r3 b 0, hr4]
        refine br_eq h (fun _ => ?_) (by rw [rf_reserve, hFq, if_neg z, if_neg y', if_neg (by omega)])
        show Rel (n + 1) (ntS (chg (rvL ρ f b) f b 0)) (lkS (rsvS S f b))
        have hW1 : RW (rvL ρ f b) := sN_10_5 (rN_W h.1.1 (by omega) (by omega) (fl_lt h.1.1 h.1.2.1 hf)) (by simp [rN, sN, sI, sB, up2])
        have hE1 : RE (rvL ρ f b) := by
          obtain ⟨⟨g1, g2, g3⟩, g4⟩ := h.1.2.1
          refine ⟨⟨?_, ?_, ?_⟩, ?_⟩
          · rw [rvL_c f b (c := 10) (by decide) (by decide) (Or.inr (by decide))]
            show up2 (up2 (up2 ρ.1 11 4 (ρ.1 10 5 + 1)) 7 (ρ.1 10 5) f) 10 5 (ρ.1 10 5 + 1) 11 2 = _
            rw [up2_ne _ _ (Or.inl (by decide)), up2_ne _ _ (Or.inl (by decide)), up2_ne _ _ (Or.inr (by decide))]
            exact g1
          · rw [rvL_c f b (c := 10) (by decide) (by decide) (Or.inr (by decide))]
            show up2 (up2 (up2 ρ.1 11 4 (ρ.1 10 5 + 1)) 7 (ρ.1 10 5) f) 10 5 (ρ.1 10 5 + 1) 11 3 = _
            rw [up2_ne _ _ (Or.inl (by decide)), up2_ne _ _ (Or.inl (by decide)), up2_ne _ _ (Or.inr (by decide))]
            exact g2
          · rw [rvL_10]
            show up2 (up2 (up2 ρ.1 11 4 (ρ.1 10 5 + 1)) 7 (ρ.1 10 5) f) 10 5 (ρ.1 10 5 + 1) 11 4 = _
            rw [up2_ne _ _ (Or.inl (by decide)), up2_ne _ _ (Or.inl (by decide)), up2_self]
          · rw [rvL_c f b (c := 3) (by decide) (by decide) (Or.inl (by decide))]
            exact g4
        have c10 : ∀ i, i ≠ 5 → (rvL ρ f b).1 10 i = ρ.1 10 i := fun i hi => rvL_c f b (by decide) (by decide) (Or.inr hi)
        have hs1 : Rs (rvL ρ f b) (rsvS S f b) := by
          refine Rs_fr h.1 hW1 hE1 (rvL_c f b (by decide) (by decide) (Or.inl (by decide))) (fun c i hc => rvL_c f b (by omega) (by omega) (Or.inl (by omega))) (c10 3 (by decide)) ⟨rvS_c f b (by decide) (Or.inr (by decide)), rvS_c f b (by decide) (Or.inr (by decide))⟩ (fun p => rvS_c f b (by decide) (Or.inl (by decide))) (fun c i hc => rvS_I f b (Or.inl (by omega))) ⟨?_, fun i hi => ?_⟩ ⟨?_, fun r hr => ?_⟩
          · rw [rvS_c f b (by decide) (Or.inr (by decide)), c10 4 (by decide)]
            exact h.1.2.2.2.2.2.1.1
          · rw [c10 4 (by decide)] at hi
            rw [rvS_c f b (by decide) (Or.inl (by decide)), rvS_c f b (by decide) (Or.inl (by decide)), rvS_I f b (Or.inl (by decide)), rvS_B f b (Or.inl (by decide)), rvL_c f b (by decide) (by decide) (Or.inl (by decide)), rvL_c f b (by decide) (by decide) (Or.inl (by decide)), rvL_c f b (by decide) (by decide) (Or.inl (by decide)), rvL_I f b (Or.inl (by decide)), rvL_B f b (Or.inl (by decide))]
            exact h.1.2.2.2.2.2.1.2 i hi
          · rw [rvL_10, ← hr4]
            exact up2_self (up2 S.1 9 (S.1 0 4) f) 0 4 (S.1 0 4 + 1)
          · rw [rvL_10] at hr
            by_cases w : r = ρ.1 10 5
            · rw [w, rvL_7s, rvL_Is, rvL_Bs, ← hr4, rvS_9s, rvS_Is, rvS_Bs]
              exact ⟨rfl, rfl, rfl⟩
            · rw [rvL_7 f b w, rvL_I f b (Or.inr w), rvL_B f b (Or.inr w), rvS_9 f b (by rw [hr4]; exact w), rvS_I f b (Or.inr (by rw [hr4]; exact w)), rvS_B f b (Or.inr (by rw [hr4]; exact w))]
              exact h.1.2.2.2.2.2.2.2 r (by omega)
        have h3 : ∀ q, (rvL ρ f b).1 3 q = ρ.1 3 q := fun q => rvL_c f b (by decide) (by decide) (Or.inl (by decide))
        have hct : ∀ i a, ctL (rvL ρ f b) i a = ctL ρ i a := fun i a => (row_c (rvL_c f b (by decide) (by decide) (Or.inl (by decide))) (rvL_c f b (by decide) (by decide) (Or.inl (by decide))) (rvL_c f b (by decide) (by decide) (Or.inl (by decide))) (fun k => upn_c h3 _ k)).2.2 a
        have hbt : ∀ i k, k < ρ.1 10 5 → bt (rvL ρ f b) i k = bt ρ i k := fun i k hk => by
          unfold bt
          rw [rvL_B f b (Or.inr (by omega)), rvL_7 f b (by omega), rvL_I f b (Or.inr (by omega))]
        have hbs : ∀ i, bub (rvL ρ f b) i ((rvL ρ f b).1 10 5) = bub ρ i (ρ.1 10 5) + (if f = i then b else 0) := fun i => by
          rw [rvL_10]
          show bub (rvL ρ f b) i (ρ.1 10 5) + (if (rvL ρ f b).2.2 11 (ρ.1 10 5) = true ∧ (rvL ρ f b).1 7 (ρ.1 10 5) = i then (rvL ρ f b).2.1 10 (ρ.1 10 5) else 0) = _
          rw [rvL_Bs, rvL_7s, rvL_Is, bub_s, bub_s, isum_c _ (fun k hk => hbt i k hk), rvL_I f b (Or.inl (by decide))]
          by_cases w : f = i
          · rw [if_pos ⟨rfl, w⟩, if_pos w]
          · rw [if_neg (fun v => w v.2), if_neg w]
        refine fin_chg h hs1 (fun c a hc => rvL_I f b (Or.inl (by omega))) c10 (rvL_c f b (by decide) (by decide) (Or.inl (by decide))) (rvL_B f b (Or.inl (by decide))) (fun c a hc => rvS_I f b (Or.inl (by omega))) (rvS_c f b (by decide) (Or.inr (by decide))) (rvS_B f b (Or.inl (by decide))) hf (fun i hi hne a => ?_) (fun a => ?_) ⟨fun i hi => ?_, fun r hr => ?_⟩ (fun r hr ho => ?_) (fun c i => ?_)
        · refine uW_c (hct i a) (rvL_B f b (Or.inl (by decide))) ?_
          rw [hbs, if_neg (fun w => hne w.symm), Int32.add_zero]
        · refine uW_d hl ((rvL_B f b (Or.inl (by decide))).trans hl) (hct f a) ?_
          rw [hbs, if_pos rfl]
        · rw [c10 4 (by decide)] at hi
          rw [rvL_I f b (Or.inl (by decide))]
          have := h.2.2.2.1.1 i hi
          omega
        · rw [rvL_10] at hr
          by_cases w : r = ρ.1 10 5
          · rw [w, rvL_Is]
            omega
          · rw [rvL_I f b (Or.inr w)]
            exact h.2.2.2.1.2 r (by omega)
        · rw [rvL_10] at hr
          rw [rvL_B f b (c := 8) (Or.inl (by decide))]
          by_cases w : r = ρ.1 10 5
          · rw [w, rvL_7s]
            exact hl
          · rw [rvL_B f b (Or.inr w)] at ho
            rw [rvL_7 f b w]
            exact h.2.2.2.2.2.2.2.1 r (by omega) ho
        · by_cases w : c = 10 ∧ i = S.1 0 4
          · exact Or.inr (by omega)
          · rw [rvS_I f b (by omega)]
            exact h.2.2.2.2.2.2.2.2 c i
theorem chN_B (f : Nat) (b m : Int32) (β : Nat → Nat → Bool) : ∀ k, chN (ρ.1, ρ.2.1, β) f b m k = ((chN ρ f b m k).1, (chN ρ f b m k).2.1, β) := by
  intro k
  induction k with
  | zero => rfl
  | succ k ih =>
    show chA (chN (ρ.1, ρ.2.1, β) f b m k) (rowE (ρ.1, ρ.2.1, β) f k) b m (decide (f < ρ.1 0 6)) = ((chA (chN ρ f b m k) (rowE ρ f k) b m (decide (f < ρ.1 0 6))).1, (chA (chN ρ f b m k) (rowE ρ f k) b m (decide (f < ρ.1 0 6))).2.1, β)
    rw [ih, rowE_1 (ρ := ρ) (ρ' := (ρ.1, ρ.2.1, β)) rfl]
    generalize decide (f < ρ.1 0 6) = t
    cases t <;> rfl
theorem chg_B (f : Nat) (b m : Int32) (β : Nat → Nat → Bool) : chg (ρ.1, ρ.2.1, β) f b m = ((chg ρ f b m).1, (chg ρ f b m).2.1, β) := by
  unfold chg
  rw [rowN_1 (ρ := ρ) (ρ' := (ρ.1, ρ.2.1, β)) rfl]
  exact chN_B f b m β _
def dL1 (ρ : gSt) (f : Nat) : gSt := clL (sB ρ 8 f true) f (ρ.1 10 5)
theorem dlL_eq (f : Nat) : dlL ρ f = chg (dL1 ρ f) f (-(bub ρ f (ρ.1 10 5))) (-1) := by
  have e := chg_B (ρ := ρ) f (-(bub ρ f (ρ.1 10 5))) (-1) (dL1 ρ f).2.2
  rw [show dL1 ρ f = (ρ.1, ρ.2.1, (dL1 ρ f).2.2) from rfl, e]
  unfold dlL clL
  have e1 := chg_1 ρ f (-(bub ρ f (ρ.1 10 5))) (-1)
  have e2 := chg_2 ρ f (-(bub ρ f (ρ.1 10 5))) (-1)
  show ((chg ρ f (-(bub ρ f (ρ.1 10 5))) (-1)).1, (chg ρ f (-(bub ρ f (ρ.1 10 5))) (-1)).2.1, fun c i => if c = 11 ∧ i < ρ.1 10 5 ∧ (chg ρ f (-(bub ρ f (ρ.1 10 5))) (-1)).1 7 i = f then false else up2 (chg ρ f (-(bub ρ f (ρ.1 10 5))) (-1)).2.2 8 f true c i) = ((chg ρ f (-(bub ρ f (ρ.1 10 5))) (-1)).1, (chg ρ f (-(bub ρ f (ρ.1 10 5))) (-1)).2.1, fun c i => if c = 11 ∧ i < ρ.1 10 5 ∧ ρ.1 7 i = f then false else up2 ρ.2.2 8 f true c i)
  rw [e1, e2]
theorem dL1_8 (f i : Nat) : (dL1 ρ f).2.2 8 i = if i = f then true else ρ.2.2 8 i := by
  show (if 8 = 11 ∧ i < ρ.1 10 5 ∧ ρ.1 7 i = f then false else up2 ρ.2.2 8 f true 8 i) = _
  rw [if_neg (fun z => absurd z.1 (by decide))]
  by_cases w : i = f
  · rw [if_pos w, w, up2_self]
  · rw [if_neg w, up2_ne _ _ (Or.inr w)]
theorem dL1_11 (f : Nat) {i : Nat} (hi : i < ρ.1 10 5) : (dL1 ρ f).2.2 11 i = if ρ.1 7 i = f then false else ρ.2.2 11 i := by
  by_cases w : ρ.1 7 i = f
  · rw [if_pos w]
    exact if_pos ⟨rfl, hi, w⟩
  · rw [if_neg w]
    exact (if_neg (fun z => w z.2.2)).trans (up2_ne (c := 8) (i := f) (c' := 11) (i' := i) ρ.2.2 true (Or.inl (by decide)))
theorem dL1_0 (f : Nat) : (dL1 ρ f).2.2 0 5 = ρ.2.2 0 5 := by
  show (if 0 = 11 ∧ 5 < ρ.1 10 5 ∧ ρ.1 7 5 = f then false else up2 ρ.2.2 8 f true 0 5) = _
  rw [if_neg (fun z => absurd z.1 (by decide)), up2_ne _ _ (Or.inl (by decide))]
theorem m_delete (h : Rel n ρ S) (hn : n ≤ 600) {cd : String → Int32} (hi : cd eI = 1) (x : Int32) : Mt cd n ρ (lo_delete ρ x) (mo_delete S x) := by
  have hFq := isF_eq h x
  have hr4 := h.1.2.2.2.2.2.2.1
  by_cases z : lvf ρ x = false
  · exact Mt.no (z := 0) (w := 1) (S := S) (E := eI) (by rw [lo_delete, if_pos z]) eI_n (by rw [mo_delete, rf_delete, hFq, z]; rfl) hi.symm h
  · have z1 : lvf ρ x = true := by simpa using z
    obtain ⟨f, hf, ex, ec, hl⟩ := lvf_nI h.1.1 z1
    refine Mt.ok cd (v := bub ρ f (ρ.1 10 5)) (ρ' := ntS (chg (dL1 ρ f) f (-(bub ρ f (ρ.1 10 5))) (-1))) (S' := lkS (delS S f)) (by rw [lo_delete, if_neg z, ec, dlL_eq]) (by rw [mo_delete, rf_delete, hFq, if_pos z1, gd0 rfl, ec, hr4, usg_bub h.1 hf hl _ (Nat.le_refl _)]) ?_
    have hs8 : ∀ i, (delS S f).2.2 8 i = if i = f then true else S.2.2 8 i := fun i => by
      show (if 8 = 11 ∧ i < S.1 0 4 then (up2 S.2.2 8 f true 11 i && !decide (S.1 9 i = f)) else up2 S.2.2 8 f true 8 i) = _
      rw [if_neg (fun z => absurd z.1 (by decide))]
      by_cases w : i = f
      · rw [if_pos w, w, up2_self]
      · rw [if_neg w, up2_ne _ _ (Or.inr w)]
    have hs11 : ∀ i, i < ρ.1 10 5 → (delS S f).2.2 11 i = if S.1 9 i = f then false else S.2.2 11 i := fun i hi => by
      show (if 11 = 11 ∧ i < S.1 0 4 then (up2 S.2.2 8 f true 11 i && !decide (S.1 9 i = f)) else up2 S.2.2 8 f true 11 i) = _
      rw [if_pos ⟨rfl, by omega⟩, up2_ne _ _ (Or.inl (by decide))]
      by_cases w : S.1 9 i = f
      · rw [if_pos w, decide_eq_true w, Bool.not_true, Bool.and_false]
      · rw [if_neg w, decide_eq_false w, Bool.not_false, Bool.and_true]
    have hs0 : (delS S f).2.2 0 5 = S.2.2 0 5 := by
      show (if 0 = 11 ∧ 5 < S.1 0 4 then (up2 S.2.2 8 f true 11 5 && !decide (S.1 9 5 = f)) else up2 S.2.2 8 f true 0 5) = _
      rw [if_neg (fun z => absurd z.1 (by decide)), up2_ne _ _ (Or.inl (by decide))]
    have hs1 : Rs (dL1 ρ f) (delS S f) := by
      refine Rs_fr h.1 (RW_1 rfl h.1.1) h.1.2.1 rfl (fun _ _ _ => rfl) rfl ⟨rfl, rfl⟩ (fun _ => rfl) (fun _ _ _ => rfl) ⟨h.1.2.2.2.2.2.1.1, fun i hi => ?_⟩ ⟨hr4, fun r hr => ?_⟩
      · obtain ⟨g1, g2, g3, g4, g5⟩ := h.1.2.2.2.2.2.1.2 i hi
        refine ⟨g1, g2, g3, g4, ?_⟩
        rw [hs8, dL1_8, g5]
      · obtain ⟨g1, g2, g3⟩ := h.1.2.2.2.2.2.2.2 r hr
        refine ⟨g1, g2, ?_⟩
        have hr : r < ρ.1 10 5 := hr
        rw [hs11 r hr, dL1_11 f hr, g1, g3]
    have hct : ∀ i a, ctL (dL1 ρ f) i a = ctL ρ i a := fun i a => ct_1 (ρ := ρ) (ρ' := dL1 ρ f) rfl i a
    refine fin_chg h hs1 (fun _ _ _ => rfl) (fun _ _ => rfl) rfl (dL1_0 f) (fun _ _ _ => rfl) rfl hs0 hf (fun i hi hne a => ?_) (fun a => ?_) h.mono.2.2.2.1 (fun r hr ho => ?_) h.2.2.2.2.2.2.2.2
    · refine uW_c (hct i a) (by rw [dL1_8, if_neg hne]) ?_
      rw [bub_s, bub_s, isum_c (g := bt ρ i) _ (fun k hk => ?_)]
      · rfl
      · have hk : k < ρ.1 10 5 := hk
        unfold bt
        rw [dL1_11 f hk]
        show (if (if ρ.1 7 k = f then false else ρ.2.2 11 k) = true ∧ ρ.1 7 k = i then ρ.2.1 10 k else 0) = _
        by_cases w : ρ.1 7 k = i
        · rw [if_neg (c := ρ.1 7 k = f) (by omega)]
        · rw [if_neg (fun v => w v.2), if_neg (fun v => w v.2)]
    · unfold uW fW
      have hN : ¬ (true = false ∧ ctL ρ f a = true) := fun w => by cases w.1
      rw [dL1_8, if_pos rfl, hct, hl]
      by_cases w : ctL ρ f a = true
      · have hP : false = false ∧ ctL ρ f a = true := ⟨rfl, w⟩
        refine ⟨?_, ?_⟩
        · rw [if_neg hN, if_pos hP, if_pos w, Int32.add_right_neg]
        · rw [if_neg hN, if_pos hP, if_pos w]
          decide
      · have hP : ¬ (false = false ∧ ctL ρ f a = true) := fun v => w v.2
        refine ⟨?_, ?_⟩
        · rw [if_neg hN, if_neg hP, if_neg w]
          rfl
        · rw [if_neg hN, if_neg hP, if_neg w]
          rfl
    · have hr : r < ρ.1 10 5 := hr
      rw [dL1_11 f hr] at ho
      show (dL1 ρ f).2.2 8 (ρ.1 7 r) = false
      rw [dL1_8]
      by_cases w : ρ.1 7 r = f
      · rw [if_pos w] at ho
        cases ho
      · rw [if_neg w] at ho ⊢
        exact h.2.2.2.2.2.2.2.1 r hr ho
end RL10
