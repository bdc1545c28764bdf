/-! ===== the two sides: moveFile, makeFile ===== -/
def mkM (S : gSt) (u p : Nat) : gSt := sN (sN (sN S 5 (S.1 0 3) u) 6 (S.1 0 3) p) 0 3 (S.1 0 3 + 1)
def mkB (ρ : gSt) (u p : Nat) : gSt := sN (mkF ρ u p) 10 4 (ρ.1 10 4 + 1)
section RL11
variable {n : Nat} {ρ ρ' ρ1 S S' S1 : gSt}
theorem chg_v0 (hW : RW ρ) (hE : RE ρ) {f : Nat} (hf : f < ρ.1 10 4) (b m : Int32) {c a : Nat} (c4 : c ≠ 4) (c5 : c ≠ 5) (c6 : c ≠ 6) : (chg ρ f b m).2.1 c a = ρ.2.1 c a := by
  rw [chg_v hW hE hf, dl_0 c4 c5 c6]
  split <;> rw [Int32.add_zero]
theorem chg_v4 (hW : RW ρ) (hE : RE ρ) {f : Nat} (hf : f < ρ.1 10 4) (b m : Int32) (a : Nat) : (chg ρ f b m).2.1 4 a = ρ.2.1 4 a + (if ctL ρ f a = true then b else 0) := chg_v hW hE hf b m 4 a
theorem chg_v5 (hW : RW ρ) (hE : RE ρ) {f : Nat} (hf : f < ρ.1 10 4) (b m : Int32) (a : Nat) : (chg ρ f b m).2.1 5 a = ρ.2.1 5 a + (if ctL ρ f a = true then m else 0) := chg_v hW hE hf b m 5 a
theorem chg_v6 (hW : RW ρ) (hE : RE ρ) {f : Nat} (hf : f < ρ.1 10 4) (b m : Int32) (a : Nat) : (chg ρ f b m).2.1 6 a = ρ.2.1 6 a + (if f < ρ.1 0 6 then (if ctL ρ f a = true then b else 0) else 0) := by
  rw [chg_v hW hE hf, dl_6]
  by_cases y : f < ρ.1 0 6
  · rw [if_pos y, decide_eq_true y]
    rfl
  · rw [if_neg y, decide_eq_false y]
    split <;> rfl
theorem m_moveFile (h : Rel n ρ S) {cd : String → Int32} (hi : cd eI = 1) (x y : Int32) : Mt cd n ρ (lo_moveFile ρ x y) (mo_moveFile S x y) := by
  have hFq := isF_eq h x
  have hPq := isP_eq h y
  by_cases z : lvf ρ x = false
  · exact Mt.no (z := 0) (w := 1) (S := S) (E := eI) (by rw [lo_moveFile, if_pos z]) eI_n (by rw [mo_moveFile, rf_moveFile, hFq, z]; rfl) hi.symm h
  · have z1 : lvf ρ x = true := by simpa using z
    obtain ⟨f, hf, ex, ec, hl⟩ := lvf_nI h.1.1 z1
    by_cases q : inR y (ρ.1 10 3) = false
    · exact Mt.no (z := 0) (w := 1) (S := S) (E := eI) (by rw [lo_moveFile, if_neg z, if_pos q]) eI_n (by rw [mo_moveFile, rf_moveFile, hFq, hPq, q, Bool.and_false]; rfl) hi.symm h
    · have q1 : inR y (ρ.1 10 3) = true := by simpa using q
      have w2 := h.1.1.2.1
      obtain ⟨p, hp, ey, ec'⟩ := inR_nI (by omega) q1
      obtain ⟨f1, f2, f3, f4, f5⟩ := h.1.2.2.2.2.2.1.2 f hf
      refine Mt.ok cd (v := nI (ρ.1 6 f)) (ρ' := ntS (mfL ρ f p)) (S' := lkS (sN S 6 f p)) (by rw [lo_moveFile, if_neg z, if_neg q, ec, ec']) (by rw [mo_moveFile, rf_moveFile, hFq, hPq, z1, q1, Bool.and_self, if_pos rfl, gd0 rfl, ec, ec', f3]) ?_
      have h := h.mono
      have hW := h.1.1
      have hE := h.1.2.1
      have c6 : ∀ c i, c ≠ 6 → (sN ρ 6 f p).1 c i = ρ.1 c i := fun c i hc => up2_ne _ _ (Or.inl hc)
      have c6' : ∀ c i, c ≠ 6 → (sN S 6 f p).1 c i = S.1 c i := fun c i hc => up2_ne _ _ (Or.inl hc)
      have e6 : ∀ i, (sN ρ 6 f p).1 6 i = if i = f then p else ρ.1 6 i := fun i => by
        show up2 ρ.1 6 f p 6 i = _
        by_cases w : i = f
        · rw [if_pos w, w, up2_self]
        · rw [if_neg w, up2_ne _ _ (Or.inr w)]
      have e6' : ∀ i, (sN S 6 f p).1 6 i = if i = f then p else S.1 6 i := fun i => by
        show up2 S.1 6 f p 6 i = _
        by_cases w : i = f
        · rw [if_pos w, w, up2_self]
        · rw [if_neg w, up2_ne _ _ (Or.inr w)]
      have hWa : RW (sN ρ 6 f p) := sN_W6h hW (np_lt hW hE hp)
      have hEa : RE (sN ρ 6 f p) := by
        unfold RE
        rw [c6 11 2 (by decide), c6 11 3 (by decide), c6 11 4 (by decide), c6 10 3 (by decide), c6 10 4 (by decide), c6 10 5 (by decide), c6 3 0 (by decide)]
        exact hE
      have hsa : Rs (sN ρ 6 f p) (sN S 6 f p) := by
        refine Rs_fr h.1 hWa hEa (c6 _ _ (by decide)) (fun c i hc => c6 _ _ (by omega)) (c6 _ _ (by decide)) ⟨c6' _ _ (by decide), c6' _ _ (by decide)⟩ (fun p => c6' _ _ (by decide)) (fun _ _ _ => rfl) ⟨?_, fun i hi => ?_⟩ ⟨?_, fun r hr => ?_⟩
        · rw [c6' 0 3 (by decide), c6 10 4 (by decide)]
          exact h.1.2.2.2.2.2.1.1
        · rw [c6 10 4 (by decide)] at hi
          obtain ⟨g1, g2, g3, g4, g5⟩ := h.1.2.2.2.2.2.1.2 i hi
          rw [c6' 5 i (by decide), c6 4 i (by decide), c6 5 i (by decide), e6, e6', g3]
          exact ⟨g1, g2, rfl, g4, g5⟩
        · rw [c6' 0 4 (by decide), c6 10 5 (by decide)]
          exact h.1.2.2.2.2.2.2.1
        · rw [c6 10 5 (by decide)] at hr
          rw [c6' 9 r (by decide), c6 7 r (by decide)]
          exact h.1.2.2.2.2.2.2.2 r hr
      unfold mfL
      generalize hu : bub ρ f (ρ.1 10 5) = u
      have d1 := chg_1 ρ f (-u) (-1)
      have d2 := chg_2 ρ f (-u) (-1)
      have hW2 : RW (sN (chg ρ f (-u) (-1)) 6 f p) := RW_1 (ρ := sN ρ 6 f p) (by show up2 (chg ρ f (-u) (-1)).1 6 f p = up2 ρ.1 6 f p; rw [d1]) hWa
      have e21 : (sN (chg ρ f (-u) (-1)) 6 f p).1 = (sN ρ 6 f p).1 := by show up2 (chg ρ f (-u) (-1)).1 6 f p = up2 ρ.1 6 f p; rw [d1]
      have hE2 : RE (sN (chg ρ f (-u) (-1)) 6 f p) := by
        unfold RE
        rw [e21]
        exact hEa
      have hf2 : f < (sN (chg ρ f (-u) (-1)) 6 f p).1 10 4 := by rw [e21, c6 10 4 (by decide)]; exact hf
      have ka : kL (sN ρ 6 f p) (chg (sN (chg ρ f (-u) (-1)) 6 f p) f u 1) := by
        refine ⟨fun c i _ _ => by rw [chg_1, e21], fun i => ?_, fun i => ?_, fun i => ?_, fun i => ?_⟩
        · rw [chg_c _ _ _ _ (by omega)]
          show (chg ρ f (-u) (-1)).2.1 9 i = _
          rw [chg_c _ _ _ _ (by omega)]
          rfl
        · rw [chg_c _ _ _ _ (by omega)]
          show (chg ρ f (-u) (-1)).2.1 10 i = _
          rw [chg_c _ _ _ _ (by omega)]
          rfl
        · rw [chg_2]
          show (chg ρ f (-u) (-1)).2.2 8 i = _
          rw [d2]
          rfl
        · rw [chg_2]
          show (chg ρ f (-u) (-1)).2.2 11 i = _
          rw [d2]
          rfl
      have hc2 : ∀ i a, ctL (sN (chg ρ f (-u) (-1)) 6 f p) i a = ctL (sN ρ 6 f p) i a := fun i a => ct_1 (ρ := sN ρ 6 f p) (ρ' := sN (chg ρ f (-u) (-1)) 6 f p) e21 i a
      have h1 : (chg (sN (chg ρ f (-u) (-1)) 6 f p) f u 1).1 = (sN ρ 6 f p).1 := by rw [chg_1, e21]
      have hB2 : (chg (sN (chg ρ f (-u) (-1)) 6 f p) f u 1).2.2 = ρ.2.2 := by
        rw [chg_2]
        exact d2
      have v0 : ∀ c a, c ≠ 4 → c ≠ 5 → c ≠ 6 → (chg (sN (chg ρ f (-u) (-1)) 6 f p) f u 1).2.1 c a = ρ.2.1 c a := fun c a k4 k5 k6 => by
        rw [chg_v0 hW2 hE2 hf2 _ _ k4 k5 k6]
        exact chg_v0 hW hE hf _ _ k4 k5 k6
      have hs3 : Rs (chg (sN (chg ρ f (-u) (-1)) 6 f p) f u 1) (sN S 6 f p) := by
        refine Rs_tr hsa ka kM.rf (by rw [h1]; exact hWa.2.2.2.2.2.1) (by rw [h1]; exact hWa.2.2.2.2.1) ?_
        have hp := hsa.2.2.2.2.1
        unfold Rp
        rw [h1]
        exact hp
      have hcs : ∀ i, i ≠ f → ∀ a, ctL (sN ρ 6 f p) i a = ctL ρ i a := fun i hne a => (row_c (c6 4 i (by decide)) (c6 5 i (by decide)) (by rw [e6, if_neg hne]) (fun k => upn_c (fun q => c6 3 q (by decide)) _ k)).2.2 a
      have hbb : ∀ i, bub (sN ρ 6 f p) i ((sN ρ 6 f p).1 10 5) = bub ρ i (ρ.1 10 5) := fun i => by
        rw [c6 10 5 (by decide)]
        exact bub_c (ρ := ρ) (ρ' := sN ρ 6 f p) (f := i) rfl _ (fun r _ => ⟨rfl, c6 7 r (by decide), rfl⟩)
      have hA3 : Ac (chg (sN (chg ρ f (-u) (-1)) 6 f p) f u 1) := by
        refine Ac_upd h.2.2.2.2.1 (f := f) (fun a => (if ctL ρ f a = true then -u else 0) + (if ctL (sN ρ 6 f p) f a = true then u else 0)) (fun a => (if ctL ρ f a = true then -1 else 0) + (if ctL (sN ρ 6 f p) f a = true then 1 else 0)) hf hW.2.2.2.2.2.1 (fun i => by rw [h1, c6 10 i (by decide)]) (by rw [h1, c6 0 6 (by decide)]) (by rw [hB2]) (fun a ha => ⟨?_, ?_, ?_⟩) (fun i hi hne a => ?_) (fun a => ?_)
        · rw [chg_v4 hW2 hE2 hf2, hc2]
          show (chg ρ f (-u) (-1)).2.1 4 a + _ = _
          rw [chg_v4 hW hE hf, Int32.add_assoc]
        · rw [chg_v5 hW2 hE2 hf2, hc2]
          show (chg ρ f (-u) (-1)).2.1 5 a + _ = _
          rw [chg_v5 hW hE hf, Int32.add_assoc]
        · rw [chg_v6 hW2 hE2 hf2, hc2, e21, c6 0 6 (by decide)]
          show (chg ρ f (-u) (-1)).2.1 6 a + _ = _
          rw [chg_v6 hW hE hf]
          by_cases w : f < ρ.1 0 6
          · rw [if_pos w, if_pos w, if_pos w, Int32.add_assoc]
          · rw [if_neg w, if_neg w, if_neg w, Int32.add_zero]
        · rw [(U_tr ka i a).1, (U_tr ka i a).2]
          exact uW_c (hcs i hne a) rfl (hbb i)
        · rw [(U_tr ka f a).1, (U_tr ka f a).2]
          unfold uW fW
          rw [hbb f, hu]
          show (if ρ.2.2 8 f = false ∧ ctL (sN ρ 6 f p) f a = true then u else 0) = _ ∧ (if ρ.2.2 8 f = false ∧ ctL (sN ρ 6 f p) f a = true then 1 else 0) = _
          rw [hl]
          by_cases w : ctL ρ f a = true
          · by_cases w' : ctL (sN ρ 6 f p) f a = true
            · simp only [w, w', and_self, if_true]
              first | exact ⟨by grind, by decide⟩ | grind | decide
            · simp only [w, w', and_self, if_true, and_false, if_false, Bool.false_eq_true]
              first | exact ⟨by grind, by decide⟩ | grind | decide
          · by_cases w' : ctL (sN ρ 6 f p) f a = true
            · simp only [w, w', and_self, if_true, and_false, if_false, Bool.false_eq_true]
              first | exact ⟨by grind, by decide⟩ | grind | decide
            · simp only [w, w', and_self, if_true, and_false, if_false, Bool.false_eq_true]
              first | exact ⟨by grind, by decide⟩ | grind | decide
      have h10 : ∀ i, (chg (sN (chg ρ f (-u) (-1)) 6 f p) f u 1).1 10 i = ρ.1 10 i := fun i => by rw [h1, c6 10 i (by decide)]
      refine Rel_look hs3 ?_ ⟨by rw [hB2]; exact h.2.2.1.1, by rw [h1, c6 0 6 (by decide)]; exact h.2.2.1.2⟩ ⟨fun i hi => ?_, fun r hr => ?_⟩ hA3 (fun a ha => ?_) (fun a ha ha2 => ?_) (fun r hr ho => ?_) h.2.2.2.2.2.2.2.2
      · unfold Rc
        rw [v0 0 0 (by decide) (by decide) (by decide)]
        exact h.2.1
      · rw [h10] at hi
        rw [v0 9 i (by decide) (by decide) (by decide)]
        exact h.2.2.2.1.1 i hi
      · rw [h10] at hr
        rw [v0 10 r (by decide) (by decide) (by decide)]
        exact h.2.2.2.1.2 r hr
      · rw [h10] at ha
        refine Ra_c (h.2.2.2.2.2.1 a ha).1 (fun c hc => v0 c a (by omega) (by omega) (by omega)) (fun _ _ _ => rfl) ?_
        rw [v0 0 0 (by decide) (by decide) (by decide)]
        exact Int.le_refl _
      · rw [h10] at ha
        exact h.2.2.2.2.2.2.1 a ha ha2
      · rw [h10] at hr
        rw [hB2] at ho ⊢
        rw [h1, c6 7 r (by decide)]
        exact h.2.2.2.2.2.2.2.1 r hr ho
theorem mkB_c (u p : Nat) {c i : Nat} (h11 : c ≠ 11) (h : c ≠ 4 ∧ c ≠ 5 ∧ c ≠ 6 ∨ i ≠ ρ.1 10 4) (h10 : c ≠ 10 ∨ i ≠ 4) : (mkB ρ u p).1 c i = ρ.1 c i := by
  show up2 (up2 (up2 (up2 (up2 ρ.1 11 3 (ρ.1 10 4 + 1)) 4 (ρ.1 10 4) u) 5 (ρ.1 10 4) (6 + u % 3)) 6 (ρ.1 10 4) p) 10 4 (ρ.1 10 4 + 1) c i = _
  rw [up2_ne _ _ h10, up2_ne _ _ (by omega), up2_ne _ _ (by omega), up2_ne _ _ (by omega), up2_ne _ _ (by omega)]
theorem mkB_s (u p : Nat) : (mkB ρ u p).1 4 (ρ.1 10 4) = u ∧ (mkB ρ u p).1 5 (ρ.1 10 4) = 6 + u % 3 ∧ (mkB ρ u p).1 6 (ρ.1 10 4) = p ∧ (mkB ρ u p).1 10 4 = ρ.1 10 4 + 1 ∧ (mkB ρ u p).1 11 3 = ρ.1 10 4 + 1 ∧ ∀ i, i ≠ 3 → (mkB ρ u p).1 11 i = ρ.1 11 i := by
  refine ⟨?_, ?_, ?_, ?_, ?_, fun i hi => ?_⟩ <;> simp [mkB, mkF, fN, sN, sI, sB, up2]
  intro h
  exact absurd h hi
theorem mkB_I (u p : Nat) {c i : Nat} (h : c ≠ 9 ∨ i ≠ ρ.1 10 4) : (mkB ρ u p).2.1 c i = ρ.2.1 c i := up2_ne (c := 9) (i := ρ.1 10 4) ρ.2.1 0 h
theorem mkB_Is (u p : Nat) : (mkB ρ u p).2.1 9 (ρ.1 10 4) = 0 := up2_self ρ.2.1 9 (ρ.1 10 4) 0
theorem mkB_B (u p : Nat) {c i : Nat} (h : c ≠ 8 ∨ i ≠ ρ.1 10 4) : (mkB ρ u p).2.2 c i = ρ.2.2 c i := up2_ne (c := 8) (i := ρ.1 10 4) ρ.2.2 false h
theorem mkB_Bs (u p : Nat) : (mkB ρ u p).2.2 8 (ρ.1 10 4) = false := up2_self ρ.2.2 8 (ρ.1 10 4) false
theorem mkM_c (u p : Nat) {c i : Nat} (h : c ≠ 5 ∧ c ≠ 6 ∨ i ≠ S.1 0 3) (h0 : c ≠ 0 ∨ i ≠ 3) : (mkM S u p).1 c i = S.1 c i := by
  show up2 (up2 (up2 S.1 5 (S.1 0 3) u) 6 (S.1 0 3) p) 0 3 (S.1 0 3 + 1) c i = _
  rw [up2_ne _ _ h0, up2_ne _ _ (by omega), up2_ne _ _ (by omega)]
theorem mkM_s (u p : Nat) : (mkM S u p).1 5 (S.1 0 3) = u ∧ (mkM S u p).1 6 (S.1 0 3) = p ∧ (mkM S u p).1 0 3 = S.1 0 3 + 1 := by
  refine ⟨?_, ?_, ?_⟩ <;> simp [mkM, sN, up2]
theorem Rel_makeFile (h : Rel n ρ S) (hz : S.2.1 7 (S.1 0 3) = 0 ∧ S.2.2 8 (S.1 0 3) = false) {u p : Nat} (hu : u < 6) (hp : p < ρ.1 10 3) (h40 : ρ.1 10 4 < 40) : Rel n (chg (mkB ρ u p) (ρ.1 10 4) 0 1) (mkM S u p) := by
  have hW := h.1.1
  have hE := h.1.2.1
  have hf3 := h.1.2.2.2.2.2.1.1
  obtain ⟨s4, s5, s6, s10, s11, s11o⟩ := mkB_s (ρ := ρ) u p
  obtain ⟨t5, t6, t3⟩ := mkM_s (S := S) u p
  have hWb : RW (mkB ρ u p) := sN_10_4 (fN_W hW hE.1.2.1 h40 hu ⟨by omega, by omega⟩ (np_lt hW hE hp)) (by simp [mkF, fN, sN, sI, sB, up2]) (Nat.le_succ _)
  have hEb : RE (mkB ρ u p) := by
    obtain ⟨⟨g1, g2, g3⟩, g4⟩ := hE
    refine ⟨⟨?_, ?_, ?_⟩, ?_⟩
    · rw [s11o 2 (by decide), mkB_c u p (by decide) (Or.inl (by decide)) (Or.inr (by decide))]
      exact g1
    · rw [s11, s10]
    · rw [s11o 4 (by decide), mkB_c u p (by decide) (Or.inl (by decide)) (Or.inr (by decide))]
      exact g3
    · rw [mkB_c u p (by decide) (Or.inl (by decide)) (Or.inl (by decide))]
      exact g4
  have h3 : ∀ q, (mkB ρ u p).1 3 q = ρ.1 3 q := fun q => mkB_c u p (by decide) (Or.inl (by decide)) (Or.inl (by decide))
  have c10 : ∀ i, i ≠ 4 → (mkB ρ u p).1 10 i = ρ.1 10 i := fun i hi => mkB_c u p (by decide) (Or.inl (by decide)) (Or.inr hi)
  have hsb : Rs (mkB ρ u p) (mkM S u p) := by
    refine Rs_fr h.1 hWb hEb (mkB_c u p (by decide) (Or.inl (by decide)) (Or.inl (by decide))) (fun c i hc => mkB_c u p (by omega) (Or.inl (by omega)) (Or.inl (by omega))) (c10 3 (by decide)) ⟨mkM_c u p (Or.inl (by decide)) (Or.inr (by decide)), mkM_c u p (Or.inl (by decide)) (Or.inr (by decide))⟩ (fun p => mkM_c u _ (Or.inl (by decide)) (Or.inl (by decide))) (fun _ _ _ => rfl) ⟨by rw [t3, s10, hf3], fun i hi => ?_⟩ ⟨?_, fun r hr => ?_⟩
    · rw [s10] at hi
      by_cases w : i = ρ.1 10 4
      · rw [w, s4, s5, s6, mkB_Is, mkB_Bs, ← hf3, t5, t6]
        exact ⟨rfl, rfl, rfl, hz.1, hz.2⟩
      · rw [mkB_c u p (c := 4) (by decide) (Or.inr w) (Or.inl (by decide)), mkB_c u p (c := 5) (by decide) (Or.inr w) (Or.inl (by decide)), mkB_c u p (c := 6) (by decide) (Or.inr w) (Or.inl (by decide)), mkB_I u p (Or.inr w), mkB_B u p (Or.inr w), mkM_c u p (c := 5) (Or.inr (by omega)) (Or.inl (by decide)), mkM_c u p (c := 6) (Or.inr (by omega)) (Or.inl (by decide))]
        exact h.1.2.2.2.2.2.1.2 i (by omega)
    · rw [mkM_c u p (Or.inl (by decide)) (Or.inr (by decide)), c10 5 (by decide)]
      exact h.1.2.2.2.2.2.2.1
    · rw [c10 5 (by decide)] at hr
      rw [mkM_c u p (c := 9) (Or.inl (by decide)) (Or.inl (by decide)), mkB_c u p (c := 7) (by decide) (Or.inl (by decide)) (Or.inl (by decide)), mkB_I u p (Or.inl (by decide)), mkB_B u p (Or.inl (by decide))]
      exact h.1.2.2.2.2.2.2.2 r hr
  have hfb : ρ.1 10 4 < (mkB ρ u p).1 10 4 := by rw [s10]; exact Nat.lt_succ_self _
  have k2 : kL (mkB ρ u p) (chg (mkB ρ u p) (ρ.1 10 4) 0 1) := kL_chg _ _ _
  have e1 := chg_1 (mkB ρ u p) (ρ.1 10 4) 0 1
  have e2 := chg_2 (mkB ρ u p) (ρ.1 10 4) 0 1
  have hs2 : Rs (chg (mkB ρ u p) (ρ.1 10 4) 0 1) (mkM S u p) := by
    refine Rs_tr hsb k2 kM.rf (by rw [e1]; exact hWb.2.2.2.2.2.1) (by rw [e1]; exact hWb.2.2.2.2.1) ?_
    have hp := hsb.2.2.2.2.1
    unfold Rp
    rw [e1]
    exact hp
  have v0 : ∀ c a, c ≠ 4 → c ≠ 5 → c ≠ 6 → c ≠ 9 → (chg (mkB ρ u p) (ρ.1 10 4) 0 1).2.1 c a = ρ.2.1 c a := fun c a k4 k5 k6 k9 => by
    rw [chg_v0 hWb hEb hfb _ _ k4 k5 k6, mkB_I u p (Or.inl k9)]
  have hr7 : ∀ r, r < ρ.1 10 5 → ρ.1 7 r < ρ.1 10 4 := fun r hr => by
    have h1 := hW.2.2.2.2.2.2.2.2 r (by have := hE.1.2.2; omega)
    have := hE.1.2.1
    omega
  have hbi : ∀ i, i < ρ.1 10 4 → ∀ a, uW (chg (mkB ρ u p) (ρ.1 10 4) 0 1) i a = uW ρ i a ∧ fW (chg (mkB ρ u p) (ρ.1 10 4) 0 1) i a = fW ρ i a := fun i hi a => by
    rw [(U_tr k2 i a).1, (U_tr k2 i a).2]
    refine uW_c ((row_c (mkB_c u p (by decide) (Or.inr (by omega)) (Or.inl (by decide))) (mkB_c u p (by decide) (Or.inr (by omega)) (Or.inl (by decide))) (mkB_c u p (by decide) (Or.inr (by omega)) (Or.inl (by decide))) (fun k => upn_c h3 _ k)).2.2 a) (mkB_B u p (Or.inr (by omega))) ?_
    rw [c10 5 (by decide)]
    exact bub_c (mkB_I u p (Or.inr (by omega))) _ (fun r _ => ⟨mkB_B u p (Or.inl (by decide)), mkB_c u p (by decide) (Or.inl (by decide)) (Or.inl (by decide)), mkB_I u p (Or.inl (by decide))⟩)
  have hbn : ∀ a, uW (chg (mkB ρ u p) (ρ.1 10 4) 0 1) (ρ.1 10 4) a = 0 ∧ fW (chg (mkB ρ u p) (ρ.1 10 4) 0 1) (ρ.1 10 4) a = if ctL (mkB ρ u p) (ρ.1 10 4) a = true then 1 else 0 := fun a => by
    rw [(U_tr k2 _ a).1, (U_tr k2 _ a).2]
    have hb0 : bub (mkB ρ u p) (ρ.1 10 4) ((mkB ρ u p).1 10 5) = 0 := by
      rw [bub_s, mkB_Is, c10 5 (by decide), isum_c (g := fun _ => 0) (g' := bt (mkB ρ u p) (ρ.1 10 4)) _ (fun r hr => ?_)]
      · have e0 : ∀ k, isum (fun _ => 0) k = 0 := by
          intro k
          induction k with
          | zero => rfl
          | succ k ih =>
            unfold isum
            rw [ih]
            rfl
        rw [e0]
        rfl
      · unfold bt
        rw [if_neg (fun z => ?_)]
        have := hr7 r hr
        have z2 := z.2
        rw [mkB_c u p (c := 7) (by decide) (Or.inl (by decide)) (Or.inl (by decide))] at z2
        omega
    unfold uW fW
    rw [hb0, mkB_Bs]
    refine ⟨by split <;> rfl, ?_⟩
    by_cases w : ctL (mkB ρ u p) (ρ.1 10 4) a = true
    · rw [if_pos w, if_pos ⟨rfl, w⟩]
    · rw [if_neg w, if_neg (fun v => w v.2)]
  have h10 : ∀ i, (chg (mkB ρ u p) (ρ.1 10 4) 0 1).1 10 i = (mkB ρ u p).1 10 i := fun i => by rw [e1]
  have hus : ∀ a k, k ≤ ρ.1 10 4 → usum (chg (mkB ρ u p) (ρ.1 10 4) 0 1) a k = usum ρ a k := fun a k hk => isum_c k (fun i hi => (hbi i (by omega) a).1)
  have hfs : ∀ a k, k ≤ ρ.1 10 4 → fsum (chg (mkB ρ u p) (ρ.1 10 4) 0 1) a k = fsum ρ a k := fun a k hk => isum_c k (fun i hi => (hbi i (by omega) a).2)
  have htk : (chg (mkB ρ u p) (ρ.1 10 4) 0 1).1 0 6 = ρ.1 0 6 := by rw [e1, mkB_c u p (by decide) (Or.inl (by decide)) (Or.inl (by decide))]
  have hA : Ac (chg (mkB ρ u p) (ρ.1 10 4) 0 1) := by
    intro a ha
    rw [h10, c10 3 (by decide)] at ha
    obtain ⟨a1, a2, a3⟩ := h.2.2.2.2.1 a ha
    rw [h10, s10, htk, chg_v4 hWb hEb hfb, chg_v5 hWb hEb hfb, chg_v6 hWb hEb hfb, mkB_I u p (Or.inl (by decide)), mkB_I u p (Or.inl (by decide)), mkB_I u p (Or.inl (by decide)), e2, mkB_B u p (Or.inl (by decide)), mkB_c u p (c := 0) (by decide) (Or.inl (by decide)) (Or.inl (by decide))]
    have z0 : (if ctL (mkB ρ u p) (ρ.1 10 4) a = true then (0 : Int32) else 0) = 0 := by split <;> rfl
    refine ⟨?_, ?_, fun hb => ?_⟩
    · show _ = usum _ a (ρ.1 10 4) + uW _ (ρ.1 10 4) a
      rw [hus a _ (Nat.le_refl _), (hbn a).1, a1, z0]
    · show _ = fsum _ a (ρ.1 10 4) + fW _ (ρ.1 10 4) a
      rw [hfs a _ (Nat.le_refl _), (hbn a).2, a2]
    · rw [hus a _ hW.2.2.2.2.2.1, a3 hb, if_neg (by have := hW.2.2.2.2.2.1; omega), Int32.add_zero]
  refine ⟨hs2, ?_, ⟨?_, ?_⟩, ⟨fun i hi => ?_, fun r hr => ?_⟩, hA, fun a ha => ⟨?_, ?_⟩, fun a ha ha2 => ?_, fun r hr ho => ?_, h.2.2.2.2.2.2.2.2⟩
  · unfold Rc
    rw [v0 0 0 (by decide) (by decide) (by decide) (by decide)]
    exact h.2.1
  · rw [e2, mkB_B u p (Or.inl (by decide))]
    exact h.2.2.1.1
  · rw [htk, mkM_c u p (Or.inl (by decide)) (Or.inr (by decide))]
    exact h.2.2.1.2
  · rw [h10, s10] at hi
    rw [chg_v0 hWb hEb hfb _ _ (by decide) (by decide) (by decide)]
    by_cases w : i = ρ.1 10 4
    · rw [w, mkB_Is]
      have e0 : (0 : Int32).toInt = 0 := by decide
      rw [e0]
      omega
    · rw [mkB_I u p (Or.inr w)]
      exact h.2.2.2.1.1 i (by omega)
  · rw [h10, c10 5 (by decide)] at hr
    rw [v0 10 r (by decide) (by decide) (by decide) (by decide)]
    exact h.2.2.2.1.2 r hr
  · rw [h10, c10 3 (by decide)] at ha
    refine Ra_c (h.2.2.2.2.2.1 a ha).1 (fun c hc => v0 c a (by omega) (by omega) (by omega) (by omega)) (fun _ _ _ => rfl) ?_
    rw [v0 0 0 (by decide) (by decide) (by decide) (by decide)]
    exact Int.le_refl _
  · rw [h10, c10 3 (by decide)] at ha
    refine lkA_cc (h.2.2.2.2.2.1 a ha).2 (Rc_m1 h.2.1) rfl rfl ?_
    rw [t3, hf3, sum_u hs2 (by rw [h10, c10 3 (by decide)]; exact ha) _ (by rw [h10, s10]; exact Nat.le_refl _), sum_u h.1 ha _ (Nat.le_refl _)]
    show usum _ a (ρ.1 10 4) + uW _ (ρ.1 10 4) a = _
    rw [hus a _ (Nat.le_refl _), (hbn a).1, Int32.add_zero]
  · rw [h10, c10 3 (by decide)] at ha
    exact h.2.2.2.2.2.2.1 a ha ha2
  · rw [h10, c10 5 (by decide)] at hr
    rw [e2] at ho ⊢
    rw [e1, mkB_c u p (c := 7) (by decide) (Or.inl (by decide)) (Or.inl (by decide)), mkB_B u p (Or.inr (by have := hr7 r hr; omega))]
    rw [mkB_B u p (Or.inl (by decide))] at ho
    exact h.2.2.2.2.2.2.2.1 r hr ho
theorem m_makeFile (h : Rel n ρ S) (hn : n ≤ 600) (hz : S.2.1 7 (S.1 0 3) = 0 ∧ S.2.2 8 (S.1 0 3) = false) {cd : String → Int32} (hi : cd eI = 1) (hS : cd eS = 2) (x y : Int32) : Mt cd n ρ (lo_makeFile ρ x y) (mo_makeFile S x y) := by
  have hPq := isP_eq h y
  have hf3 := h.1.2.2.2.2.2.1.1
  have w3 := h.1.1.2.2.1
  have e6 : (decide (0 ≤ x) && decide (x ≤ 5)) = inR x 6 := by
    unfold inR
    congr 1
    exact decide_eq_decide.mpr (by have := lt_pred (x := x) (n := 6) (by decide); rwa [show nI 6 - 1 = 5 by decide] at this)
  by_cases z : inR x 6 = false ∨ inR y (ρ.1 10 3) = false
  · refine Mt.no (z := 0) (w := 1) (S := S) (E := eI) (by rw [lo_makeFile, if_pos z]) eI_n ?_ hi.symm h
    rw [mo_makeFile, rf_makeFile, e6, hPq, if_pos (Bool.and_eq_false_iff.mpr z)]
    rfl
  · have z' : ¬ (inR x 6 && inR y (ρ.1 10 3)) = false := fun w => z (Bool.and_eq_false_iff.mp w)
    by_cases q : 40 ≤ ρ.1 10 4
    · refine Mt.no (z := 0) (w := 2) (S := S) (E := eS) (by rw [lo_makeFile, if_neg z, if_pos q]) eS_n ?_ hS.symm h
      rw [mo_makeFile, rf_makeFile, e6, hPq, if_neg z', if_pos (by omega)]
      rfl
    · have w2 := h.1.1.2.1
      have z1 : inR x 6 = true := by
        by_cases w : inR x 6 = true
        · exact w
        · exact absurd (Or.inl (by simpa using w)) z
      have z2 : inR y (ρ.1 10 3) = true := by
        by_cases w : inR y (ρ.1 10 3) = true
        · exact w
        · exact absurd (Or.inr (by simpa using w)) z
      obtain ⟨u, hu, ex, ec⟩ := inR_nI (by omega) z1
      obtain ⟨p, hp, ey, ec'⟩ := inR_nI (by omega) z2
      obtain ⟨s4, s5, s6, s10, s11, s11o⟩ := mkB_s (ρ := ρ) u p
      have g4 : (mkF ρ u p).1 4 (ρ.1 10 4) = u := s4
      have g5 : (mkF ρ u p).1 5 (ρ.1 10 4) = 6 + u % 3 := s5
      have g6 : (mkF ρ u p).1 6 (ρ.1 10 4) = p := s6
      rw [lo_makeFile, if_neg z, if_neg q, ec, ec', mo_makeFile, ec, ec', bar_row h hn (ρ' := mkF ρ u p) (fun c q hc => ?_) (Or.inr (fun c a hc => mkB_I u p (Or.inl (by omega)))) hu g4 g5 g6 hp 0 1, hf3]
      · refine br_eq h (fun _ => ?_) (by rw [rf_makeFile, e6, hPq, if_neg z', if_neg (by omega)])
        have key := (Rel_makeFile h hz hu hp (by omega)).mono
        unfold mkM at key
        rw [hf3] at key
        exact key
      · subst hc
        exact mkB_c (ρ := ρ) u p (c := 3) (by decide) (Or.inl (by decide)) (Or.inl (by decide))
end RL11
