/-! ===== what holds of a ledger's state behind n acts ===== -/
/-- the buffer's letters, and those of the projects but the root -/
def LB (ρ : gSt) : Prop := (∀ i, i < ρ.1 0 0 → 97 ≤ ρ.1 1 i) ∧ ∀ p, p < ρ.1 10 3 → p ≠ 0 → 97 ≤ ρ.1 2 p
def Iv (n : Nat) (ρ : gSt) : Prop := (∃ S, Rel n ρ S ∧ Rz S) ∧ LB ρ
/-- the buffer, the letters, the numbers of projects and files, which files are deleted: kept -/
def kB (ρ ρ' : gSt) : Prop := (ρ'.1 0 0 = ρ.1 0 0 ∧ ρ'.1 10 3 = ρ.1 10 3 ∧ ρ'.1 10 4 = ρ.1 10 4) ∧ (∀ c i, c = 1 ∨ c = 2 → ρ'.1 c i = ρ.1 c i) ∧ ∀ f, ρ'.2.2 8 f = ρ.2.2 8 f
section IV
variable {n : Nat} {ρ ρ' ρ1 : gSt}
theorem Iv.w (h : Iv n ρ) : RW ρ ∧ RE ρ := by
  obtain ⟨⟨S, hR, -⟩, -⟩ := h
  exact ⟨hR.1.1, hR.1.2.1⟩
theorem Iv.mono (h : Iv n ρ) : Iv (n + 1) ρ := by
  obtain ⟨⟨S, hR, hz⟩, hl⟩ := h
  exact ⟨⟨S, hR.mono, hz⟩, hl⟩
theorem Iv.le (h : Iv n ρ) : ∀ d, Iv (n + d) ρ := by
  intro d
  induction d with
  | zero => exact h
  | succ d ih => exact ih.mono
theorem kB.rf : kB ρ ρ := ⟨⟨rfl, rfl, rfl⟩, fun _ _ _ => rfl, fun _ => rfl⟩
theorem kB.trans (h : kB ρ ρ1) (h2 : kB ρ1 ρ') : kB ρ ρ' := ⟨⟨h2.1.1.trans h.1.1, h2.1.2.1.trans h.1.2.1, h2.1.2.2.trans h.1.2.2⟩, fun c i hc => (h2.2.1 c i hc).trans (h.2.1 c i hc), fun f => (h2.2.2 f).trans (h.2.2 f)⟩
theorem kB.of (h1 : ρ'.1 = ρ.1) (h2 : ρ'.2.2 = ρ.2.2) : kB ρ ρ' := ⟨⟨by rw [h1], by rw [h1], by rw [h1]⟩, fun c i _ => by rw [h1], fun f => by rw [h2]⟩
theorem kB.un (ρ : gSt) {c i v : Nat} (h1 : c ≠ 1) (h2 : c ≠ 2) (h0 : c ≠ 0 ∨ i ≠ 0) (h3 : c ≠ 10 ∨ (i ≠ 3 ∧ i ≠ 4)) : kB ρ (sN ρ c i v) := by
  refine ⟨⟨up2_ne ρ.1 v (by omega), up2_ne ρ.1 v (by omega), up2_ne ρ.1 v (by omega)⟩, fun c' i' hc => up2_ne ρ.1 v (by omega), fun _ => rfl⟩
theorem kB.ub (ρ : gSt) {c i : Nat} {v : Bool} (h : c ≠ 8) : kB ρ (sB ρ c i v) := ⟨⟨rfl, rfl, rfl⟩, fun _ _ _ => rfl, fun f => up2_ne ρ.2.2 v (by omega)⟩
theorem kB.ui (ρ : gSt) {c i : Nat} {v : Int32} : kB ρ (sI ρ c i v) := kB.of rfl rfl
theorem kB.chg (f : Nat) (b m : Int32) : kB ρ (chg ρ f b m) := kB.of (chg_1 ρ f b m) (chg_2 ρ f b m)
theorem kB.nt : kB ρ (ntS ρ) := kB.of (ntS_1 ρ) ntS_2
theorem kB.live (h : kB ρ ρ') (x : Int32) : lvf ρ' x = lvf ρ x := by
  unfold lvf
  rw [h.1.2.2, h.2.2]
theorem LB.k (h : LB ρ) (hk : kB ρ ρ') : LB ρ' := ⟨fun i hi => by
  rw [hk.1.1] at hi
  rw [hk.2.1 1 i (Or.inl rfl)]
  exact h.1 i hi, fun p hp h0 => by
  rw [hk.1.2.1] at hp
  rw [hk.2.1 2 p (Or.inr rfl)]
  exact h.2 p hp h0⟩
theorem nx_k {L : lRes} (h : kB ρ L.2.2) : kB ρ (nx ρ L) := by
  unfold nx
  split
  · exact h
  · exact kB.rf
theorem lb2_k {o : Option Nat} {T : Int32 × gSt} (h : kB ρ T.2) : kB ρ (lb2 ρ o T).2.2 := by
  cases o with
  | none => exact h
  | some p => exact kB.rf
theorem k_move (x : Int32) : kB ρ (nx ρ (lo_moveProject ρ x)) := nx_k (by
  unfold lo_moveProject
  split
  · exact kB.rf
  · split
    · exact kB.rf
    · split
      · exact kB.rf
      · split
        · exact kB.rf
        · rename_i t _ _ _
          refine kB.trans (ρ1 := mvL1 ρ x.toNatClampNeg t) ?_ ?_
          · exact kB.trans (kB.of (cfw_12 ρ _ _ _).1 (cfw_12 ρ _ _ _).2) (kB.un _ (by decide) (by decide) (Or.inl (by decide)) (Or.inl (by decide)))
          · exact kB.trans (kB.of (cfw_12 _ _ _ _).1 (cfw_12 _ _ _ _).2) kB.nt)
theorem k_write (x b : Int32) : kB ρ (nx ρ (lo_write ρ x b)) := nx_k (by
  unfold lo_write
  split
  · exact kB.rf
  · split
    · exact kB.rf
    · exact lb2_k (((kB.ui ρ).trans (kB.chg _ _ _)).trans kB.nt))
theorem k_moveFile (x y : Int32) : kB ρ (nx ρ (lo_moveFile ρ x y)) := nx_k (by
  unfold lo_moveFile
  split
  · exact kB.rf
  · split
    · exact kB.rf
    · exact (((kB.chg _ _ _).trans (kB.un _ (by decide) (by decide) (Or.inl (by decide)) (Or.inl (by decide)))).trans (kB.chg _ _ _)).trans kB.nt)
theorem k_reserve (x b : Int32) : kB ρ (nx ρ (lo_reserve ρ x b)) := nx_k (by
  unfold lo_reserve
  split
  · exact kB.rf
  · split
    · exact kB.rf
    · split
      · exact kB.rf
      · refine lb2_k (((kB.trans (ρ1 := rN ρ (ρ.1 10 5) x.toNatClampNeg b) ?_ (kB.un _ (by decide) (by decide) (Or.inl (by decide)) (Or.inr (by decide)))).trans (kB.chg _ _ _)).trans kB.nt)
        exact ((kB.un ρ (c := 11) (by decide) (by decide) (Or.inl (by decide)) (Or.inl (by decide))).trans (kB.un _ (c := 7) (by decide) (by decide) (Or.inl (by decide)) (Or.inl (by decide)))).trans ((kB.ui _).trans (kB.ub _ (by decide))))
theorem k_settle (x b : Int32) : kB ρ (nx ρ (lo_settle ρ x b)) := nx_k (by
  unfold lo_settle
  split
  · exact kB.rf
  · split
    · exact kB.rf
    · exact (((kB.ub ρ (by decide)).trans (kB.ui _)).trans (kB.chg _ _ _)).trans kB.nt)
theorem k_setLimits (kd x s h f : Int32) : kB ρ (nx ρ (lo_setLimits ρ kd x s h f)) := nx_k (by
  unfold lo_setLimits
  split
  · exact kB.rf
  · split
    · exact kB.rf
    · exact kB.of rfl rfl)
theorem k_pass (x : Int32) : kB ρ (nx ρ (lo_pass ρ x)) := nx_k (by
  unfold lo_pass
  split
  · exact kB.rf
  · split
    · exact kB.rf
    · exact kB.ui ρ)
theorem k_begin : kB ρ (lo_beginRecount ρ).2.2 := ((kB.ub ρ (c := 0) (i := 5) (v := true) (by decide)).trans (kB.un _ (c := 0) (i := 6) (v := 0) (by decide) (by decide) (Or.inr (by decide)) (Or.inl (by decide)))).trans (kB.of (bgN_1 _ _) (bgN_2 _))
theorem k_rcN : ∀ (k : Nat) (ρ : gSt), kB ρ (rcN ρ k) := by
  intro k
  induction k with
  | zero => intro ρ; exact kB.rf
  | succ k ih =>
    intro ρ
    unfold rcN
    split
    · exact ((kB.of (tkS_1 ρ _) (tkS_2 _)).trans (kB.un _ (by decide) (by decide) (Or.inr (by decide)) (Or.inl (by decide)))).trans (ih _)
    · exact kB.rf
theorem k_recount (x : Int32) : kB ρ (nx ρ (lo_recount ρ x)) := nx_k (by
  unfold lo_recount
  split
  · exact kB.rf
  · split
    · exact kB.rf
    · exact k_rcN _ ρ)
/-! the others: what they leave of the letters and the files -/
theorem l_type (h : LB ρ) (c : Int32) : LB (nx ρ (lo_type ρ c)) := by
  unfold nx lo_type
  by_cases h1 : c < 97 ∨ 122 < c
  · rw [if_pos h1]
    split <;> exact h
  · rw [if_neg h1]
    by_cases h2 : 8 ≤ ρ.1 0 0
    · rw [if_pos h2]
      split <;> exact h
    · rw [if_neg h2, if_pos rfl]
      have h3 : 97 ≤ c.toNatClampNeg := by
        have h4 : ¬ c < 97 := fun z => h1 (Or.inl z)
        rw [Int32.lt_iff_toInt_lt, show (97 : Int32).toInt = 97 by decide] at h4
        rw [show c.toNatClampNeg = c.toInt.toNat from rfl]
        omega
      refine ⟨fun i hi => ?_, fun p hp h0 => ?_⟩
      · have hi : i < up2 (up2 ρ.1 1 (ρ.1 0 0) c.toNatClampNeg) 0 0 (ρ.1 0 0 + 1) 0 0 := hi
        rw [up2_self] at hi
        show 97 ≤ up2 (up2 ρ.1 1 (ρ.1 0 0) c.toNatClampNeg) 0 0 (ρ.1 0 0 + 1) 1 i
        rw [up2_ne _ _ (Or.inl (by decide))]
        by_cases z : i = ρ.1 0 0
        · rw [z, up2_self]
          exact h3
        · rw [up2_ne _ _ (Or.inr z)]
          exact h.1 i (by omega)
      · have hp : p < up2 (up2 ρ.1 1 (ρ.1 0 0) c.toNatClampNeg) 0 0 (ρ.1 0 0 + 1) 10 3 := hp
        rw [up2_ne _ _ (Or.inl (by decide)), up2_ne _ _ (Or.inl (by decide))] at hp
        show 97 ≤ up2 (up2 ρ.1 1 (ρ.1 0 0) c.toNatClampNeg) 0 0 (ρ.1 0 0 + 1) 2 p
        rw [up2_ne _ _ (Or.inl (by decide)), up2_ne _ _ (Or.inl (by decide))]
        exact h.2 p hp h0
theorem l_cut (h : LB ρ) {k : Nat} (hk : k ≤ ρ.1 0 0) : LB (sN ρ 0 0 k) := by
  refine ⟨fun i hi => ?_, fun p hp h0 => ?_⟩
  · have hi : i < up2 ρ.1 0 0 k 0 0 := hi
    rw [up2_self] at hi
    show 97 ≤ up2 ρ.1 0 0 k 1 i
    rw [up2_ne _ _ (Or.inl (by decide))]
    exact h.1 i (by omega)
  · have hp : p < up2 ρ.1 0 0 k 10 3 := hp
    rw [up2_ne _ _ (Or.inl (by decide))] at hp
    show 97 ≤ up2 ρ.1 0 0 k 2 p
    rw [up2_ne _ _ (Or.inl (by decide))]
    exact h.2 p hp h0
theorem l_back (h : LB ρ) : LB (nx ρ (lo_back ρ)) := by
  unfold nx lo_back
  by_cases h1 : ρ.1 0 0 = 0
  · rw [if_pos h1]
    split <;> exact h
  · rw [if_neg h1, if_pos rfl]
    exact l_cut h (Nat.sub_le _ _)
theorem l_clear (h : LB ρ) : LB (lo_clearPath ρ).2.2 := l_cut h (Nat.zero_le _)
theorem mk_b (q w c i : Nat) (hc : c = 0 ∨ c = 1 ∨ c = 8) : (sN (mkP ρ q w) 10 3 (ρ.1 10 3 + 1)).1 c i = ρ.1 c i := by
  show up2 (mkP ρ q w).1 10 3 (ρ.1 10 3 + 1) c i = _
  rw [up2_ne _ _ (Or.inl (by omega)), mkP_c ρ q w (by omega) (by omega) (by omega)]
theorem l_makeProject (h : LB ρ) (hE : RE ρ) : LB (nx ρ (lo_makeProject ρ)) := by
  unfold nx lo_makeProject
  by_cases h1 : ρ.1 0 0 = 0 ∨ pop ρ (ρ.1 0 0) ≠ none
  · rw [if_pos h1]
    split <;> exact h
  · rw [if_neg h1]
    cases hq : pop ρ (ρ.1 0 0 - 1) with
    | none =>
      show LB (if eS = "" then ρ else ρ)
      split <;> exact h
    | some q =>
      by_cases h2 : 21 ≤ ρ.1 10 3
      · show LB (if (if 21 ≤ ρ.1 10 3 then ((eS, 0, ρ) : lRes) else _).1 = "" then (if 21 ≤ ρ.1 10 3 then ((eS, 0, ρ) : lRes) else _).2.2 else ρ)
        rw [if_pos h2]
        split <;> exact h
      · show LB (if (if 21 ≤ ρ.1 10 3 then ((eS, 0, ρ) : lRes) else _).1 = "" then (if 21 ≤ ρ.1 10 3 then ((eS, 0, ρ) : lRes) else _).2.2 else ρ)
        rw [if_neg h2, if_pos rfl]
        have h0 : ρ.1 0 0 ≠ 0 := fun z => h1 (Or.inl z)
        refine ⟨fun i hi => ?_, fun p hp hp0 => ?_⟩
        · rw [mk_b _ _ _ _ (Or.inl rfl)] at hi
          rw [mk_b _ _ _ _ (Or.inr (Or.inl rfl))]
          exact h.1 i hi
        · have hp : p < up2 (mkP ρ q (ρ.1 1 (ρ.1 0 0 - 1))).1 10 3 (ρ.1 10 3 + 1) 10 3 := hp
          rw [up2_self] at hp
          show 97 ≤ up2 (mkP ρ q (ρ.1 1 (ρ.1 0 0 - 1))).1 10 3 (ρ.1 10 3 + 1) 2 p
          rw [up2_ne _ _ (Or.inl (by decide))]
          have e := hE.1.1
          by_cases z : p = ρ.1 11 2
          · rw [z, show (mkP ρ q (ρ.1 1 (ρ.1 0 0 - 1))).1 2 (ρ.1 11 2) = ρ.1 1 (ρ.1 0 0 - 1) by simp [mkP, aP, setA, pN, sN, up2]]
            exact h.1 _ (by omega)
          · rw [mkP_i ρ q _ (by decide) z]
            exact h.2 p (by omega) hp0
/-- makeFile: the letters kept; a file made -/
theorem mf_b (u p c i : Nat) (hc : c = 0 ∨ c = 1 ∨ c = 2 ∨ (c = 10 ∧ i ≠ 4)) : (chg (sN (mkF ρ u p) 10 4 (ρ.1 10 4 + 1)) (ρ.1 10 4) 0 1).1 c i = ρ.1 c i := by
  rw [chg_1]
  show up2 (mkF ρ u p).1 10 4 (ρ.1 10 4 + 1) c i = _
  rw [up2_ne _ _ (by omega)]
  show up2 (up2 (up2 (up2 ρ.1 11 3 _) 4 _ _) 5 _ _) 6 _ _ c i = _
  rw [up2_ne _ _ (Or.inl (by omega)), up2_ne _ _ (Or.inl (by omega)), up2_ne _ _ (Or.inl (by omega)), up2_ne _ _ (Or.inl (by omega))]
theorem mf_s (u p : Nat) : (chg (sN (mkF ρ u p) 10 4 (ρ.1 10 4 + 1)) (ρ.1 10 4) 0 1).1 10 4 = ρ.1 10 4 + 1 ∧ ∀ f, (chg (sN (mkF ρ u p) 10 4 (ρ.1 10 4 + 1)) (ρ.1 10 4) 0 1).2.2 8 f = if f = ρ.1 10 4 then false else ρ.2.2 8 f := by
  refine ⟨?_, fun f => ?_⟩
  · rw [chg_1]
    exact up2_self (mkF ρ u p).1 10 4 _
  · rw [chg_2]
    show up2 ρ.2.2 8 (ρ.1 10 4) false 8 f = _
    by_cases z : f = ρ.1 10 4
    · rw [if_pos z, z, up2_self]
    · rw [if_neg z, up2_ne _ _ (Or.inr z)]
theorem l_makeFile (h : LB ρ) (x y : Int32) : LB (nx ρ (lo_makeFile ρ x y)) := by
  unfold nx lo_makeFile
  by_cases h1 : inR x 6 = false ∨ inR y (ρ.1 10 3) = false
  · rw [if_pos h1]
    split <;> exact h
  · rw [if_neg h1]
    by_cases h2 : 40 ≤ ρ.1 10 4
    · rw [if_pos h2]
      split <;> exact h
    · rw [if_neg h2, if_pos lb2_fst]
      cases bpl (mkF ρ x.toNatClampNeg y.toNatClampNeg) (ρ.1 10 4) 0 1 with
      | some p => exact h
      | none =>
        refine ⟨fun i hi => ?_, fun p hp h0 => ?_⟩
        · have hi : i < (chg (sN (mkF ρ x.toNatClampNeg y.toNatClampNeg) 10 4 (ρ.1 10 4 + 1)) (ρ.1 10 4) 0 1).1 0 0 := hi
          rw [mf_b _ _ _ _ (Or.inl rfl)] at hi
          show 97 ≤ (chg (sN (mkF ρ x.toNatClampNeg y.toNatClampNeg) 10 4 (ρ.1 10 4 + 1)) (ρ.1 10 4) 0 1).1 1 i
          rw [mf_b _ _ _ _ (Or.inr (Or.inl rfl))]
          exact h.1 i hi
        · have hp : p < (chg (sN (mkF ρ x.toNatClampNeg y.toNatClampNeg) 10 4 (ρ.1 10 4 + 1)) (ρ.1 10 4) 0 1).1 10 3 := hp
          rw [mf_b _ _ _ _ (Or.inr (Or.inr (Or.inr ⟨rfl, by decide⟩)))] at hp
          show 97 ≤ (chg (sN (mkF ρ x.toNatClampNeg y.toNatClampNeg) 10 4 (ρ.1 10 4 + 1)) (ρ.1 10 4) 0 1).1 2 p
          rw [mf_b _ _ _ _ (Or.inr (Or.inr (Or.inl rfl)))]
          exact h.2 p hp h0
/-- delete: the file is deleted -/
theorem dl_1 (f : Nat) : (ntS (dlL ρ f)).1 = ρ.1 := by
  rw [ntS_1]
  show (sB (chg ρ f _ _) 8 f true).1 = ρ.1
  exact chg_1 ρ f _ _
theorem dl_8 (f g : Nat) : (ntS (dlL ρ f)).2.2 8 g = if g = f then true else ρ.2.2 8 g := by
  rw [ntS_2]
  show (if 8 = 11 ∧ g < ρ.1 10 5 ∧ (sB (chg ρ f (-(bub ρ f (ρ.1 10 5))) (-1)) 8 f true).1 7 g = f then false else up2 (chg ρ f (-(bub ρ f (ρ.1 10 5))) (-1)).2.2 8 f true 8 g) = _
  rw [if_neg (fun z => absurd z.1 (by decide)), chg_2]
  by_cases z : g = f
  · rw [if_pos z, z, up2_self]
  · rw [if_neg z, up2_ne _ _ (Or.inr z)]
theorem l_delete (h : LB ρ) (x : Int32) : LB (nx ρ (lo_delete ρ x)) := by
  unfold nx lo_delete
  by_cases h1 : lvf ρ x = false
  · rw [if_pos h1]
    split <;> exact h
  · rw [if_neg h1, if_pos rfl]
    refine ⟨fun i hi => ?_, fun p hp h0 => ?_⟩
    · rw [dl_1] at hi ⊢
      exact h.1 i hi
    · rw [dl_1] at hp ⊢
      exact h.2 p hp h0
/-! ===== an act keeps what holds ===== -/
theorem iv_mt {cd : String → Int32} {L : lRes} {T : Int32 × Int32 × gSt} (hm : Mt cd n ρ L T) (hz : Rz T.2.2) (hl : LB (nx ρ L)) : Iv (n + 1) (nx ρ L) := by
  refine ⟨⟨T.2.2, ?_, hz⟩, hl⟩
  rcases hm with ⟨h1, -, -, h4⟩ | ⟨h1, -, h4⟩
  · rw [nx_ok h1]
    exact h4
  · rw [nx_no h1]
    exact h4
theorem iv_type (h : Iv n ρ) (c : Int32) : Iv (n + 1) (nx ρ (lo_type ρ c)) := by
  obtain ⟨⟨S, hR, hz⟩, hl⟩ := h
  exact iv_mt (m_type hR (cd := cdf 1 9 2) (by decide) (by decide) c) (hz.k (z_type c)) (l_type hl c)
theorem iv_back (h : Iv n ρ) : Iv (n + 1) (nx ρ (lo_back ρ)) := by
  obtain ⟨⟨S, hR, hz⟩, hl⟩ := h
  exact iv_mt (m_back hR (cd := cdf 9 9 1) (by decide)) (hz.k z_back) (l_back hl)
theorem iv_clearPath (h : Iv n ρ) : Iv (n + 1) (nx ρ (lo_clearPath ρ)) := by
  obtain ⟨⟨S, hR, hz⟩, hl⟩ := h
  exact iv_mt (m_clearPath hR (cdf 9 9 1)) (hz.k z_clearPath) (by rw [nx_ok rfl]; exact l_clear hl)
theorem iv_makeProject (h : Iv n ρ) : Iv (n + 1) (nx ρ (lo_makeProject ρ)) := by
  have hE := h.w.2
  obtain ⟨⟨S, hR, hz⟩, hl⟩ := h
  exact iv_mt (m_makeProject hR (cd := cdf 9 9 1) (by decide)) (hz.k z_makeProject) (l_makeProject hl hE)
theorem iv_moveProject (h : Iv n ρ) (x : Int32) : Iv (n + 1) (nx ρ (lo_moveProject ρ x)) := by
  obtain ⟨⟨S, hR, hz⟩, hl⟩ := h
  exact iv_mt (m_moveProject hR (cd := cdf 9 1 2) (by decide) (by decide) x) (hz.k (z_moveProject x)) (hl.k (k_move x))
theorem iv_makeFile (h : Iv n ρ) (hn : n ≤ 600) (x y : Int32) : Iv (n + 1) (nx ρ (lo_makeFile ρ x y)) := by
  obtain ⟨⟨S, hR, hz⟩, hl⟩ := h
  exact iv_mt (m_makeFile hR hn (hz _ (Nat.le_refl _)) (cd := cdf 9 1 2) (by decide) (by decide) x y) (hz.k (z_makeFile x y)) (l_makeFile hl x y)
theorem iv_write (h : Iv n ρ) (hn : n ≤ 600) (x y : Int32) : Iv (n + 1) (nx ρ (lo_write ρ x y)) := by
  obtain ⟨⟨S, hR, hz⟩, hl⟩ := h
  exact iv_mt (m_write hR hn (cd := cdf 2 1 9) (by decide) (by decide) x y) (hz.k (z_write hR.SB x y)) (hl.k (k_write x y))
theorem iv_delete (h : Iv n ρ) (hn : n ≤ 600) (x : Int32) : Iv (n + 1) (nx ρ (lo_delete ρ x)) := by
  obtain ⟨⟨S, hR, hz⟩, hl⟩ := h
  exact iv_mt (m_delete hR hn (cd := cdf 9 1 9) (by decide) x) (hz.k (z_delete hR.SB x)) (l_delete hl x)
theorem iv_moveFile (h : Iv n ρ) (x y : Int32) : Iv (n + 1) (nx ρ (lo_moveFile ρ x y)) := by
  obtain ⟨⟨S, hR, hz⟩, hl⟩ := h
  exact iv_mt (m_moveFile hR (cd := cdf 9 1 9) (by decide) x y) (hz.k (z_moveFile x y)) (hl.k (k_moveFile x y))
theorem iv_reserve (h : Iv n ρ) (hn : n ≤ 600) (x y : Int32) : Iv (n + 1) (nx ρ (lo_reserve ρ x y)) := by
  obtain ⟨⟨S, hR, hz⟩, hl⟩ := h
  exact iv_mt (m_reserve hR hn (cd := cdf 2 1 3) (by decide) (by decide) (by decide) x y) (hz.k (z_reserve x y)) (hl.k (k_reserve x y))
theorem iv_settle (h : Iv n ρ) (hn : n ≤ 600) (x y : Int32) : Iv (n + 1) (nx ρ (lo_settle ρ x y)) := by
  obtain ⟨⟨S, hR, hz⟩, hl⟩ := h
  exact iv_mt (m_settle hR hn (cd := cdf 2 1 9) (by decide) (by decide) x y) (hz.k (z_settle hR.SB x y)) (hl.k (k_settle x y))
theorem iv_setLimits (h : Iv n ρ) (kd x s u f : Int32) : Iv (n + 1) (nx ρ (lo_setLimits ρ kd x s u f)) := by
  obtain ⟨⟨S, hR, hz⟩, hl⟩ := h
  exact iv_mt (m_setLimits hR (cd := cdf 2 1 9) (by decide) (by decide) kd x s u f) (hz.k (z_setLimits kd x s u f)) (hl.k (k_setLimits kd x s u f))
theorem iv_pass (h : Iv n ρ) (x : Int32) : Iv (n + 1) (nx ρ (lo_pass ρ x)) := by
  obtain ⟨⟨S, hR, hz⟩, hl⟩ := h
  exact iv_mt (m_pass hR (cd := cdf 1 9 2) (by decide) (by decide) x) (hz.k (z_pass x)) (hl.k (k_pass x))
theorem iv_beginRecount (h : Iv n ρ) : Iv (n + 1) (nx ρ (lo_beginRecount ρ)) := by
  obtain ⟨⟨S, hR, hz⟩, hl⟩ := h
  exact iv_mt (m_beginRecount hR (cdf 9 9 9)) (hz.k z_beginRecount) (by rw [nx_ok rfl]; exact hl.k k_begin)
theorem iv_recount (h : Iv n ρ) (x : Int32) : Iv (n + 1) (nx ρ (lo_recount ρ x)) := by
  obtain ⟨⟨S, hR, hz⟩, hl⟩ := h
  exact iv_mt (m_recount hR (cd := cdf 1 9 2) (by decide) (by decide) x) (hz.k (z_recount x)) (hl.k (k_recount x))
theorem iv_0 : Iv 0 ldI := ⟨⟨inN 30, Rel_0, Rz_0⟩, fun i hi => absurd hi (Nat.not_lt_zero _), fun p hp h0 => by
  have hp : p < 1 := hp
  omega⟩
end IV
