/-! ===== the start: the words and the surroundings ===== -/
theorem st_ext {args : Array Value} {s : State} (hts : ∀ w ∈ lw_tbl, w.before args s = true) : ∀ w ∈ wG, w.before args s = true := by
  intro w hw
  rcases List.mem_append.mp (List.mem_filter.mp hw).1 with h | h
  · exact hts w h
  · cases List.mem_singleton.mp h
    exact g_selP (n := 4) ⟨by decide, by decide⟩ (hts _ (tb_1 (List.mem_of_getElem? (i := 65) (by decide +kernel)))) (hts _ (tb_2 (List.mem_of_getElem? (i := 138) (by decide +kernel)))) (hts _ (tb_2 (List.mem_of_getElem? (i := 139) (by decide +kernel)))) (hts _ (tb_5 (List.mem_of_getElem? (i := 66) (by decide +kernel))))
theorem st_cls {args : Array Value} {s : State} (hts : ∀ w ∈ wG, w.before args s = true) : ∃ D : va_G, ∀ (c : Nat) (q : vw_C), gCl[c]? = some q → u_Kn s q.1 q.2.1 q.2.2 (D.1 c) (D.2 c) := by
  have h : ∀ c : Nat, ∃ p : ClassId × (Nat → Nat), ∀ q : vw_C, gCl[c]? = some q → u_Kn s q.1 q.2.1 q.2.2 p.1 p.2 := by
    intro c
    match c with
    | 0 => obtain ⟨a, b, h⟩ := u_known hts (gCl_in (ci := 0) rfl) (hts _ kn_X4_49.2.2.1); exact ⟨(a, b), fun q hq => by cases hq; exact h⟩
    | 1 => obtain ⟨a, b, h⟩ := u_known hts (gCl_in (ci := 1) rfl) (hts _ kn_X4_56.2.2.1); exact ⟨(a, b), fun q hq => by cases hq; exact h⟩
    | 2 => obtain ⟨a, b, h⟩ := u_known hts (gCl_in (ci := 2) rfl) (hts _ kn_X4_190.2.2.1); exact ⟨(a, b), fun q hq => by cases hq; exact h⟩
    | 3 => obtain ⟨a, b, h⟩ := u_known hts (gCl_in (ci := 3) rfl) (hts _ kn_X4_152.2.2.1); exact ⟨(a, b), fun q hq => by cases hq; exact h⟩
    | 4 => obtain ⟨a, b, h⟩ := u_known hts (gCl_in (ci := 4) rfl) (hts _ kn_L_8.2.2.1); exact ⟨(a, b), fun q hq => by cases hq; exact h⟩
    | 5 => obtain ⟨a, b, h⟩ := u_known hts (gCl_in (ci := 5) rfl) (hts _ kn_L_8.2.2.1); exact ⟨(a, b), fun q hq => by cases hq; exact h⟩
    | 6 => obtain ⟨a, b, h⟩ := u_known hts (gCl_in (ci := 6) rfl) (hts _ kn_X4_7.2.2.1); exact ⟨(a, b), fun q hq => by cases hq; exact h⟩
    | 7 => obtain ⟨a, b, h⟩ := u_known hts (gCl_in (ci := 7) rfl) (hts _ kn_X4_28.2.2.1); exact ⟨(a, b), fun q hq => by cases hq; exact h⟩
    | n + 8 => exact ⟨(0, fun _ => 0), fun q hq => by simp at hq⟩
  exact ⟨(fun c => (h c).choose.1, fun c => (h c).choose.2), fun c q hq => (h c).choose_spec q hq⟩
theorem st_arr {args : Array Value} {s : State} {ty : FieldType} (h : (Cond.arrayClass ty).before args s = true) (hn : ∀ C, ty ≠ .object C) : ∃ c : ClassId, ArrOfT s c ty ∧ va_RA s c ty := by
  obtain ⟨c, k, comp, h1, h2, h3⟩ := Cond.arrayClass_spec h
  refine ⟨c, fun n z => ⟨fun k h => (by cases h), k, h2, comp, h3⟩, ?_⟩
  cases ty with
  | object C => exact absurd rfl (hn C)
  | _ => exact h1
theorem st_arrO {args : Array Value} {s : State} {C : String} (h : (Cond.arrayOver (.object C)).before args s = true) : ∃ c : ClassId, ArrOfT s c (.object C) ∧ va_RA s c (.object C) := by
  obtain ⟨comp, c, k, g1, g2, g3, g4, g5⟩ := Cond.arrayOver_spec h
  exact ⟨c, fun n z => ⟨fun k h => (by cases h), k, g3, comp, g4⟩, k, comp, g3, g4, g1, g5⟩
theorem st_len {args : Array Value} {first s : State} {o : Option Outcome} {idx : List Nat} {t : Term} {v : Value} (h : (Term.length t).eval args first o idx s = some v) :
    ∃ a cell, t.eval args first o idx s = some (.ref a) ∧ s.arrayAt? a = some cell ∧ v = .int cell.slots.size.toInt32 ∧ cell.slots.size < 2 ^ 31 := by
  simp only [Term.eval, Option.bind_eq_bind] at h
  cases ht : t.eval args first o idx s with
  | none => simp [ht] at h
  | some x =>
    cases x <;> simp [ht] at h
    case ref a =>
      obtain ⟨cell, hcell, h⟩ := Option.bind_eq_some_iff.mp h
      by_cases hn : cell.slots.size < 2147483648
      · rw [if_pos hn] at h; cases h; exact ⟨a, cell, rfl, hcell, rfl, hn⟩
      · rw [if_neg hn] at h; cases h
theorem st_E {args : Array Value} {s : State} {tm : Term} (hE : (Cond.eq (.length tm) (.int 0)).before args s = true) (ho : (Cond.arrayOf tm (.object "java/lang/Object")).before args s = true) :
    ∃ (a : Nat) (scr : Cell), tm.eval args s none [] s = some (.ref a) ∧ s.heap[a]? = some scr ∧ s.isArrayOf scr (.object "java/lang/Object") ∧ scr.slots.size = 0 := by
  obtain ⟨a, cell, ht, hat, hv, hn⟩ := st_len (va_eqt hE)
  obtain ⟨hcell, -, -, -⟩ := State.arrayAt?_spec hat
  obtain ⟨hof, -⟩ := Cond.arrayOf_spec ho ht hcell
  refine ⟨a, cell, ht, hcell, hof, ?_⟩
  injection hv with hv
  have e := congrArg Int32.toInt hv
  rw [show cell.slots.size.toInt32 = Int32.ofNat cell.slots.size from rfl, Int32.toInt_ofNat_of_lt hn] at e
  have e0 : (0 : Int32).toInt = 0 := rfl
  omega
theorem st_strs : ∀ q ∈ gStr, Cond.stringRef RX4 q.1 q.2 ∈ lw_tbl := by decide +kernel
theorem st_casts : ∀ q ∈ gCast, Cond.castable q.1 q.2 ∈ lw_tbl := by decide +kernel
theorem st_decls : ∀ y ∈ gDecl, Cond.declares y ∈ lw_tbl := by decide +kernel
theorem st_nests : ∀ q ∈ gNest, Cond.methodLinkNest q.1 q.2.1 q.2.2.1 q.2.2.2 ∈ lw_tbl := by decide +kernel
theorem st_ncs : ∀ q ∈ gNcs, Cond.not (.castable q.1 q.2) ∈ flatC (Jvm.Cond.and given_1 narrow_1) := by decide +kernel
/-- the surroundings, from what the tables and the Statement say of the start -/
theorem st_amb {args : Array Value} {s : State} {b L : Nat} {sc : Nat → Int32} (hts : ∀ w ∈ lw_tbl, w.before args s = true) (hgv : (Jvm.Cond.and given_1 narrow_1).before args s = true) (hX : va_X b L sc s s.heap) (hbl : b < s.heap.size) : ∃ M : gMT, (gb M = s.heap.size ∧ gScB M = b ∧ gScL M = L ∧ ∀ a, ¬ gXc M a) ∧ gAmb M s s.heap := by
  have hw := st_ext hts
  have hs := flat_of_before _ hgv
  obtain ⟨D, hD⟩ := st_cls hw
  obtain ⟨k0, h0⟩ := st_arr (ty := .byte) (hts _ (tb_1 (List.mem_of_getElem? (i := 96) (by decide +kernel)))) (fun _ h => by cases h)
  obtain ⟨k2, h2⟩ := st_arr (ty := .int) (hts _ (tb_5 (List.mem_of_getElem? (i := 62) (by decide +kernel)))) (fun _ h => by cases h)
  have hAO : (Cond.arrayOver (.object "java/lang/Object")).before args s = true := hts _ (tb_1 (List.mem_of_getElem? (i := 184) (by decide +kernel)))
  obtain ⟨k5, h5⟩ := st_arrO hAO
  obtain ⟨ae, scr, e1, e2, e3, e4⟩ := st_E (tm := .static "java/util/ArrayList" "DEFAULTCAPACITY_EMPTY_ELEMENTDATA" "[Ljava/lang/Object;") (hs _ (by decide +kernel)) (hs _ (by decide +kernel))
  obtain ⟨mi, hmi⟩ := va_Mi.of (hs (.isRef (.mirror "[Ljava/lang/Object;")) (by decide +kernel))
  have hX4 : s.vm.findClass RX4 = some (D.1 4) := (hD 4 _ rfl).2.1
  refine ⟨(D, (fun i => match i with | 0 => k0 | 1 => k0 | 2 => k2 | 3 => k0 | 4 => k0 | _ => k5), s.heap.size, ae, mi, (fun _ => False), (b, L, sc)), ⟨rfl, rfl, rfl, fun _ h => h⟩, ?_⟩
  have hA : ∀ a : Nat, a < s.heap.size → ¬ (s.heap.size ≤ a ∧ ¬ False) := fun a ha h => Nat.not_le.mpr ha h.1
  refine ⟨⟨hD, ?_⟩, ⟨⟨scr, e2, e3, e4⟩, (Array.getElem?_eq_some_iff.mp e2).1, hX, hbl⟩, ?_, ?_, ?_, ?_, va_AO.of hAO, ?_, ?_, ?_, ?_, ?_, hmi, ?_⟩
  · intro k q hk
    match k, hk with
    | 0, hk => cases hk; exact h0
    | 1, hk => cases hk; exact h0
    | 2, hk => cases hk; exact h2
    | 3, hk => cases hk; exact h0
    | 4, hk => cases hk; exact h0
    | 5, hk => cases hk; exact h5
    | n + 6, hk => simp [gTys] at hk
  · exact va_Zref (hts _ (tb_1 (List.mem_of_getElem? (i := 51) (by decide +kernel)))) (hts _ (tb_1 (List.mem_of_getElem? (i := 4) (by decide +kernel)))) e1 hA
  · exact va_Zof (hts _ (tb_1 (List.mem_of_getElem? (i := 74) (by decide +kernel)))) (hts _ (tb_1 (List.mem_of_getElem? (i := 7) (by decide +kernel)))) (va_eqi (hs _ (by decide +kernel))) hA
  · exact vx_Zqof (hts _ (tb_2 (List.mem_of_getElem? (i := 65) (by decide +kernel)))) (hts _ (tb_1 (List.mem_of_getElem? (i := 15) (by decide +kernel)))) (hs _ (by decide +kernel)) hA
  · exact vx_Zqof (hts _ (tb_2 (List.mem_of_getElem? (i := 67) (by decide +kernel)))) (hts _ (tb_1 (List.mem_of_getElem? (i := 15) (by decide +kernel)))) (hs _ (by decide +kernel)) hA
  · intro q hq
    have hr := hts _ (st_strs q hq)
    obtain ⟨_, _, _, a, _, _, _, _, _, he⟩ := Cond.stringRef_spec hX4 hr
    exact ⟨a, vk_R.of hr he⟩
  · exact fun q hq => va_Nw.of rfl (hts _ (st_casts q hq))
  · exact fun q hq => va_Nc.of (hs _ (st_ncs q hq))
  · exact fun y hy => va_Nw.of rfl (hts _ (st_decls y hy))
  · exact fun q hq => va_Nw.of rfl (hts _ (st_nests q hq))
  · exact va_Zqof (hts _ (tb_2 (List.mem_of_getElem? (i := 185) (by decide +kernel)))) (hts _ (tb_1 (List.mem_of_getElem? (i := 21) (by decide +kernel)))) (hs _ (by decide +kernel)) hA
