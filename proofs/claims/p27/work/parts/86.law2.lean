/-! ===== the law's wrappers (by wip/p27/gen_wrap.py) ===== -/
abbrev cI : Int32 := -2000000001
abbrev cA : Int32 := -2000000002
abbrev cS : Int32 := -2000000003
abbrev wR (L : lRes) : Int32 := wr cA cI cS L
theorem wR_ok {L : lRes} (h : L.1 = "") : wR L = L.2.1 := if_pos h
theorem wR_A {L : lRes} (h : L.1 = eA) : wR L = cA := by
  unfold wR wr cdf
  rw [if_neg (by rw [h]; exact eA_n), if_pos h]
theorem wR_I {L : lRes} (h : L.1 = eI) : wR L = cI := by
  unfold wR wr cdf
  rw [if_neg (by rw [h]; exact eI_n), if_neg (by rw [h]; decide), if_pos h]
theorem wR_S {L : lRes} (h : L.1 = eS) : wR L = cS := by
  unfold wR wr cdf
  rw [if_neg (by rw [h]; exact eS_n), if_neg (by rw [h]; decide), if_neg (by rw [h]; decide)]
theorem nx_ok {ρ : gSt} {L : lRes} (h : L.1 = "") : nx ρ L = L.2.2 := if_pos h
theorem nx_no {ρ : gSt} {L : lRes} (h : L.1 ≠ "") : nx ρ L = ρ := if_neg h
theorem thr_types (ρ : gSt) (c : Int32) : (lo_type ρ c).1 = "" ∨ (lo_type ρ c).1 = eA ∨ (lo_type ρ c).1 = eS := by
  unfold lo_type
  repeat' split
  all_goals first | exact Or.inl rfl | exact Or.inl lb2_fst | exact Or.inr (Or.inl rfl) | exact Or.inr (Or.inr rfl)
set_option maxRecDepth 100000 in
set_option maxHeartbeats 4000000 in
theorem c_W_types (l : Launch) (hfl : l.stackTraces = false) (M : gMT) (σ : gS) (A : gAd) (ρ : gSt) (W : gWt) (c : Int32) (hr : Raw M σ A ρ W) (hW : RW ρ) : Con l M yL_types (.codeWith yL_types cL_types 3 (some .int) hL_types) 13 1 6 [.ref (A 0 0), .int c] σ (rI fun r σ2 => r = wR (lo_type ρ c) ∧ ∃ A', A' 0 0 = A 0 0 ∧ RawE M σ2 A' (nx ρ (lo_type ρ c))) nX := by
  refine g_conW (hh := hL_types) hfl (by decide) (lv := [(0, .ref (A 0 0)), (1, .int c)]) rfl rfl (Nat.le_of_ble_eq_true rfl) (fun X hX hC hR htb => ?_)
  have bad : ∀ E σ2, lX σ (lo_type ρ c) E σ2 → GX X M 3 (gQ X M 1 6 (rI fun r σ2 => r = wR (lo_type ρ c) ∧ ∃ A', A' 0 0 = A 0 0 ∧ RawE M σ2 A' (nx ρ (lo_type ρ c))) nX) (0 + 1) (0 + 6) σ2 2 [(0, .ref (A 0 0)), (1, .int c)] E := by
    intro E σ2 h9
    obtain ⟨⟨h8, hne⟩, rfl⟩ := h9
    rcases thr_types ρ c with z | z | z
    · exact absurd (h8.symm.trans z) hne
    · have hz := z
      rw [h8] at z
      subst z
      refine g_catch (name := eA) hC [] _ _ (htb : _ = [] ++ _ :: _) (fun z hz => absurd hz List.not_mem_nil) rfl (by decide) lwk_13 (by simp [gCast]) (fun q => ?_)
      show G X M 3 _ _ _ _ 6 _ _
      refine g_astore_n (q := 7) (i := 2) hC dL_types_6 rfl (by decide) rfl ?_
      refine g_ldc (q := 9) hC kk_L_15 dL_types_7 rfl ?_
      exact g_iret hC hR dL_types_9 (by omega) (by omega) (⟨_, rfl, by rw [wR_A hz], A, rfl, by rw [nx_no (by rw [hz]; exact eA_n)]; exact ⟨W, hr⟩⟩)
    · have hz := z
      rw [h8] at z
      subst z
      refine g_catch (name := eS) hC [_] _ _ (htb : _ = [_] ++ _ :: _) (fun z hz => ?_) rfl (by decide) lwk_16 (by simp [gCast]) (fun q => ?_)
      · obtain rfl := List.mem_singleton.mp hz
        exact Or.inr ⟨by decide, eA, lwk_13, by simp [gNcs]⟩
      · show G X M 3 _ _ _ _ 10 _ _
        refine g_astore_n (q := 11) (i := 2) hC dL_types_10 rfl (by decide) rfl ?_
        refine g_ldc (q := 13) hC kk_L_18 dL_types_11 rfl ?_
        exact g_iret hC hR dL_types_13 (by omega) (by omega) (⟨_, rfl, by rw [wR_S hz], A, rfl, by rw [nx_no (by rw [hz]; exact eS_n)]; exact ⟨W, hr⟩⟩)
  refine g_aload_n (q := 1) (i := 0) hC dL_types_0 rfl rfl rfl ?_
  refine g_iload_n (q := 2) (i := 1) hC dL_types_1 rfl rfl rfl ?_
  refine g_ci (q := 5) (g_runV hC kv_L_7 md_X4_type (c_L_type _ hC.fl M _ A ρ W c hr hW) (ci := 4) rfl (hr.led hW) dL_types_2 (by decide) (by decide) (by omega) (by omega) rfl rfl (Nat.le_of_ble_eq_true rfl)) rfl (fun r σ1 ⟨h1, h2, ⟨A', hA', h3⟩, h4⟩ => ?_) (bad)
  exact g_iret hC hR dL_types_5 (by omega) (by omega) (⟨_, rfl, by rw [wR_ok h1]; exact h2, A', hA', by rw [nx_ok h1]; exact h3⟩)
theorem s_types {l : Launch} (hfl : l.stackTraces = false) {M : gMT} {φ σ : gS} {a0 : Nat} {ρ : gSt} (c : Int32) (hst : St M φ a0 ρ σ) (hW : RW ρ ∧ RE ρ) : Con l M yL_types (.codeWith yL_types cL_types 3 (some .int) hL_types) 13 1 6 [.ref a0, .int c] σ (rI (sQ M φ a0 (wR (lo_type ρ c)) (nx ρ (lo_type ρ c)))) nX := St.lift hst (fun M σ1 A W h1 h2 => by subst h1; exact c_W_types l hfl M σ1 A ρ W c h2 hW.1)
theorem thr_backs (ρ : gSt) : (lo_back ρ).1 = "" ∨ (lo_back ρ).1 = eS := by
  unfold lo_back
  repeat' split
  all_goals first | exact Or.inl rfl | exact Or.inl lb2_fst | exact Or.inr rfl
set_option maxRecDepth 100000 in
set_option maxHeartbeats 4000000 in
theorem c_W_backs (l : Launch) (hfl : l.stackTraces = false) (M : gMT) (σ : gS) (A : gAd) (ρ : gSt) (W : gWt) (hr : Raw M σ A ρ W) (hW : RW ρ) : Con l M yL_backs (.codeWith yL_backs cL_backs 2 (some .int) hL_backs) 13 1 6 [.ref (A 0 0)] σ (rI fun r σ2 => r = wR (lo_back ρ) ∧ ∃ A', A' 0 0 = A 0 0 ∧ RawE M σ2 A' (nx ρ (lo_back ρ))) nX := by
  refine g_conW (hh := hL_backs) hfl (by decide) (lv := [(0, .ref (A 0 0))]) rfl rfl (Nat.le_of_ble_eq_true rfl) (fun X hX hC hR htb => ?_)
  have bad : ∀ E σ2, lX σ (lo_back ρ) E σ2 → GX X M 2 (gQ X M 1 6 (rI fun r σ2 => r = wR (lo_back ρ) ∧ ∃ A', A' 0 0 = A 0 0 ∧ RawE M σ2 A' (nx ρ (lo_back ρ))) nX) (0 + 1) (0 + 6) σ2 1 [(0, .ref (A 0 0))] E := by
    intro E σ2 h9
    obtain ⟨⟨h8, hne⟩, rfl⟩ := h9
    rcases thr_backs ρ with z | z
    · exact absurd (h8.symm.trans z) hne
    · have hz := z
      rw [h8] at z
      subst z
      refine g_catch (name := eS) hC [] _ _ (htb : _ = [] ++ _ :: _) (fun z hz => absurd hz List.not_mem_nil) rfl (by decide) lwk_16 (by simp [gCast]) (fun q => ?_)
      show G X M 2 _ _ _ _ 5 _ _
      refine g_astore_n (q := 6) (i := 1) hC dL_backs_5 rfl (by decide) rfl ?_
      refine g_ldc (q := 8) hC kk_L_18 dL_backs_6 rfl ?_
      exact g_iret hC hR dL_backs_8 (by omega) (by omega) (⟨_, rfl, by rw [wR_S hz], A, rfl, by rw [nx_no (by rw [hz]; exact eS_n)]; exact ⟨W, hr⟩⟩)
  refine g_aload_n (q := 1) (i := 0) hC dL_backs_0 rfl rfl rfl ?_
  refine g_ci (q := 4) (g_runV hC kv_L_19 md_X4_back (c_L_back _ hC.fl M _ A ρ W hr hW) (ci := 4) rfl (hr.led hW) dL_backs_1 (by decide) (by decide) (by omega) (by omega) rfl rfl (Nat.le_of_ble_eq_true rfl)) rfl (fun r σ1 ⟨h1, h2, ⟨A', hA', h3⟩, h4⟩ => ?_) (bad)
  exact g_iret hC hR dL_backs_4 (by omega) (by omega) (⟨_, rfl, by rw [wR_ok h1]; exact h2, A', hA', by rw [nx_ok h1]; exact h3⟩)
theorem s_backs {l : Launch} (hfl : l.stackTraces = false) {M : gMT} {φ σ : gS} {a0 : Nat} {ρ : gSt} (hst : St M φ a0 ρ σ) (hW : RW ρ ∧ RE ρ) : Con l M yL_backs (.codeWith yL_backs cL_backs 2 (some .int) hL_backs) 13 1 6 [.ref a0] σ (rI (sQ M φ a0 (wR (lo_back ρ)) (nx ρ (lo_back ρ)))) nX := St.lift hst (fun M σ1 A W h1 h2 => by subst h1; exact c_W_backs l hfl M σ1 A ρ W h2 hW.1)
theorem thr_makes (ρ : gSt) : (lo_makeProject ρ).1 = "" ∨ (lo_makeProject ρ).1 = eS := by
  unfold lo_makeProject
  repeat' split
  all_goals first | exact Or.inl rfl | exact Or.inl lb2_fst | exact Or.inr rfl
set_option maxRecDepth 100000 in
set_option maxHeartbeats 4000000 in
theorem c_W_makes (l : Launch) (hfl : l.stackTraces = false) (M : gMT) (σ : gS) (A : gAd) (ρ : gSt) (W : gWt) (hr : Raw M σ A ρ W) (hW : RW ρ) (hE : RE ρ) : Con l M yL_makes (.codeWith yL_makes cL_makes 2 (some .int) hL_makes) 13 40 1000 [.ref (A 0 0)] σ (rI fun r σ2 => r = wR (lo_makeProject ρ) ∧ ∃ A', A' 0 0 = A 0 0 ∧ RawE M σ2 A' (nx ρ (lo_makeProject ρ))) nX := by
  refine g_conW (hh := hL_makes) hfl (by decide) (lv := [(0, .ref (A 0 0))]) rfl rfl (Nat.le_of_ble_eq_true rfl) (fun X hX hC hR htb => ?_)
  have bad : ∀ E σ2, lX σ (lo_makeProject ρ) E σ2 → GX X M 2 (gQ X M 40 1000 (rI fun r σ2 => r = wR (lo_makeProject ρ) ∧ ∃ A', A' 0 0 = A 0 0 ∧ RawE M σ2 A' (nx ρ (lo_makeProject ρ))) nX) (0 + 40) (0 + 1000) σ2 1 [(0, .ref (A 0 0))] E := by
    intro E σ2 h9
    obtain ⟨⟨h8, hne⟩, rfl⟩ := h9
    rcases thr_makes ρ with z | z
    · exact absurd (h8.symm.trans z) hne
    · have hz := z
      rw [h8] at z
      subst z
      refine g_catch (name := eS) hC [] _ _ (htb : _ = [] ++ _ :: _) (fun z hz => absurd hz List.not_mem_nil) rfl (by decide) lwk_16 (by simp [gCast]) (fun q => ?_)
      show G X M 2 _ _ _ _ 5 _ _
      refine g_astore_n (q := 6) (i := 1) hC dL_makes_5 rfl (by decide) rfl ?_
      refine g_ldc (q := 8) hC kk_L_18 dL_makes_6 rfl ?_
      exact g_iret hC hR dL_makes_8 (by omega) (by omega) (⟨_, rfl, by rw [wR_S hz], A, rfl, by rw [nx_no (by rw [hz]; exact eS_n)]; exact ⟨W, hr⟩⟩)
  refine g_aload_n (q := 1) (i := 0) hC dL_makes_0 rfl rfl rfl ?_
  refine g_ci (q := 4) (g_runV hC kv_L_23 md_X4_makeProject (c_L_makeProject _ hC.fl M _ A ρ W hr hW hE) (ci := 4) rfl (hr.led hW) dL_makes_1 (by decide) (by decide) (by omega) (by omega) rfl rfl (Nat.le_of_ble_eq_true rfl)) rfl (fun r σ1 ⟨h1, h2, ⟨A', hA', h3⟩, h4⟩ => ?_) (bad)
  exact g_iret hC hR dL_makes_4 (by omega) (by omega) (⟨_, rfl, by rw [wR_ok h1]; exact h2, A', hA', by rw [nx_ok h1]; exact h3⟩)
theorem s_makes {l : Launch} (hfl : l.stackTraces = false) {M : gMT} {φ σ : gS} {a0 : Nat} {ρ : gSt} (hst : St M φ a0 ρ σ) (hW : RW ρ ∧ RE ρ) : Con l M yL_makes (.codeWith yL_makes cL_makes 2 (some .int) hL_makes) 13 40 1000 [.ref a0] σ (rI (sQ M φ a0 (wR (lo_makeProject ρ)) (nx ρ (lo_makeProject ρ)))) nX := St.lift hst (fun M σ1 A W h1 h2 => by subst h1; exact c_W_makes l hfl M σ1 A ρ W h2 hW.1 hW.2)
theorem thr_movesProject (ρ : gSt) (x : Int32) : (lo_moveProject ρ x).1 = "" ∨ (lo_moveProject ρ x).1 = eI ∨ (lo_moveProject ρ x).1 = eS := by
  unfold lo_moveProject
  repeat' split
  all_goals first | exact Or.inl rfl | exact Or.inl lb2_fst | exact Or.inr (Or.inl rfl) | exact Or.inr (Or.inr rfl)
set_option maxRecDepth 100000 in
set_option maxHeartbeats 4000000 in
theorem c_W_movesProject (l : Launch) (hfl : l.stackTraces = false) (M : gMT) (σ : gS) (A : gAd) (ρ : gSt) (W : gWt) (x : Int32) (hr : Raw M σ A ρ W) (hW : RW ρ) (hE : RE ρ) : Con l M yL_movesProject (.codeWith yL_movesProject cL_movesProject 3 (some .int) hL_movesProject) 13 170 2100 [.ref (A 0 0), .int x] σ (rI fun r σ2 => r = wR (lo_moveProject ρ x) ∧ ∃ A', A' 0 0 = A 0 0 ∧ RawE M σ2 A' (nx ρ (lo_moveProject ρ x))) nX := by
  refine g_conW (hh := hL_movesProject) hfl (by decide) (lv := [(0, .ref (A 0 0)), (1, .int x)]) rfl rfl (Nat.le_of_ble_eq_true rfl) (fun X hX hC hR htb => ?_)
  have bad : ∀ E σ2, lX σ (lo_moveProject ρ x) E σ2 → GX X M 3 (gQ X M 170 2100 (rI fun r σ2 => r = wR (lo_moveProject ρ x) ∧ ∃ A', A' 0 0 = A 0 0 ∧ RawE M σ2 A' (nx ρ (lo_moveProject ρ x))) nX) (0 + 170) (0 + 2100) σ2 2 [(0, .ref (A 0 0)), (1, .int x)] E := by
    intro E σ2 h9
    obtain ⟨⟨h8, hne⟩, rfl⟩ := h9
    rcases thr_movesProject ρ x with z | z | z
    · exact absurd (h8.symm.trans z) hne
    · have hz := z
      rw [h8] at z
      subst z
      refine g_catch (name := eI) hC [] _ _ (htb : _ = [] ++ _ :: _) (fun z hz => absurd hz List.not_mem_nil) rfl (by decide) lwk_30 (by simp [gCast]) (fun q => ?_)
      show G X M 3 _ _ _ _ 6 _ _
      refine g_astore_n (q := 7) (i := 2) hC dL_movesProject_6 rfl (by decide) rfl ?_
      refine g_ldc (q := 9) hC kk_L_32 dL_movesProject_7 rfl ?_
      exact g_iret hC hR dL_movesProject_9 (by omega) (by omega) (⟨_, rfl, by rw [wR_I hz], A, rfl, by rw [nx_no (by rw [hz]; exact eI_n)]; exact ⟨W, hr⟩⟩)
    · have hz := z
      rw [h8] at z
      subst z
      refine g_catch (name := eS) hC [_] _ _ (htb : _ = [_] ++ _ :: _) (fun z hz => ?_) rfl (by decide) lwk_16 (by simp [gCast]) (fun q => ?_)
      · obtain rfl := List.mem_singleton.mp hz
        exact Or.inr ⟨by decide, eI, lwk_30, by simp [gNcs]⟩
      · show G X M 3 _ _ _ _ 10 _ _
        refine g_astore_n (q := 11) (i := 2) hC dL_movesProject_10 rfl (by decide) rfl ?_
        refine g_ldc (q := 13) hC kk_L_18 dL_movesProject_11 rfl ?_
        exact g_iret hC hR dL_movesProject_13 (by omega) (by omega) (⟨_, rfl, by rw [wR_S hz], A, rfl, by rw [nx_no (by rw [hz]; exact eS_n)]; exact ⟨W, hr⟩⟩)
  refine g_aload_n (q := 1) (i := 0) hC dL_movesProject_0 rfl rfl rfl ?_
  refine g_iload_n (q := 2) (i := 1) hC dL_movesProject_1 rfl rfl rfl ?_
  refine g_ci (q := 5) (g_runV hC kv_L_26 md_X4_moveProject (c_L_moveProject _ hC.fl M _ A ρ W x hr hW hE) (ci := 4) rfl (hr.led hW) dL_movesProject_2 (by decide) (by decide) (by omega) (by omega) rfl rfl (Nat.le_of_ble_eq_true rfl)) rfl (fun r σ1 ⟨h1, h2, ⟨A', hA', h3⟩, h4⟩ => ?_) (bad)
  exact g_iret hC hR dL_movesProject_5 (by omega) (by omega) (⟨_, rfl, by rw [wR_ok h1]; exact h2, A', hA', by rw [nx_ok h1]; exact h3⟩)
theorem s_movesProject {l : Launch} (hfl : l.stackTraces = false) {M : gMT} {φ σ : gS} {a0 : Nat} {ρ : gSt} (x : Int32) (hst : St M φ a0 ρ σ) (hW : RW ρ ∧ RE ρ) : Con l M yL_movesProject (.codeWith yL_movesProject cL_movesProject 3 (some .int) hL_movesProject) 13 170 2100 [.ref a0, .int x] σ (rI (sQ M φ a0 (wR (lo_moveProject ρ x)) (nx ρ (lo_moveProject ρ x)))) nX := St.lift hst (fun M σ1 A W h1 h2 => by subst h1; exact c_W_movesProject l hfl M σ1 A ρ W x h2 hW.1 hW.2)
theorem thr_letter (ρ : gSt) (x : Int32) (y : Int32) : (lo_letterAt ρ x y).1 = "" ∨ (lo_letterAt ρ x y).1 = eI := by
  unfold lo_letterAt
  repeat' split
  all_goals first | exact Or.inl rfl | exact Or.inl lb2_fst | exact Or.inr rfl
set_option maxRecDepth 100000 in
set_option maxHeartbeats 4000000 in
theorem c_W_letter (l : Launch) (hfl : l.stackTraces = false) (M : gMT) (σ : gS) (A : gAd) (ρ : gSt) (W : gWt) (x : Int32) (y : Int32) (hr : Raw M σ A ρ W) (hW : RW ρ) : Con l M yL_letter (.codeWith yL_letter cL_letter 4 (some .int) hL_letter) 13 2 12 [.ref (A 0 0), .int x, .int y] σ (rI fun r σ2 => r = wR (lo_letterAt ρ x y) ∧ ∃ A', A' 0 0 = A 0 0 ∧ RawE M σ2 A' (nx ρ (lo_letterAt ρ x y))) nX := by
  refine g_conW (hh := hL_letter) hfl (by decide) (lv := [(0, .ref (A 0 0)), (1, .int x), (2, .int y)]) rfl rfl (Nat.le_of_ble_eq_true rfl) (fun X hX hC hR htb => ?_)
  have bad : ∀ E σ2, lX σ (lo_letterAt ρ x y) E σ2 → GX X M 4 (gQ X M 2 12 (rI fun r σ2 => r = wR (lo_letterAt ρ x y) ∧ ∃ A', A' 0 0 = A 0 0 ∧ RawE M σ2 A' (nx ρ (lo_letterAt ρ x y))) nX) (0 + 2) (0 + 12) σ2 3 [(0, .ref (A 0 0)), (1, .int x), (2, .int y)] E := by
    intro E σ2 h9
    obtain ⟨⟨h8, hne⟩, rfl⟩ := h9
    rcases thr_letter ρ x y with z | z
    · exact absurd (h8.symm.trans z) hne
    · have hz := z
      rw [h8] at z
      subst z
      refine g_catch (name := eI) hC [] _ _ (htb : _ = [] ++ _ :: _) (fun z hz => absurd hz List.not_mem_nil) rfl (by decide) lwk_30 (by simp [gCast]) (fun q => ?_)
      show G X M 4 _ _ _ _ 7 _ _
      refine g_astore_n (q := 8) (i := 3) hC dL_letter_7 rfl (by decide) rfl ?_
      refine g_ldc (q := 10) hC kk_L_32 dL_letter_8 rfl ?_
      exact g_iret hC hR dL_letter_10 (by omega) (by omega) (⟨_, rfl, by rw [wR_I hz], A, rfl, by rw [nx_no (by rw [hz]; exact eI_n)]; exact ⟨W, hr⟩⟩)
  refine g_aload_n (q := 1) (i := 0) hC dL_letter_0 rfl rfl rfl ?_
  refine g_iload_n (q := 2) (i := 1) hC dL_letter_1 rfl rfl rfl ?_
  refine g_iload_n (q := 3) (i := 2) hC dL_letter_2 rfl rfl rfl ?_
  refine g_ci (q := 6) (g_runV hC kv_L_33 md_X4_letterAt (c_L_letterAt _ hC.fl M _ A ρ W x y hr hW) (ci := 4) rfl (hr.led hW) dL_letter_3 (by decide) (by decide) (by omega) (by omega) rfl rfl (Nat.le_of_ble_eq_true rfl)) rfl (fun r σ1 ⟨h1, h2, ⟨A', hA', h3⟩, h4⟩ => ?_) (bad)
  exact g_iret hC hR dL_letter_6 (by omega) (by omega) (⟨_, rfl, by rw [wR_ok h1]; exact h2, A', hA', by rw [nx_ok h1]; exact h3⟩)
theorem s_letter {l : Launch} (hfl : l.stackTraces = false) {M : gMT} {φ σ : gS} {a0 : Nat} {ρ : gSt} (x : Int32) (y : Int32) (hst : St M φ a0 ρ σ) (hW : RW ρ ∧ RE ρ) : Con l M yL_letter (.codeWith yL_letter cL_letter 4 (some .int) hL_letter) 13 2 12 [.ref a0, .int x, .int y] σ (rI (sQ M φ a0 (wR (lo_letterAt ρ x y)) (nx ρ (lo_letterAt ρ x y)))) nX := St.lift hst (fun M σ1 A W h1 h2 => by subst h1; exact c_W_letter l hfl M σ1 A ρ W x y h2 hW.1)
theorem thr_makesFile (ρ : gSt) (x : Int32) (y : Int32) : (lo_makeFile ρ x y).1 = "" ∨ (lo_makeFile ρ x y).1 = eI ∨ (lo_makeFile ρ x y).1 = eS := by
  unfold lo_makeFile
  repeat' split
  all_goals first | exact Or.inl rfl | exact Or.inl lb2_fst | exact Or.inr (Or.inl rfl) | exact Or.inr (Or.inr rfl)
set_option maxRecDepth 100000 in
set_option maxHeartbeats 4000000 in
theorem c_W_makesFile (l : Launch) (hfl : l.stackTraces = false) (M : gMT) (σ : gS) (A : gAd) (ρ : gSt) (W : gWt) (x : Int32) (y : Int32) (hr : Raw M σ A ρ W) (hW : RW ρ) (hE : RE ρ) : Con l M yL_makesFile (.codeWith yL_makesFile cL_makesFile 4 (some .int) hL_makesFile) 13 40 1000 [.ref (A 0 0), .int x, .int y] σ (rI fun r σ2 => r = wR (lo_makeFile ρ x y) ∧ ∃ A', A' 0 0 = A 0 0 ∧ RawE M σ2 A' (nx ρ (lo_makeFile ρ x y))) nX := by
  refine g_conW (hh := hL_makesFile) hfl (by decide) (lv := [(0, .ref (A 0 0)), (1, .int x), (2, .int y)]) rfl rfl (Nat.le_of_ble_eq_true rfl) (fun X hX hC hR htb => ?_)
  have bad : ∀ E σ2, lX σ (lo_makeFile ρ x y) E σ2 → GX X M 4 (gQ X M 40 1000 (rI fun r σ2 => r = wR (lo_makeFile ρ x y) ∧ ∃ A', A' 0 0 = A 0 0 ∧ RawE M σ2 A' (nx ρ (lo_makeFile ρ x y))) nX) (0 + 40) (0 + 1000) σ2 3 [(0, .ref (A 0 0)), (1, .int x), (2, .int y)] E := by
    intro E σ2 h9
    obtain ⟨⟨h8, hne⟩, rfl⟩ := h9
    rcases thr_makesFile ρ x y with z | z | z
    · exact absurd (h8.symm.trans z) hne
    · have hz := z
      rw [h8] at z
      subst z
      refine g_catch (name := eI) hC [] _ _ (htb : _ = [] ++ _ :: _) (fun z hz => absurd hz List.not_mem_nil) rfl (by decide) lwk_30 (by simp [gCast]) (fun q => ?_)
      show G X M 4 _ _ _ _ 7 _ _
      refine g_astore_n (q := 8) (i := 3) hC dL_makesFile_7 rfl (by decide) rfl ?_
      refine g_ldc (q := 10) hC kk_L_32 dL_makesFile_8 rfl ?_
      exact g_iret hC hR dL_makesFile_10 (by omega) (by omega) (⟨_, rfl, by rw [wR_I hz], A, rfl, by rw [nx_no (by rw [hz]; exact eI_n)]; exact ⟨W, hr⟩⟩)
    · have hz := z
      rw [h8] at z
      subst z
      refine g_catch (name := eS) hC [_] _ _ (htb : _ = [_] ++ _ :: _) (fun z hz => ?_) rfl (by decide) lwk_16 (by simp [gCast]) (fun q => ?_)
      · obtain rfl := List.mem_singleton.mp hz
        exact Or.inr ⟨by decide, eI, lwk_30, by simp [gNcs]⟩
      · show G X M 4 _ _ _ _ 11 _ _
        refine g_astore_n (q := 12) (i := 3) hC dL_makesFile_11 rfl (by decide) rfl ?_
        refine g_ldc (q := 14) hC kk_L_18 dL_makesFile_12 rfl ?_
        exact g_iret hC hR dL_makesFile_14 (by omega) (by omega) (⟨_, rfl, by rw [wR_S hz], A, rfl, by rw [nx_no (by rw [hz]; exact eS_n)]; exact ⟨W, hr⟩⟩)
  refine g_aload_n (q := 1) (i := 0) hC dL_makesFile_0 rfl rfl rfl ?_
  refine g_iload_n (q := 2) (i := 1) hC dL_makesFile_1 rfl rfl rfl ?_
  refine g_iload_n (q := 3) (i := 2) hC dL_makesFile_2 rfl rfl rfl ?_
  refine g_ci (q := 6) (g_runV hC kv_L_37 md_X4_makeFile (c_L_makeFile _ hC.fl M _ A ρ W x y hr hW hE) (ci := 4) rfl (hr.led hW) dL_makesFile_3 (by decide) (by decide) (by omega) (by omega) rfl rfl (Nat.le_of_ble_eq_true rfl)) rfl (fun r σ1 ⟨h1, h2, ⟨A', hA', h3⟩, h4⟩ => ?_) (bad)
  exact g_iret hC hR dL_makesFile_6 (by omega) (by omega) (⟨_, rfl, by rw [wR_ok h1]; exact h2, A', hA', by rw [nx_ok h1]; exact h3⟩)
theorem s_makesFile {l : Launch} (hfl : l.stackTraces = false) {M : gMT} {φ σ : gS} {a0 : Nat} {ρ : gSt} (x : Int32) (y : Int32) (hst : St M φ a0 ρ σ) (hW : RW ρ ∧ RE ρ) : Con l M yL_makesFile (.codeWith yL_makesFile cL_makesFile 4 (some .int) hL_makesFile) 13 40 1000 [.ref a0, .int x, .int y] σ (rI (sQ M φ a0 (wR (lo_makeFile ρ x y)) (nx ρ (lo_makeFile ρ x y)))) nX := St.lift hst (fun M σ1 A W h1 h2 => by subst h1; exact c_W_makesFile l hfl M σ1 A ρ W x y h2 hW.1 hW.2)
theorem thr_writes (ρ : gSt) (x : Int32) (y : Int32) : (lo_write ρ x y).1 = "" ∨ (lo_write ρ x y).1 = eI ∨ (lo_write ρ x y).1 = eA := by
  unfold lo_write
  repeat' split
  all_goals first | exact Or.inl rfl | exact Or.inl lb2_fst | exact Or.inr (Or.inl rfl) | exact Or.inr (Or.inr rfl)
set_option maxRecDepth 100000 in
set_option maxHeartbeats 4000000 in
theorem c_W_writes (l : Launch) (hfl : l.stackTraces = false) (M : gMT) (σ : gS) (A : gAd) (ρ : gSt) (W : gWt) (x : Int32) (y : Int32) (hr : Raw M σ A ρ W) (hW : RW ρ) : Con l M yL_writes (.codeWith yL_writes cL_writes 4 (some .int) hL_writes) 13 5 56 [.ref (A 0 0), .int x, .int y] σ (rI fun r σ2 => r = wR (lo_write ρ x y) ∧ ∃ A', A' 0 0 = A 0 0 ∧ RawE M σ2 A' (nx ρ (lo_write ρ x y))) nX := by
  refine g_conW (hh := hL_writes) hfl (by decide) (lv := [(0, .ref (A 0 0)), (1, .int x), (2, .int y)]) rfl rfl (Nat.le_of_ble_eq_true rfl) (fun X hX hC hR htb => ?_)
  have bad : ∀ E σ2, lX σ (lo_write ρ x y) E σ2 → GX X M 4 (gQ X M 5 56 (rI fun r σ2 => r = wR (lo_write ρ x y) ∧ ∃ A', A' 0 0 = A 0 0 ∧ RawE M σ2 A' (nx ρ (lo_write ρ x y))) nX) (0 + 5) (0 + 56) σ2 3 [(0, .ref (A 0 0)), (1, .int x), (2, .int y)] E := by
    intro E σ2 h9
    obtain ⟨⟨h8, hne⟩, rfl⟩ := h9
    rcases thr_writes ρ x y with z | z | z
    · exact absurd (h8.symm.trans z) hne
    · have hz := z
      rw [h8] at z
      subst z
      refine g_catch (name := eI) hC [] _ _ (htb : _ = [] ++ _ :: _) (fun z hz => absurd hz List.not_mem_nil) rfl (by decide) lwk_30 (by simp [gCast]) (fun q => ?_)
      show G X M 4 _ _ _ _ 7 _ _
      refine g_astore_n (q := 8) (i := 3) hC dL_writes_7 rfl (by decide) rfl ?_
      refine g_ldc (q := 10) hC kk_L_32 dL_writes_8 rfl ?_
      exact g_iret hC hR dL_writes_10 (by omega) (by omega) (⟨_, rfl, by rw [wR_I hz], A, rfl, by rw [nx_no (by rw [hz]; exact eI_n)]; exact ⟨W, hr⟩⟩)
    · have hz := z
      rw [h8] at z
      subst z
      refine g_catch (name := eA) hC [_] _ _ (htb : _ = [_] ++ _ :: _) (fun z hz => ?_) rfl (by decide) lwk_13 (by simp [gCast]) (fun q => ?_)
      · obtain rfl := List.mem_singleton.mp hz
        exact Or.inr ⟨by decide, eI, lwk_30, by simp [gNcs]⟩
      · show G X M 4 _ _ _ _ 11 _ _
        refine g_astore_n (q := 12) (i := 3) hC dL_writes_11 rfl (by decide) rfl ?_
        refine g_ldc (q := 14) hC kk_L_15 dL_writes_12 rfl ?_
        exact g_iret hC hR dL_writes_14 (by omega) (by omega) (⟨_, rfl, by rw [wR_A hz], A, rfl, by rw [nx_no (by rw [hz]; exact eA_n)]; exact ⟨W, hr⟩⟩)
  refine g_aload_n (q := 1) (i := 0) hC dL_writes_0 rfl rfl rfl ?_
  refine g_iload_n (q := 2) (i := 1) hC dL_writes_1 rfl rfl rfl ?_
  refine g_iload_n (q := 3) (i := 2) hC dL_writes_2 rfl rfl rfl ?_
  refine g_ci (q := 6) (g_runV hC kv_L_41 md_X4_write (c_L_write _ hC.fl M _ A ρ W x y hr hW) (ci := 4) rfl (hr.led hW) dL_writes_3 (by decide) (by decide) (by omega) (by omega) rfl rfl (Nat.le_of_ble_eq_true rfl)) rfl (fun r σ1 ⟨h1, h2, ⟨A', hA', h3⟩, h4⟩ => ?_) (bad)
  exact g_iret hC hR dL_writes_6 (by omega) (by omega) (⟨_, rfl, by rw [wR_ok h1]; exact h2, A', hA', by rw [nx_ok h1]; exact h3⟩)
theorem s_writes {l : Launch} (hfl : l.stackTraces = false) {M : gMT} {φ σ : gS} {a0 : Nat} {ρ : gSt} (x : Int32) (y : Int32) (hst : St M φ a0 ρ σ) (hW : RW ρ ∧ RE ρ) : Con l M yL_writes (.codeWith yL_writes cL_writes 4 (some .int) hL_writes) 13 5 56 [.ref a0, .int x, .int y] σ (rI (sQ M φ a0 (wR (lo_write ρ x y)) (nx ρ (lo_write ρ x y)))) nX := St.lift hst (fun M σ1 A W h1 h2 => by subst h1; exact c_W_writes l hfl M σ1 A ρ W x y h2 hW.1)
theorem thr_deletes (ρ : gSt) (x : Int32) : (lo_delete ρ x).1 = "" ∨ (lo_delete ρ x).1 = eI := by
  unfold lo_delete
  repeat' split
  all_goals first | exact Or.inl rfl | exact Or.inl lb2_fst | exact Or.inr rfl
set_option maxRecDepth 100000 in
set_option maxHeartbeats 4000000 in
theorem c_W_deletes (l : Launch) (hfl : l.stackTraces = false) (M : gMT) (σ : gS) (A : gAd) (ρ : gSt) (W : gWt) (x : Int32) (hr : Raw M σ A ρ W) (hW : RW ρ) : Con l M yL_deletes (.codeWith yL_deletes cL_deletes 3 (some .int) hL_deletes) 13 3 31 [.ref (A 0 0), .int x] σ (rI fun r σ2 => r = wR (lo_delete ρ x) ∧ ∃ A', A' 0 0 = A 0 0 ∧ RawE M σ2 A' (nx ρ (lo_delete ρ x))) nX := by
  refine g_conW (hh := hL_deletes) hfl (by decide) (lv := [(0, .ref (A 0 0)), (1, .int x)]) rfl rfl (Nat.le_of_ble_eq_true rfl) (fun X hX hC hR htb => ?_)
  have bad : ∀ E σ2, lX σ (lo_delete ρ x) E σ2 → GX X M 3 (gQ X M 3 31 (rI fun r σ2 => r = wR (lo_delete ρ x) ∧ ∃ A', A' 0 0 = A 0 0 ∧ RawE M σ2 A' (nx ρ (lo_delete ρ x))) nX) (0 + 3) (0 + 31) σ2 2 [(0, .ref (A 0 0)), (1, .int x)] E := by
    intro E σ2 h9
    obtain ⟨⟨h8, hne⟩, rfl⟩ := h9
    rcases thr_deletes ρ x with z | z
    · exact absurd (h8.symm.trans z) hne
    · have hz := z
      rw [h8] at z
      subst z
      refine g_catch (name := eI) hC [] _ _ (htb : _ = [] ++ _ :: _) (fun z hz => absurd hz List.not_mem_nil) rfl (by decide) lwk_30 (by simp [gCast]) (fun q => ?_)
      show G X M 3 _ _ _ _ 6 _ _
      refine g_astore_n (q := 7) (i := 2) hC dL_deletes_6 rfl (by decide) rfl ?_
      refine g_ldc (q := 9) hC kk_L_32 dL_deletes_7 rfl ?_
      exact g_iret hC hR dL_deletes_9 (by omega) (by omega) (⟨_, rfl, by rw [wR_I hz], A, rfl, by rw [nx_no (by rw [hz]; exact eI_n)]; exact ⟨W, hr⟩⟩)
  refine g_aload_n (q := 1) (i := 0) hC dL_deletes_0 rfl rfl rfl ?_
  refine g_iload_n (q := 2) (i := 1) hC dL_deletes_1 rfl rfl rfl ?_
  refine g_ci (q := 5) (g_runV hC kv_L_44 md_X4_delete (c_L_delete _ hC.fl M _ A ρ W x hr hW) (ci := 4) rfl (hr.led hW) dL_deletes_2 (by decide) (by decide) (by omega) (by omega) rfl rfl (Nat.le_of_ble_eq_true rfl)) rfl (fun r σ1 ⟨h1, h2, ⟨A', hA', h3⟩, h4⟩ => ?_) (bad)
  exact g_iret hC hR dL_deletes_5 (by omega) (by omega) (⟨_, rfl, by rw [wR_ok h1]; exact h2, A', hA', by rw [nx_ok h1]; exact h3⟩)
theorem s_deletes {l : Launch} (hfl : l.stackTraces = false) {M : gMT} {φ σ : gS} {a0 : Nat} {ρ : gSt} (x : Int32) (hst : St M φ a0 ρ σ) (hW : RW ρ ∧ RE ρ) : Con l M yL_deletes (.codeWith yL_deletes cL_deletes 3 (some .int) hL_deletes) 13 3 31 [.ref a0, .int x] σ (rI (sQ M φ a0 (wR (lo_delete ρ x)) (nx ρ (lo_delete ρ x)))) nX := St.lift hst (fun M σ1 A W h1 h2 => by subst h1; exact c_W_deletes l hfl M σ1 A ρ W x h2 hW.1)
theorem thr_movesFile (ρ : gSt) (x : Int32) (y : Int32) : (lo_moveFile ρ x y).1 = "" ∨ (lo_moveFile ρ x y).1 = eI := by
  unfold lo_moveFile
  repeat' split
  all_goals first | exact Or.inl rfl | exact Or.inl lb2_fst | exact Or.inr rfl
set_option maxRecDepth 100000 in
set_option maxHeartbeats 4000000 in
theorem c_W_movesFile (l : Launch) (hfl : l.stackTraces = false) (M : gMT) (σ : gS) (A : gAd) (ρ : gSt) (W : gWt) (x : Int32) (y : Int32) (hr : Raw M σ A ρ W) (hW : RW ρ) : Con l M yL_movesFile (.codeWith yL_movesFile cL_movesFile 4 (some .int) hL_movesFile) 13 6 62 [.ref (A 0 0), .int x, .int y] σ (rI fun r σ2 => r = wR (lo_moveFile ρ x y) ∧ ∃ A', A' 0 0 = A 0 0 ∧ RawE M σ2 A' (nx ρ (lo_moveFile ρ x y))) nX := by
  refine g_conW (hh := hL_movesFile) hfl (by decide) (lv := [(0, .ref (A 0 0)), (1, .int x), (2, .int y)]) rfl rfl (Nat.le_of_ble_eq_true rfl) (fun X hX hC hR htb => ?_)
  have bad : ∀ E σ2, lX σ (lo_moveFile ρ x y) E σ2 → GX X M 4 (gQ X M 6 62 (rI fun r σ2 => r = wR (lo_moveFile ρ x y) ∧ ∃ A', A' 0 0 = A 0 0 ∧ RawE M σ2 A' (nx ρ (lo_moveFile ρ x y))) nX) (0 + 6) (0 + 62) σ2 3 [(0, .ref (A 0 0)), (1, .int x), (2, .int y)] E := by
    intro E σ2 h9
    obtain ⟨⟨h8, hne⟩, rfl⟩ := h9
    rcases thr_movesFile ρ x y with z | z
    · exact absurd (h8.symm.trans z) hne
    · have hz := z
      rw [h8] at z
      subst z
      refine g_catch (name := eI) hC [] _ _ (htb : _ = [] ++ _ :: _) (fun z hz => absurd hz List.not_mem_nil) rfl (by decide) lwk_30 (by simp [gCast]) (fun q => ?_)
      show G X M 4 _ _ _ _ 7 _ _
      refine g_astore_n (q := 8) (i := 3) hC dL_movesFile_7 rfl (by decide) rfl ?_
      refine g_ldc (q := 10) hC kk_L_32 dL_movesFile_8 rfl ?_
      exact g_iret hC hR dL_movesFile_10 (by omega) (by omega) (⟨_, rfl, by rw [wR_I hz], A, rfl, by rw [nx_no (by rw [hz]; exact eI_n)]; exact ⟨W, hr⟩⟩)
  refine g_aload_n (q := 1) (i := 0) hC dL_movesFile_0 rfl rfl rfl ?_
  refine g_iload_n (q := 2) (i := 1) hC dL_movesFile_1 rfl rfl rfl ?_
  refine g_iload_n (q := 3) (i := 2) hC dL_movesFile_2 rfl rfl rfl ?_
  refine g_ci (q := 6) (g_runV hC kv_L_47 md_X4_moveFile (c_L_moveFile _ hC.fl M _ A ρ W x y hr hW) (ci := 4) rfl (hr.led hW) dL_movesFile_3 (by decide) (by decide) (by omega) (by omega) rfl rfl (Nat.le_of_ble_eq_true rfl)) rfl (fun r σ1 ⟨h1, h2, ⟨A', hA', h3⟩, h4⟩ => ?_) (bad)
  exact g_iret hC hR dL_movesFile_6 (by omega) (by omega) (⟨_, rfl, by rw [wR_ok h1]; exact h2, A', hA', by rw [nx_ok h1]; exact h3⟩)
theorem s_movesFile {l : Launch} (hfl : l.stackTraces = false) {M : gMT} {φ σ : gS} {a0 : Nat} {ρ : gSt} (x : Int32) (y : Int32) (hst : St M φ a0 ρ σ) (hW : RW ρ ∧ RE ρ) : Con l M yL_movesFile (.codeWith yL_movesFile cL_movesFile 4 (some .int) hL_movesFile) 13 6 62 [.ref a0, .int x, .int y] σ (rI (sQ M φ a0 (wR (lo_moveFile ρ x y)) (nx ρ (lo_moveFile ρ x y)))) nX := St.lift hst (fun M σ1 A W h1 h2 => by subst h1; exact c_W_movesFile l hfl M σ1 A ρ W x y h2 hW.1)
theorem thr_reserves (ρ : gSt) (x : Int32) (y : Int32) : (lo_reserve ρ x y).1 = "" ∨ (lo_reserve ρ x y).1 = eI ∨ (lo_reserve ρ x y).1 = eA ∨ (lo_reserve ρ x y).1 = eS := by
  unfold lo_reserve
  repeat' split
  all_goals first | exact Or.inl rfl | exact Or.inl lb2_fst | exact Or.inr (Or.inl rfl) | exact Or.inr (Or.inr (Or.inl rfl)) | exact Or.inr (Or.inr (Or.inr rfl))
set_option maxRecDepth 100000 in
set_option maxHeartbeats 4000000 in
theorem c_W_reserves (l : Launch) (hfl : l.stackTraces = false) (M : gMT) (σ : gS) (A : gAd) (ρ : gSt) (W : gWt) (x : Int32) (y : Int32) (hr : Raw M σ A ρ W) (hW : RW ρ) (hE : RE ρ) : Con l M yL_reserves (.codeWith yL_reserves cL_reserves 4 (some .int) hL_reserves) 13 40 1000 [.ref (A 0 0), .int x, .int y] σ (rI fun r σ2 => r = wR (lo_reserve ρ x y) ∧ ∃ A', A' 0 0 = A 0 0 ∧ RawE M σ2 A' (nx ρ (lo_reserve ρ x y))) nX := by
  refine g_conW (hh := hL_reserves) hfl (by decide) (lv := [(0, .ref (A 0 0)), (1, .int x), (2, .int y)]) rfl rfl (Nat.le_of_ble_eq_true rfl) (fun X hX hC hR htb => ?_)
  have bad : ∀ E σ2, lX σ (lo_reserve ρ x y) E σ2 → GX X M 4 (gQ X M 40 1000 (rI fun r σ2 => r = wR (lo_reserve ρ x y) ∧ ∃ A', A' 0 0 = A 0 0 ∧ RawE M σ2 A' (nx ρ (lo_reserve ρ x y))) nX) (0 + 40) (0 + 1000) σ2 3 [(0, .ref (A 0 0)), (1, .int x), (2, .int y)] E := by
    intro E σ2 h9
    obtain ⟨⟨h8, hne⟩, rfl⟩ := h9
    rcases thr_reserves ρ x y with z | z | z | z
    · exact absurd (h8.symm.trans z) hne
    · have hz := z
      rw [h8] at z
      subst z
      refine g_catch (name := eI) hC [] _ _ (htb : _ = [] ++ _ :: _) (fun z hz => absurd hz List.not_mem_nil) rfl (by decide) lwk_30 (by simp [gCast]) (fun q => ?_)
      show G X M 4 _ _ _ _ 7 _ _
      refine g_astore_n (q := 8) (i := 3) hC dL_reserves_7 rfl (by decide) rfl ?_
      refine g_ldc (q := 10) hC kk_L_32 dL_reserves_8 rfl ?_
      exact g_iret hC hR dL_reserves_10 (by omega) (by omega) (⟨_, rfl, by rw [wR_I hz], A, rfl, by rw [nx_no (by rw [hz]; exact eI_n)]; exact ⟨W, hr⟩⟩)
    · have hz := z
      rw [h8] at z
      subst z
      refine g_catch (name := eA) hC [_] _ _ (htb : _ = [_] ++ _ :: _) (fun z hz => ?_) rfl (by decide) lwk_13 (by simp [gCast]) (fun q => ?_)
      · obtain rfl := List.mem_singleton.mp hz
        exact Or.inr ⟨by decide, eI, lwk_30, by simp [gNcs]⟩
      · show G X M 4 _ _ _ _ 11 _ _
        refine g_astore_n (q := 12) (i := 3) hC dL_reserves_11 rfl (by decide) rfl ?_
        refine g_ldc (q := 14) hC kk_L_15 dL_reserves_12 rfl ?_
        exact g_iret hC hR dL_reserves_14 (by omega) (by omega) (⟨_, rfl, by rw [wR_A hz], A, rfl, by rw [nx_no (by rw [hz]; exact eA_n)]; exact ⟨W, hr⟩⟩)
    · have hz := z
      rw [h8] at z
      subst z
      refine g_catch (name := eS) hC [_, _] _ _ (htb : _ = [_, _] ++ _ :: _) (fun z hz => ?_) rfl (by decide) lwk_16 (by simp [gCast]) (fun q => ?_)
      · rcases List.mem_cons.mp hz with rfl | hz
        · exact Or.inr ⟨by decide, eI, lwk_30, by simp [gNcs]⟩
        · obtain rfl := List.mem_singleton.mp hz
          exact Or.inr ⟨by decide, eA, lwk_13, by simp [gNcs]⟩
      · show G X M 4 _ _ _ _ 15 _ _
        refine g_astore_n (q := 16) (i := 3) hC dL_reserves_15 rfl (by decide) rfl ?_
        refine g_ldc (q := 18) hC kk_L_18 dL_reserves_16 rfl ?_
        exact g_iret hC hR dL_reserves_18 (by omega) (by omega) (⟨_, rfl, by rw [wR_S hz], A, rfl, by rw [nx_no (by rw [hz]; exact eS_n)]; exact ⟨W, hr⟩⟩)
  refine g_aload_n (q := 1) (i := 0) hC dL_reserves_0 rfl rfl rfl ?_
  refine g_iload_n (q := 2) (i := 1) hC dL_reserves_1 rfl rfl rfl ?_
  refine g_iload_n (q := 3) (i := 2) hC dL_reserves_2 rfl rfl rfl ?_
  refine g_ci (q := 6) (g_runV hC kv_L_50 md_X4_reserve (c_L_reserve _ hC.fl M _ A ρ W x y hr hW hE) (ci := 4) rfl (hr.led hW) dL_reserves_3 (by decide) (by decide) (by omega) (by omega) rfl rfl (Nat.le_of_ble_eq_true rfl)) rfl (fun r σ1 ⟨h1, h2, ⟨A', hA', h3⟩, h4⟩ => ?_) (bad)
  exact g_iret hC hR dL_reserves_6 (by omega) (by omega) (⟨_, rfl, by rw [wR_ok h1]; exact h2, A', hA', by rw [nx_ok h1]; exact h3⟩)
theorem s_reserves {l : Launch} (hfl : l.stackTraces = false) {M : gMT} {φ σ : gS} {a0 : Nat} {ρ : gSt} (x : Int32) (y : Int32) (hst : St M φ a0 ρ σ) (hW : RW ρ ∧ RE ρ) : Con l M yL_reserves (.codeWith yL_reserves cL_reserves 4 (some .int) hL_reserves) 13 40 1000 [.ref a0, .int x, .int y] σ (rI (sQ M φ a0 (wR (lo_reserve ρ x y)) (nx ρ (lo_reserve ρ x y)))) nX := St.lift hst (fun M σ1 A W h1 h2 => by subst h1; exact c_W_reserves l hfl M σ1 A ρ W x y h2 hW.1 hW.2)
theorem thr_settles (ρ : gSt) (x : Int32) (y : Int32) : (lo_settle ρ x y).1 = "" ∨ (lo_settle ρ x y).1 = eI ∨ (lo_settle ρ x y).1 = eA := by
  unfold lo_settle
  repeat' split
  all_goals first | exact Or.inl rfl | exact Or.inl lb2_fst | exact Or.inr (Or.inl rfl) | exact Or.inr (Or.inr rfl)
set_option maxRecDepth 100000 in
set_option maxHeartbeats 4000000 in
theorem c_W_settles (l : Launch) (hfl : l.stackTraces = false) (M : gMT) (σ : gS) (A : gAd) (ρ : gSt) (W : gWt) (x : Int32) (y : Int32) (hr : Raw M σ A ρ W) (hW : RW ρ) : Con l M yL_settles (.codeWith yL_settles cL_settles 4 (some .int) hL_settles) 13 2 25 [.ref (A 0 0), .int x, .int y] σ (rI fun r σ2 => r = wR (lo_settle ρ x y) ∧ ∃ A', A' 0 0 = A 0 0 ∧ RawE M σ2 A' (nx ρ (lo_settle ρ x y))) nX := by
  refine g_conW (hh := hL_settles) hfl (by decide) (lv := [(0, .ref (A 0 0)), (1, .int x), (2, .int y)]) rfl rfl (Nat.le_of_ble_eq_true rfl) (fun X hX hC hR htb => ?_)
  have bad : ∀ E σ2, lX σ (lo_settle ρ x y) E σ2 → GX X M 4 (gQ X M 2 25 (rI fun r σ2 => r = wR (lo_settle ρ x y) ∧ ∃ A', A' 0 0 = A 0 0 ∧ RawE M σ2 A' (nx ρ (lo_settle ρ x y))) nX) (0 + 2) (0 + 25) σ2 3 [(0, .ref (A 0 0)), (1, .int x), (2, .int y)] E := by
    intro E σ2 h9
    obtain ⟨⟨h8, hne⟩, rfl⟩ := h9
    rcases thr_settles ρ x y with z | z | z
    · exact absurd (h8.symm.trans z) hne
    · have hz := z
      rw [h8] at z
      subst z
      refine g_catch (name := eI) hC [] _ _ (htb : _ = [] ++ _ :: _) (fun z hz => absurd hz List.not_mem_nil) rfl (by decide) lwk_30 (by simp [gCast]) (fun q => ?_)
      show G X M 4 _ _ _ _ 7 _ _
      refine g_astore_n (q := 8) (i := 3) hC dL_settles_7 rfl (by decide) rfl ?_
      refine g_ldc (q := 10) hC kk_L_32 dL_settles_8 rfl ?_
      exact g_iret hC hR dL_settles_10 (by omega) (by omega) (⟨_, rfl, by rw [wR_I hz], A, rfl, by rw [nx_no (by rw [hz]; exact eI_n)]; exact ⟨W, hr⟩⟩)
    · have hz := z
      rw [h8] at z
      subst z
      refine g_catch (name := eA) hC [_] _ _ (htb : _ = [_] ++ _ :: _) (fun z hz => ?_) rfl (by decide) lwk_13 (by simp [gCast]) (fun q => ?_)
      · obtain rfl := List.mem_singleton.mp hz
        exact Or.inr ⟨by decide, eI, lwk_30, by simp [gNcs]⟩
      · show G X M 4 _ _ _ _ 11 _ _
        refine g_astore_n (q := 12) (i := 3) hC dL_settles_11 rfl (by decide) rfl ?_
        refine g_ldc (q := 14) hC kk_L_15 dL_settles_12 rfl ?_
        exact g_iret hC hR dL_settles_14 (by omega) (by omega) (⟨_, rfl, by rw [wR_A hz], A, rfl, by rw [nx_no (by rw [hz]; exact eA_n)]; exact ⟨W, hr⟩⟩)
  refine g_aload_n (q := 1) (i := 0) hC dL_settles_0 rfl rfl rfl ?_
  refine g_iload_n (q := 2) (i := 1) hC dL_settles_1 rfl rfl rfl ?_
  refine g_iload_n (q := 3) (i := 2) hC dL_settles_2 rfl rfl rfl ?_
  refine g_ci (q := 6) (g_runV hC kv_L_53 md_X4_settle (c_L_settle _ hC.fl M _ A ρ W x y hr hW) (ci := 4) rfl (hr.led hW) dL_settles_3 (by decide) (by decide) (by omega) (by omega) rfl rfl (Nat.le_of_ble_eq_true rfl)) rfl (fun r σ1 ⟨h1, h2, ⟨A', hA', h3⟩, h4⟩ => ?_) (bad)
  exact g_iret hC hR dL_settles_6 (by omega) (by omega) (⟨_, rfl, by rw [wR_ok h1]; exact h2, A', hA', by rw [nx_ok h1]; exact h3⟩)
theorem s_settles {l : Launch} (hfl : l.stackTraces = false) {M : gMT} {φ σ : gS} {a0 : Nat} {ρ : gSt} (x : Int32) (y : Int32) (hst : St M φ a0 ρ σ) (hW : RW ρ ∧ RE ρ) : Con l M yL_settles (.codeWith yL_settles cL_settles 4 (some .int) hL_settles) 13 2 25 [.ref a0, .int x, .int y] σ (rI (sQ M φ a0 (wR (lo_settle ρ x y)) (nx ρ (lo_settle ρ x y)))) nX := St.lift hst (fun M σ1 A W h1 h2 => by subst h1; exact c_W_settles l hfl M σ1 A ρ W x y h2 hW.1)
theorem sl_0 (ρ : gSt) (kd x u v w : Int32) : (lo_setLimits ρ kd x u v w).2.1 = 0 := by
  unfold lo_setLimits
  repeat' split
  all_goals rfl
theorem thr_limits (ρ : gSt) (kd : Int32) (x : Int32) (u : Int32) (v : Int32) (w : Int32) : (lo_setLimits ρ kd x u v w).1 = "" ∨ (lo_setLimits ρ kd x u v w).1 = eI ∨ (lo_setLimits ρ kd x u v w).1 = eA := by
  unfold lo_setLimits
  repeat' split
  all_goals first | exact Or.inl rfl | exact Or.inl lb2_fst | exact Or.inr (Or.inl rfl) | exact Or.inr (Or.inr rfl)
set_option maxRecDepth 100000 in
set_option maxHeartbeats 4000000 in
theorem c_W_limits (l : Launch) (hfl : l.stackTraces = false) (M : gMT) (σ : gS) (A : gAd) (ρ : gSt) (W : gWt) (kd : Int32) (x : Int32) (u : Int32) (v : Int32) (w : Int32) (hr : Raw M σ A ρ W) (hW : RW ρ) : Con l M yL_limits (.codeWith yL_limits cL_limits 7 (some .int) hL_limits) 13 2 12 [.ref (A 0 0), .int kd, .int x, .int u, .int v, .int w] σ (rI fun r σ2 => r = wR (lo_setLimits ρ kd x u v w) ∧ ∃ A', A' 0 0 = A 0 0 ∧ RawE M σ2 A' (nx ρ (lo_setLimits ρ kd x u v w))) nX := by
  refine g_conW (hh := hL_limits) hfl (by decide) (lv := [(0, .ref (A 0 0)), (1, .int kd), (2, .int x), (3, .int u), (4, .int v), (5, .int w)]) rfl rfl (Nat.le_of_ble_eq_true rfl) (fun X hX hC hR htb => ?_)
  have bad : ∀ E σ2, lX σ (lo_setLimits ρ kd x u v w) E σ2 → GX X M 7 (gQ X M 2 12 (rI fun r σ2 => r = wR (lo_setLimits ρ kd x u v w) ∧ ∃ A', A' 0 0 = A 0 0 ∧ RawE M σ2 A' (nx ρ (lo_setLimits ρ kd x u v w))) nX) (0 + 2) (0 + 12) σ2 8 [(0, .ref (A 0 0)), (1, .int kd), (2, .int x), (3, .int u), (4, .int v), (5, .int w)] E := by
    intro E σ2 h9
    obtain ⟨⟨h8, hne⟩, rfl⟩ := h9
    rcases thr_limits ρ kd x u v w with z | z | z
    · exact absurd (h8.symm.trans z) hne
    · have hz := z
      rw [h8] at z
      subst z
      refine g_catch (name := eI) hC [] _ _ (htb : _ = [] ++ _ :: _) (fun z hz => absurd hz List.not_mem_nil) rfl (by decide) lwk_30 (by simp [gCast]) (fun q => ?_)
      show G X M 7 _ _ _ _ 14 _ _
      refine g_astore (q := 16) (i := 6) hC dL_limits_14 (by decide) rfl ?_
      refine g_ldc (q := 18) hC kk_L_32 dL_limits_16 rfl ?_
      exact g_iret hC hR dL_limits_18 (by omega) (by omega) (⟨_, rfl, by rw [wR_I hz], A, rfl, by rw [nx_no (by rw [hz]; exact eI_n)]; exact ⟨W, hr⟩⟩)
    · have hz := z
      rw [h8] at z
      subst z
      refine g_catch (name := eA) hC [_] _ _ (htb : _ = [_] ++ _ :: _) (fun z hz => ?_) rfl (by decide) lwk_13 (by simp [gCast]) (fun q => ?_)
      · obtain rfl := List.mem_singleton.mp hz
        exact Or.inr ⟨by decide, eI, lwk_30, by simp [gNcs]⟩
      · show G X M 7 _ _ _ _ 19 _ _
        refine g_astore (q := 21) (i := 6) hC dL_limits_19 (by decide) rfl ?_
        refine g_ldc (q := 23) hC kk_L_15 dL_limits_21 rfl ?_
        exact g_iret hC hR dL_limits_23 (by omega) (by omega) (⟨_, rfl, by rw [wR_A hz], A, rfl, by rw [nx_no (by rw [hz]; exact eA_n)]; exact ⟨W, hr⟩⟩)
  refine g_aload_n (q := 1) (i := 0) hC dL_limits_0 rfl rfl rfl ?_
  refine g_iload_n (q := 2) (i := 1) hC dL_limits_1 rfl rfl rfl ?_
  refine g_iload_n (q := 3) (i := 2) hC dL_limits_2 rfl rfl rfl ?_
  refine g_iload_n (q := 4) (i := 3) hC dL_limits_3 rfl rfl rfl ?_
  refine g_iload (q := 6) (i := 4) hC dL_limits_4 rfl rfl ?_
  refine g_iload (q := 8) (i := 5) hC dL_limits_6 rfl rfl ?_
  refine g_cv (q := 11) (g_runV hC kv_L_56 md_X4_setLimits (c_L_setLimits _ hC.fl M _ A ρ W kd x u v w hr hW) (ci := 4) rfl (hr.led hW) dL_limits_8 (by decide) (by decide) (by omega) (by omega) rfl rfl (Nat.le_of_ble_eq_true rfl)) rfl (fun σ1 ⟨h1, h2, ⟨A', hA', h3⟩, h4⟩ => ?_) (bad)
  refine g_goto (tgt := 24) hC dL_limits_11 (by decide) ?_
  refine g_iconst (q := 25) (v := (0)) hC dL_limits_24 rfl rfl ?_
  exact g_iret hC hR dL_limits_25 (by omega) (by omega) (⟨_, rfl, by rw [wR_ok h1]; exact (sl_0 ρ kd x u v w).symm, A', hA', by rw [nx_ok h1]; exact h3⟩)
theorem s_limits {l : Launch} (hfl : l.stackTraces = false) {M : gMT} {φ σ : gS} {a0 : Nat} {ρ : gSt} (kd : Int32) (x : Int32) (u : Int32) (v : Int32) (w : Int32) (hst : St M φ a0 ρ σ) (hW : RW ρ ∧ RE ρ) : Con l M yL_limits (.codeWith yL_limits cL_limits 7 (some .int) hL_limits) 13 2 12 [.ref a0, .int kd, .int x, .int u, .int v, .int w] σ (rI (sQ M φ a0 (wR (lo_setLimits ρ kd x u v w)) (nx ρ (lo_setLimits ρ kd x u v w)))) nX := St.lift hst (fun M σ1 A W h1 h2 => by subst h1; exact c_W_limits l hfl M σ1 A ρ W kd x u v w h2 hW.1)
theorem thr_passes (ρ : gSt) (x : Int32) : (lo_pass ρ x).1 = "" ∨ (lo_pass ρ x).1 = eA ∨ (lo_pass ρ x).1 = eS := by
  unfold lo_pass
  repeat' split
  all_goals first | exact Or.inl rfl | exact Or.inl lb2_fst | exact Or.inr (Or.inl rfl) | exact Or.inr (Or.inr rfl)
set_option maxRecDepth 100000 in
set_option maxHeartbeats 4000000 in
theorem c_W_passes (l : Launch) (hfl : l.stackTraces = false) (M : gMT) (σ : gS) (A : gAd) (ρ : gSt) (W : gWt) (x : Int32) (hr : Raw M σ A ρ W) (hW : RW ρ) : Con l M yL_passes (.codeWith yL_passes cL_passes 3 (some .int) hL_passes) 13 1 6 [.ref (A 0 0), .int x] σ (rI fun r σ2 => r = wR (lo_pass ρ x) ∧ ∃ A', A' 0 0 = A 0 0 ∧ RawE M σ2 A' (nx ρ (lo_pass ρ x))) nX := by
  refine g_conW (hh := hL_passes) hfl (by decide) (lv := [(0, .ref (A 0 0)), (1, .int x)]) rfl rfl (Nat.le_of_ble_eq_true rfl) (fun X hX hC hR htb => ?_)
  have bad : ∀ E σ2, lX σ (lo_pass ρ x) E σ2 → GX X M 3 (gQ X M 1 6 (rI fun r σ2 => r = wR (lo_pass ρ x) ∧ ∃ A', A' 0 0 = A 0 0 ∧ RawE M σ2 A' (nx ρ (lo_pass ρ x))) nX) (0 + 1) (0 + 6) σ2 2 [(0, .ref (A 0 0)), (1, .int x)] E := by
    intro E σ2 h9
    obtain ⟨⟨h8, hne⟩, rfl⟩ := h9
    rcases thr_passes ρ x with z | z | z
    · exact absurd (h8.symm.trans z) hne
    · have hz := z
      rw [h8] at z
      subst z
      refine g_catch (name := eA) hC [] _ _ (htb : _ = [] ++ _ :: _) (fun z hz => absurd hz List.not_mem_nil) rfl (by decide) lwk_13 (by simp [gCast]) (fun q => ?_)
      show G X M 3 _ _ _ _ 6 _ _
      refine g_astore_n (q := 7) (i := 2) hC dL_passes_6 rfl (by decide) rfl ?_
      refine g_ldc (q := 9) hC kk_L_15 dL_passes_7 rfl ?_
      exact g_iret hC hR dL_passes_9 (by omega) (by omega) (⟨_, rfl, by rw [wR_A hz], A, rfl, by rw [nx_no (by rw [hz]; exact eA_n)]; exact ⟨W, hr⟩⟩)
    · have hz := z
      rw [h8] at z
      subst z
      refine g_catch (name := eS) hC [_] _ _ (htb : _ = [_] ++ _ :: _) (fun z hz => ?_) rfl (by decide) lwk_16 (by simp [gCast]) (fun q => ?_)
      · obtain rfl := List.mem_singleton.mp hz
        exact Or.inr ⟨by decide, eA, lwk_13, by simp [gNcs]⟩
      · show G X M 3 _ _ _ _ 10 _ _
        refine g_astore_n (q := 11) (i := 2) hC dL_passes_10 rfl (by decide) rfl ?_
        refine g_ldc (q := 13) hC kk_L_18 dL_passes_11 rfl ?_
        exact g_iret hC hR dL_passes_13 (by omega) (by omega) (⟨_, rfl, by rw [wR_S hz], A, rfl, by rw [nx_no (by rw [hz]; exact eS_n)]; exact ⟨W, hr⟩⟩)
  refine g_aload_n (q := 1) (i := 0) hC dL_passes_0 rfl rfl rfl ?_
  refine g_iload_n (q := 2) (i := 1) hC dL_passes_1 rfl rfl rfl ?_
  refine g_ci (q := 5) (g_runV hC kv_L_60 md_X4_pass (c_L_pass _ hC.fl M _ A ρ W x hr hW) (ci := 4) rfl (hr.led hW) dL_passes_2 (by decide) (by decide) (by omega) (by omega) rfl rfl (Nat.le_of_ble_eq_true rfl)) rfl (fun r σ1 ⟨h1, h2, ⟨A', hA', h3⟩, h4⟩ => ?_) (bad)
  exact g_iret hC hR dL_passes_5 (by omega) (by omega) (⟨_, rfl, by rw [wR_ok h1]; exact h2, A', hA', by rw [nx_ok h1]; exact h3⟩)
theorem s_passes {l : Launch} (hfl : l.stackTraces = false) {M : gMT} {φ σ : gS} {a0 : Nat} {ρ : gSt} (x : Int32) (hst : St M φ a0 ρ σ) (hW : RW ρ ∧ RE ρ) : Con l M yL_passes (.codeWith yL_passes cL_passes 3 (some .int) hL_passes) 13 1 6 [.ref a0, .int x] σ (rI (sQ M φ a0 (wR (lo_pass ρ x)) (nx ρ (lo_pass ρ x)))) nX := St.lift hst (fun M σ1 A W h1 h2 => by subst h1; exact c_W_passes l hfl M σ1 A ρ W x h2 hW.1)
theorem thr_used (ρ : gSt) (x : Int32) (y : Int32) : (lo_used ρ x y).1 = "" ∨ (lo_used ρ x y).1 = eI := by
  unfold lo_used lo_acc
  repeat' split
  all_goals first | exact Or.inl rfl | exact Or.inl lb2_fst | exact Or.inr rfl
set_option maxRecDepth 100000 in
set_option maxHeartbeats 4000000 in
theorem c_W_used (l : Launch) (hfl : l.stackTraces = false) (M : gMT) (σ : gS) (A : gAd) (ρ : gSt) (W : gWt) (x : Int32) (y : Int32) (hr : Raw M σ A ρ W) (hW : RW ρ) : Con l M yL_used (.codeWith yL_used cL_used 4 (some .int) hL_used) 13 1 6 [.ref (A 0 0), .int x, .int y] σ (rI fun r σ2 => r = wR (lo_used ρ x y) ∧ ∃ A', A' 0 0 = A 0 0 ∧ RawE M σ2 A' (nx ρ (lo_used ρ x y))) nX := by
  refine g_conW (hh := hL_used) hfl (by decide) (lv := [(0, .ref (A 0 0)), (1, .int x), (2, .int y)]) rfl rfl (Nat.le_of_ble_eq_true rfl) (fun X hX hC hR htb => ?_)
  have bad : ∀ E σ2, lX σ (lo_used ρ x y) E σ2 → GX X M 4 (gQ X M 1 6 (rI fun r σ2 => r = wR (lo_used ρ x y) ∧ ∃ A', A' 0 0 = A 0 0 ∧ RawE M σ2 A' (nx ρ (lo_used ρ x y))) nX) (0 + 1) (0 + 6) σ2 3 [(0, .ref (A 0 0)), (1, .int x), (2, .int y)] E := by
    intro E σ2 h9
    obtain ⟨⟨h8, hne⟩, rfl⟩ := h9
    rcases thr_used ρ x y with z | z
    · exact absurd (h8.symm.trans z) hne
    · have hz := z
      rw [h8] at z
      subst z
      refine g_catch (name := eI) hC [] _ _ (htb : _ = [] ++ _ :: _) (fun z hz => absurd hz List.not_mem_nil) rfl (by decide) lwk_30 (by simp [gCast]) (fun q => ?_)
      show G X M 4 _ _ _ _ 7 _ _
      refine g_astore_n (q := 8) (i := 3) hC dL_used_7 rfl (by decide) rfl ?_
      refine g_ldc (q := 10) hC kk_L_32 dL_used_8 rfl ?_
      exact g_iret hC hR dL_used_10 (by omega) (by omega) (⟨_, rfl, by rw [wR_I hz], A, rfl, by rw [nx_no (by rw [hz]; exact eI_n)]; exact ⟨W, hr⟩⟩)
  refine g_aload_n (q := 1) (i := 0) hC dL_used_0 rfl rfl rfl ?_
  refine g_iload_n (q := 2) (i := 1) hC dL_used_1 rfl rfl rfl ?_
  refine g_iload_n (q := 3) (i := 2) hC dL_used_2 rfl rfl rfl ?_
  refine g_ci (q := 6) (g_runV hC kv_L_63 md_X4_used (c_L_used _ hC.fl M _ A ρ W x y hr hW) (ci := 4) rfl (hr.led hW) dL_used_3 (by decide) (by decide) (by omega) (by omega) rfl rfl (Nat.le_of_ble_eq_true rfl)) rfl (fun r σ1 ⟨h1, h2, ⟨A', hA', h3⟩, h4⟩ => ?_) (bad)
  exact g_iret hC hR dL_used_6 (by omega) (by omega) (⟨_, rfl, by rw [wR_ok h1]; exact h2, A', hA', by rw [nx_ok h1]; exact h3⟩)
theorem s_used {l : Launch} (hfl : l.stackTraces = false) {M : gMT} {φ σ : gS} {a0 : Nat} {ρ : gSt} (x : Int32) (y : Int32) (hst : St M φ a0 ρ σ) (hW : RW ρ ∧ RE ρ) : Con l M yL_used (.codeWith yL_used cL_used 4 (some .int) hL_used) 13 1 6 [.ref a0, .int x, .int y] σ (rI (sQ M φ a0 (wR (lo_used ρ x y)) (nx ρ (lo_used ρ x y)))) nX := St.lift hst (fun M σ1 A W h1 h2 => by subst h1; exact c_W_used l hfl M σ1 A ρ W x y h2 hW.1)
theorem thr_files (ρ : gSt) (x : Int32) (y : Int32) : (lo_filesOf ρ x y).1 = "" ∨ (lo_filesOf ρ x y).1 = eI := by
  unfold lo_filesOf lo_acc
  repeat' split
  all_goals first | exact Or.inl rfl | exact Or.inl lb2_fst | exact Or.inr rfl
set_option maxRecDepth 100000 in
set_option maxHeartbeats 4000000 in
theorem c_W_files (l : Launch) (hfl : l.stackTraces = false) (M : gMT) (σ : gS) (A : gAd) (ρ : gSt) (W : gWt) (x : Int32) (y : Int32) (hr : Raw M σ A ρ W) (hW : RW ρ) : Con l M yL_files (.codeWith yL_files cL_files 4 (some .int) hL_files) 13 1 6 [.ref (A 0 0), .int x, .int y] σ (rI fun r σ2 => r = wR (lo_filesOf ρ x y) ∧ ∃ A', A' 0 0 = A 0 0 ∧ RawE M σ2 A' (nx ρ (lo_filesOf ρ x y))) nX := by
  refine g_conW (hh := hL_files) hfl (by decide) (lv := [(0, .ref (A 0 0)), (1, .int x), (2, .int y)]) rfl rfl (Nat.le_of_ble_eq_true rfl) (fun X hX hC hR htb => ?_)
  have bad : ∀ E σ2, lX σ (lo_filesOf ρ x y) E σ2 → GX X M 4 (gQ X M 1 6 (rI fun r σ2 => r = wR (lo_filesOf ρ x y) ∧ ∃ A', A' 0 0 = A 0 0 ∧ RawE M σ2 A' (nx ρ (lo_filesOf ρ x y))) nX) (0 + 1) (0 + 6) σ2 3 [(0, .ref (A 0 0)), (1, .int x), (2, .int y)] E := by
    intro E σ2 h9
    obtain ⟨⟨h8, hne⟩, rfl⟩ := h9
    rcases thr_files ρ x y with z | z
    · exact absurd (h8.symm.trans z) hne
    · have hz := z
      rw [h8] at z
      subst z
      refine g_catch (name := eI) hC [] _ _ (htb : _ = [] ++ _ :: _) (fun z hz => absurd hz List.not_mem_nil) rfl (by decide) lwk_30 (by simp [gCast]) (fun q => ?_)
      show G X M 4 _ _ _ _ 7 _ _
      refine g_astore_n (q := 8) (i := 3) hC dL_files_7 rfl (by decide) rfl ?_
      refine g_ldc (q := 10) hC kk_L_32 dL_files_8 rfl ?_
      exact g_iret hC hR dL_files_10 (by omega) (by omega) (⟨_, rfl, by rw [wR_I hz], A, rfl, by rw [nx_no (by rw [hz]; exact eI_n)]; exact ⟨W, hr⟩⟩)
  refine g_aload_n (q := 1) (i := 0) hC dL_files_0 rfl rfl rfl ?_
  refine g_iload_n (q := 2) (i := 1) hC dL_files_1 rfl rfl rfl ?_
  refine g_iload_n (q := 3) (i := 2) hC dL_files_2 rfl rfl rfl ?_
  refine g_ci (q := 6) (g_runV hC kv_L_66 md_X4_filesOf (c_L_filesOf _ hC.fl M _ A ρ W x y hr hW) (ci := 4) rfl (hr.led hW) dL_files_3 (by decide) (by decide) (by omega) (by omega) rfl rfl (Nat.le_of_ble_eq_true rfl)) rfl (fun r σ1 ⟨h1, h2, ⟨A', hA', h3⟩, h4⟩ => ?_) (bad)
  exact g_iret hC hR dL_files_6 (by omega) (by omega) (⟨_, rfl, by rw [wR_ok h1]; exact h2, A', hA', by rw [nx_ok h1]; exact h3⟩)
theorem s_files {l : Launch} (hfl : l.stackTraces = false) {M : gMT} {φ σ : gS} {a0 : Nat} {ρ : gSt} (x : Int32) (y : Int32) (hst : St M φ a0 ρ σ) (hW : RW ρ ∧ RE ρ) : Con l M yL_files (.codeWith yL_files cL_files 4 (some .int) hL_files) 13 1 6 [.ref a0, .int x, .int y] σ (rI (sQ M φ a0 (wR (lo_filesOf ρ x y)) (nx ρ (lo_filesOf ρ x y)))) nX := St.lift hst (fun M σ1 A W h1 h2 => by subst h1; exact c_W_files l hfl M σ1 A ρ W x y h2 hW.1)
theorem thr_usedAnew (ρ : gSt) (x : Int32) (y : Int32) : (lo_usedByFiles ρ x y).1 = "" ∨ (lo_usedByFiles ρ x y).1 = eI := by
  unfold lo_usedByFiles lo_acc
  repeat' split
  all_goals first | exact Or.inl rfl | exact Or.inl lb2_fst | exact Or.inr rfl
set_option maxRecDepth 100000 in
set_option maxHeartbeats 4000000 in
theorem c_W_usedAnew (l : Launch) (hfl : l.stackTraces = false) (M : gMT) (σ : gS) (A : gAd) (ρ : gSt) (W : gWt) (x : Int32) (y : Int32) (hr : Raw M σ A ρ W) (hW : RW ρ) : Con l M yL_usedAnew (.codeWith yL_usedAnew cL_usedAnew 4 (some .int) hL_usedAnew) 13 81 1006 [.ref (A 0 0), .int x, .int y] σ (rI fun r σ2 => r = wR (lo_usedByFiles ρ x y) ∧ ∃ A', A' 0 0 = A 0 0 ∧ RawE M σ2 A' (nx ρ (lo_usedByFiles ρ x y))) nX := by
  refine g_conW (hh := hL_usedAnew) hfl (by decide) (lv := [(0, .ref (A 0 0)), (1, .int x), (2, .int y)]) rfl rfl (Nat.le_of_ble_eq_true rfl) (fun X hX hC hR htb => ?_)
  have bad : ∀ E σ2, lX σ (lo_usedByFiles ρ x y) E σ2 → GX X M 4 (gQ X M 81 1006 (rI fun r σ2 => r = wR (lo_usedByFiles ρ x y) ∧ ∃ A', A' 0 0 = A 0 0 ∧ RawE M σ2 A' (nx ρ (lo_usedByFiles ρ x y))) nX) (0 + 81) (0 + 1006) σ2 3 [(0, .ref (A 0 0)), (1, .int x), (2, .int y)] E := by
    intro E σ2 h9
    obtain ⟨⟨h8, hne⟩, rfl⟩ := h9
    rcases thr_usedAnew ρ x y with z | z
    · exact absurd (h8.symm.trans z) hne
    · have hz := z
      rw [h8] at z
      subst z
      refine g_catch (name := eI) hC [] _ _ (htb : _ = [] ++ _ :: _) (fun z hz => absurd hz List.not_mem_nil) rfl (by decide) lwk_30 (by simp [gCast]) (fun q => ?_)
      show G X M 4 _ _ _ _ 7 _ _
      refine g_astore_n (q := 8) (i := 3) hC dL_usedAnew_7 rfl (by decide) rfl ?_
      refine g_ldc (q := 10) hC kk_L_32 dL_usedAnew_8 rfl ?_
      exact g_iret hC hR dL_usedAnew_10 (by omega) (by omega) (⟨_, rfl, by rw [wR_I hz], A, rfl, by rw [nx_no (by rw [hz]; exact eI_n)]; exact ⟨W, hr⟩⟩)
  refine g_aload_n (q := 1) (i := 0) hC dL_usedAnew_0 rfl rfl rfl ?_
  refine g_iload_n (q := 2) (i := 1) hC dL_usedAnew_1 rfl rfl rfl ?_
  refine g_iload_n (q := 3) (i := 2) hC dL_usedAnew_2 rfl rfl rfl ?_
  refine g_ci (q := 6) (g_runV hC kv_L_69 md_X4_usedByFiles (c_L_usedByFiles _ hC.fl M _ A ρ W x y hr hW) (ci := 4) rfl (hr.led hW) dL_usedAnew_3 (by decide) (by decide) (by omega) (by omega) rfl rfl (Nat.le_of_ble_eq_true rfl)) rfl (fun r σ1 ⟨h1, h2, ⟨A', hA', h3⟩, h4⟩ => ?_) (bad)
  exact g_iret hC hR dL_usedAnew_6 (by omega) (by omega) (⟨_, rfl, by rw [wR_ok h1]; exact h2, A', hA', by rw [nx_ok h1]; exact h3⟩)
theorem s_usedAnew {l : Launch} (hfl : l.stackTraces = false) {M : gMT} {φ σ : gS} {a0 : Nat} {ρ : gSt} (x : Int32) (y : Int32) (hst : St M φ a0 ρ σ) (hW : RW ρ ∧ RE ρ) : Con l M yL_usedAnew (.codeWith yL_usedAnew cL_usedAnew 4 (some .int) hL_usedAnew) 13 81 1006 [.ref a0, .int x, .int y] σ (rI (sQ M φ a0 (wR (lo_usedByFiles ρ x y)) (nx ρ (lo_usedByFiles ρ x y)))) nX := St.lift hst (fun M σ1 A W h1 h2 => by subst h1; exact c_W_usedAnew l hfl M σ1 A ρ W x y h2 hW.1)
theorem thr_grace (ρ : gSt) (x : Int32) (y : Int32) : (lo_grace ρ x y).1 = "" ∨ (lo_grace ρ x y).1 = eI := by
  unfold lo_grace lo_acc
  repeat' split
  all_goals first | exact Or.inl rfl | exact Or.inl lb2_fst | exact Or.inr rfl
set_option maxRecDepth 100000 in
set_option maxHeartbeats 4000000 in
theorem c_W_grace (l : Launch) (hfl : l.stackTraces = false) (M : gMT) (σ : gS) (A : gAd) (ρ : gSt) (W : gWt) (x : Int32) (y : Int32) (hr : Raw M σ A ρ W) (hW : RW ρ) : Con l M yL_grace (.codeWith yL_grace cL_grace 4 (some .int) hL_grace) 13 1 6 [.ref (A 0 0), .int x, .int y] σ (rI fun r σ2 => r = wR (lo_grace ρ x y) ∧ ∃ A', A' 0 0 = A 0 0 ∧ RawE M σ2 A' (nx ρ (lo_grace ρ x y))) nX := by
  refine g_conW (hh := hL_grace) hfl (by decide) (lv := [(0, .ref (A 0 0)), (1, .int x), (2, .int y)]) rfl rfl (Nat.le_of_ble_eq_true rfl) (fun X hX hC hR htb => ?_)
  have bad : ∀ E σ2, lX σ (lo_grace ρ x y) E σ2 → GX X M 4 (gQ X M 1 6 (rI fun r σ2 => r = wR (lo_grace ρ x y) ∧ ∃ A', A' 0 0 = A 0 0 ∧ RawE M σ2 A' (nx ρ (lo_grace ρ x y))) nX) (0 + 1) (0 + 6) σ2 3 [(0, .ref (A 0 0)), (1, .int x), (2, .int y)] E := by
    intro E σ2 h9
    obtain ⟨⟨h8, hne⟩, rfl⟩ := h9
    rcases thr_grace ρ x y with z | z
    · exact absurd (h8.symm.trans z) hne
    · have hz := z
      rw [h8] at z
      subst z
      refine g_catch (name := eI) hC [] _ _ (htb : _ = [] ++ _ :: _) (fun z hz => absurd hz List.not_mem_nil) rfl (by decide) lwk_30 (by simp [gCast]) (fun q => ?_)
      show G X M 4 _ _ _ _ 7 _ _
      refine g_astore_n (q := 8) (i := 3) hC dL_grace_7 rfl (by decide) rfl ?_
      refine g_ldc (q := 10) hC kk_L_32 dL_grace_8 rfl ?_
      exact g_iret hC hR dL_grace_10 (by omega) (by omega) (⟨_, rfl, by rw [wR_I hz], A, rfl, by rw [nx_no (by rw [hz]; exact eI_n)]; exact ⟨W, hr⟩⟩)
  refine g_aload_n (q := 1) (i := 0) hC dL_grace_0 rfl rfl rfl ?_
  refine g_iload_n (q := 2) (i := 1) hC dL_grace_1 rfl rfl rfl ?_
  refine g_iload_n (q := 3) (i := 2) hC dL_grace_2 rfl rfl rfl ?_
  refine g_ci (q := 6) (g_runV hC kv_L_72 md_X4_grace (c_L_grace _ hC.fl M _ A ρ W x y hr hW) (ci := 4) rfl (hr.led hW) dL_grace_3 (by decide) (by decide) (by omega) (by omega) rfl rfl (Nat.le_of_ble_eq_true rfl)) rfl (fun r σ1 ⟨h1, h2, ⟨A', hA', h3⟩, h4⟩ => ?_) (bad)
  exact g_iret hC hR dL_grace_6 (by omega) (by omega) (⟨_, rfl, by rw [wR_ok h1]; exact h2, A', hA', by rw [nx_ok h1]; exact h3⟩)
theorem s_grace {l : Launch} (hfl : l.stackTraces = false) {M : gMT} {φ σ : gS} {a0 : Nat} {ρ : gSt} (x : Int32) (y : Int32) (hst : St M φ a0 ρ σ) (hW : RW ρ ∧ RE ρ) : Con l M yL_grace (.codeWith yL_grace cL_grace 4 (some .int) hL_grace) 13 1 6 [.ref a0, .int x, .int y] σ (rI (sQ M φ a0 (wR (lo_grace ρ x y)) (nx ρ (lo_grace ρ x y)))) nX := St.lift hst (fun M σ1 A W h1 h2 => by subst h1; exact c_W_grace l hfl M σ1 A ρ W x y h2 hW.1)
theorem thr_room (ρ : gSt) (x : Int32) : (lo_room ρ x).1 = "" ∨ (lo_room ρ x).1 = eI := by
  unfold lo_room
  repeat' split
  all_goals first | exact Or.inl rfl | exact Or.inl lb2_fst | exact Or.inr rfl
set_option maxRecDepth 100000 in
set_option maxHeartbeats 4000000 in
theorem c_W_room (l : Launch) (hfl : l.stackTraces = false) (M : gMT) (σ : gS) (A : gAd) (ρ : gSt) (W : gWt) (x : Int32) (hr : Raw M σ A ρ W) (hW : RW ρ) : Con l M yL_room (.codeWith yL_room cL_room 3 (some .int) hL_room) 13 3 31 [.ref (A 0 0), .int x] σ (rI fun r σ2 => r = wR (lo_room ρ x) ∧ ∃ A', A' 0 0 = A 0 0 ∧ RawE M σ2 A' (nx ρ (lo_room ρ x))) nX := by
  refine g_conW (hh := hL_room) hfl (by decide) (lv := [(0, .ref (A 0 0)), (1, .int x)]) rfl rfl (Nat.le_of_ble_eq_true rfl) (fun X hX hC hR htb => ?_)
  have bad : ∀ E σ2, lX σ (lo_room ρ x) E σ2 → GX X M 3 (gQ X M 3 31 (rI fun r σ2 => r = wR (lo_room ρ x) ∧ ∃ A', A' 0 0 = A 0 0 ∧ RawE M σ2 A' (nx ρ (lo_room ρ x))) nX) (0 + 3) (0 + 31) σ2 2 [(0, .ref (A 0 0)), (1, .int x)] E := by
    intro E σ2 h9
    obtain ⟨⟨h8, hne⟩, rfl⟩ := h9
    rcases thr_room ρ x with z | z
    · exact absurd (h8.symm.trans z) hne
    · have hz := z
      rw [h8] at z
      subst z
      refine g_catch (name := eI) hC [] _ _ (htb : _ = [] ++ _ :: _) (fun z hz => absurd hz List.not_mem_nil) rfl (by decide) lwk_30 (by simp [gCast]) (fun q => ?_)
      show G X M 3 _ _ _ _ 6 _ _
      refine g_astore_n (q := 7) (i := 2) hC dL_room_6 rfl (by decide) rfl ?_
      refine g_ldc (q := 9) hC kk_L_32 dL_room_7 rfl ?_
      exact g_iret hC hR dL_room_9 (by omega) (by omega) (⟨_, rfl, by rw [wR_I hz], A, rfl, by rw [nx_no (by rw [hz]; exact eI_n)]; exact ⟨W, hr⟩⟩)
  refine g_aload_n (q := 1) (i := 0) hC dL_room_0 rfl rfl rfl ?_
  refine g_iload_n (q := 2) (i := 1) hC dL_room_1 rfl rfl rfl ?_
  refine g_ci (q := 5) (g_runV hC kv_L_75 md_X4_room (c_L_room _ hC.fl M _ A ρ W x hr hW) (ci := 4) rfl (hr.led hW) dL_room_2 (by decide) (by decide) (by omega) (by omega) rfl rfl (Nat.le_of_ble_eq_true rfl)) rfl (fun r σ1 ⟨h1, h2, ⟨A', hA', h3⟩, h4⟩ => ?_) (bad)
  exact g_iret hC hR dL_room_5 (by omega) (by omega) (⟨_, rfl, by rw [wR_ok h1]; exact h2, A', hA', by rw [nx_ok h1]; exact h3⟩)
theorem s_room {l : Launch} (hfl : l.stackTraces = false) {M : gMT} {φ σ : gS} {a0 : Nat} {ρ : gSt} (x : Int32) (hst : St M φ a0 ρ σ) (hW : RW ρ ∧ RE ρ) : Con l M yL_room (.codeWith yL_room cL_room 3 (some .int) hL_room) 13 3 31 [.ref a0, .int x] σ (rI (sQ M φ a0 (wR (lo_room ρ x)) (nx ρ (lo_room ρ x)))) nX := St.lift hst (fun M σ1 A W h1 h2 => by subst h1; exact c_W_room l hfl M σ1 A ρ W x h2 hW.1)
theorem thr_recounts (ρ : gSt) (x : Int32) : (lo_recount ρ x).1 = "" ∨ (lo_recount ρ x).1 = eA ∨ (lo_recount ρ x).1 = eS := by
  unfold lo_recount
  repeat' split
  all_goals first | exact Or.inl rfl | exact Or.inl lb2_fst | exact Or.inr (Or.inl rfl) | exact Or.inr (Or.inr rfl)
set_option maxRecDepth 100000 in
set_option maxHeartbeats 4000000 in
theorem c_W_recounts (l : Launch) (hfl : l.stackTraces = false) (M : gMT) (σ : gS) (A : gAd) (ρ : gSt) (W : gWt) (x : Int32) (hr : Raw M σ A ρ W) (hW : RW ρ) : Con l M yL_recounts (.codeWith yL_recounts cL_recounts 3 (some .int) hL_recounts) 13 80 1000 [.ref (A 0 0), .int x] σ (rI fun r σ2 => r = wR (lo_recount ρ x) ∧ ∃ A', A' 0 0 = A 0 0 ∧ RawE M σ2 A' (nx ρ (lo_recount ρ x))) nX := by
  refine g_conW (hh := hL_recounts) hfl (by decide) (lv := [(0, .ref (A 0 0)), (1, .int x)]) rfl rfl (Nat.le_of_ble_eq_true rfl) (fun X hX hC hR htb => ?_)
  have bad : ∀ E σ2, lX σ (lo_recount ρ x) E σ2 → GX X M 3 (gQ X M 80 1000 (rI fun r σ2 => r = wR (lo_recount ρ x) ∧ ∃ A', A' 0 0 = A 0 0 ∧ RawE M σ2 A' (nx ρ (lo_recount ρ x))) nX) (0 + 80) (0 + 1000) σ2 2 [(0, .ref (A 0 0)), (1, .int x)] E := by
    intro E σ2 h9
    obtain ⟨⟨h8, hne⟩, rfl⟩ := h9
    rcases thr_recounts ρ x with z | z | z
    · exact absurd (h8.symm.trans z) hne
    · have hz := z
      rw [h8] at z
      subst z
      refine g_catch (name := eA) hC [] _ _ (htb : _ = [] ++ _ :: _) (fun z hz => absurd hz List.not_mem_nil) rfl (by decide) lwk_13 (by simp [gCast]) (fun q => ?_)
      show G X M 3 _ _ _ _ 6 _ _
      refine g_astore_n (q := 7) (i := 2) hC dL_recounts_6 rfl (by decide) rfl ?_
      refine g_ldc (q := 9) hC kk_L_15 dL_recounts_7 rfl ?_
      exact g_iret hC hR dL_recounts_9 (by omega) (by omega) (⟨_, rfl, by rw [wR_A hz], A, rfl, by rw [nx_no (by rw [hz]; exact eA_n)]; exact ⟨W, hr⟩⟩)
    · have hz := z
      rw [h8] at z
      subst z
      refine g_catch (name := eS) hC [_] _ _ (htb : _ = [_] ++ _ :: _) (fun z hz => ?_) rfl (by decide) lwk_16 (by simp [gCast]) (fun q => ?_)
      · obtain rfl := List.mem_singleton.mp hz
        exact Or.inr ⟨by decide, eA, lwk_13, by simp [gNcs]⟩
      · show G X M 3 _ _ _ _ 10 _ _
        refine g_astore_n (q := 11) (i := 2) hC dL_recounts_10 rfl (by decide) rfl ?_
        refine g_ldc (q := 13) hC kk_L_18 dL_recounts_11 rfl ?_
        exact g_iret hC hR dL_recounts_13 (by omega) (by omega) (⟨_, rfl, by rw [wR_S hz], A, rfl, by rw [nx_no (by rw [hz]; exact eS_n)]; exact ⟨W, hr⟩⟩)
  refine g_aload_n (q := 1) (i := 0) hC dL_recounts_0 rfl rfl rfl ?_
  refine g_iload_n (q := 2) (i := 1) hC dL_recounts_1 rfl rfl rfl ?_
  refine g_ci (q := 5) (g_runV hC kv_L_78 md_X4_recount (c_L_recount _ hC.fl M _ A ρ x ⟨W, hr⟩ hW) (ci := 4) rfl (hr.led hW) dL_recounts_2 (by decide) (by decide) (by omega) (by omega) rfl rfl (Nat.le_of_ble_eq_true rfl)) rfl (fun r σ1 ⟨h1, h2, ⟨A', hA', h3⟩, h4⟩ => ?_) (bad)
  exact g_iret hC hR dL_recounts_5 (by omega) (by omega) (⟨_, rfl, by rw [wR_ok h1]; exact h2, A', hA', by rw [nx_ok h1]; exact h3⟩)
theorem s_recounts {l : Launch} (hfl : l.stackTraces = false) {M : gMT} {φ σ : gS} {a0 : Nat} {ρ : gSt} (x : Int32) (hst : St M φ a0 ρ σ) (hW : RW ρ ∧ RE ρ) : Con l M yL_recounts (.codeWith yL_recounts cL_recounts 3 (some .int) hL_recounts) 13 80 1000 [.ref a0, .int x] σ (rI (sQ M φ a0 (wR (lo_recount ρ x)) (nx ρ (lo_recount ρ x)))) nX := St.lift hst (fun M σ1 A W h1 h2 => by subst h1; exact c_W_recounts l hfl M σ1 A ρ W x h2 hW.1)
theorem thr_counted (ρ : gSt) (x : Int32) (y : Int32) : (lo_counted ρ x y).1 = "" ∨ (lo_counted ρ x y).1 = eI ∨ (lo_counted ρ x y).1 = eS := by
  unfold lo_counted lo_acc
  repeat' split
  all_goals first | exact Or.inl rfl | exact Or.inl lb2_fst | exact Or.inr (Or.inl rfl) | exact Or.inr (Or.inr rfl)
set_option maxRecDepth 100000 in
set_option maxHeartbeats 4000000 in
theorem c_W_counted (l : Launch) (hfl : l.stackTraces = false) (M : gMT) (σ : gS) (A : gAd) (ρ : gSt) (W : gWt) (x : Int32) (y : Int32) (hr : Raw M σ A ρ W) (hW : RW ρ) : Con l M yL_counted (.codeWith yL_counted cL_counted 4 (some .int) hL_counted) 13 2 12 [.ref (A 0 0), .int x, .int y] σ (rI fun r σ2 => r = wR (lo_counted ρ x y) ∧ ∃ A', A' 0 0 = A 0 0 ∧ RawE M σ2 A' (nx ρ (lo_counted ρ x y))) nX := by
  refine g_conW (hh := hL_counted) hfl (by decide) (lv := [(0, .ref (A 0 0)), (1, .int x), (2, .int y)]) rfl rfl (Nat.le_of_ble_eq_true rfl) (fun X hX hC hR htb => ?_)
  have bad : ∀ E σ2, lX σ (lo_counted ρ x y) E σ2 → GX X M 4 (gQ X M 2 12 (rI fun r σ2 => r = wR (lo_counted ρ x y) ∧ ∃ A', A' 0 0 = A 0 0 ∧ RawE M σ2 A' (nx ρ (lo_counted ρ x y))) nX) (0 + 2) (0 + 12) σ2 3 [(0, .ref (A 0 0)), (1, .int x), (2, .int y)] E := by
    intro E σ2 h9
    obtain ⟨⟨h8, hne⟩, rfl⟩ := h9
    rcases thr_counted ρ x y with z | z | z
    · exact absurd (h8.symm.trans z) hne
    · have hz := z
      rw [h8] at z
      subst z
      refine g_catch (name := eI) hC [] _ _ (htb : _ = [] ++ _ :: _) (fun z hz => absurd hz List.not_mem_nil) rfl (by decide) lwk_30 (by simp [gCast]) (fun q => ?_)
      show G X M 4 _ _ _ _ 7 _ _
      refine g_astore_n (q := 8) (i := 3) hC dL_counted_7 rfl (by decide) rfl ?_
      refine g_ldc (q := 10) hC kk_L_32 dL_counted_8 rfl ?_
      exact g_iret hC hR dL_counted_10 (by omega) (by omega) (⟨_, rfl, by rw [wR_I hz], A, rfl, by rw [nx_no (by rw [hz]; exact eI_n)]; exact ⟨W, hr⟩⟩)
    · have hz := z
      rw [h8] at z
      subst z
      refine g_catch (name := eS) hC [_] _ _ (htb : _ = [_] ++ _ :: _) (fun z hz => ?_) rfl (by decide) lwk_16 (by simp [gCast]) (fun q => ?_)
      · obtain rfl := List.mem_singleton.mp hz
        exact Or.inr ⟨by decide, eI, lwk_30, by simp [gNcs]⟩
      · show G X M 4 _ _ _ _ 11 _ _
        refine g_astore_n (q := 12) (i := 3) hC dL_counted_11 rfl (by decide) rfl ?_
        refine g_ldc (q := 14) hC kk_L_18 dL_counted_12 rfl ?_
        exact g_iret hC hR dL_counted_14 (by omega) (by omega) (⟨_, rfl, by rw [wR_S hz], A, rfl, by rw [nx_no (by rw [hz]; exact eS_n)]; exact ⟨W, hr⟩⟩)
  refine g_aload_n (q := 1) (i := 0) hC dL_counted_0 rfl rfl rfl ?_
  refine g_iload_n (q := 2) (i := 1) hC dL_counted_1 rfl rfl rfl ?_
  refine g_iload_n (q := 3) (i := 2) hC dL_counted_2 rfl rfl rfl ?_
  refine g_ci (q := 6) (g_runV hC kv_L_81 md_X4_counted (c_L_counted _ hC.fl M _ A ρ W x y hr hW) (ci := 4) rfl (hr.led hW) dL_counted_3 (by decide) (by decide) (by omega) (by omega) rfl rfl (Nat.le_of_ble_eq_true rfl)) rfl (fun r σ1 ⟨h1, h2, ⟨A', hA', h3⟩, h4⟩ => ?_) (bad)
  exact g_iret hC hR dL_counted_6 (by omega) (by omega) (⟨_, rfl, by rw [wR_ok h1]; exact h2, A', hA', by rw [nx_ok h1]; exact h3⟩)
theorem s_counted {l : Launch} (hfl : l.stackTraces = false) {M : gMT} {φ σ : gS} {a0 : Nat} {ρ : gSt} (x : Int32) (y : Int32) (hst : St M φ a0 ρ σ) (hW : RW ρ ∧ RE ρ) : Con l M yL_counted (.codeWith yL_counted cL_counted 4 (some .int) hL_counted) 13 2 12 [.ref a0, .int x, .int y] σ (rI (sQ M φ a0 (wR (lo_counted ρ x y)) (nx ρ (lo_counted ρ x y)))) nX := St.lift hst (fun M σ1 A W h1 h2 => by subst h1; exact c_W_counted l hfl M σ1 A ρ W x y h2 hW.1)
theorem s_projects {l : Launch} (hfl : l.stackTraces = false) {M : gMT} {φ σ : gS} {a0 : Nat} {ρ : gSt} (hst : St M φ a0 ρ σ) (hW : RW ρ ∧ RE ρ) : Con l M yX4_projects (.code yX4_projects cX4_projects 1 (Option.some FieldType.int)) 12 0 0 [.ref a0] σ (rI (sQ M φ a0 (lo_projects ρ).2.1 (lo_projects ρ).2.2)) nX := St.lift hst (fun M σ1 A W h1 h2 => by subst h1; exact (c_L_projects l hfl M σ1 A ρ W h2 hW.1).mono (fun v τ ⟨r, e, h⟩ => ⟨r, e, lP_lift h⟩) (fun _ _ h => h))
theorem s_find {l : Launch} (hfl : l.stackTraces = false) {M : gMT} {φ σ : gS} {a0 : Nat} {ρ : gSt} (hst : St M φ a0 ρ σ) (hW : RW ρ ∧ RE ρ) : Con l M yX4_findProject (.code yX4_findProject cX4_findProject 2 (Option.some FieldType.int)) 12 0 0 [.ref a0] σ (rI (sQ M φ a0 (lo_find ρ).2.1 (lo_find ρ).2.2)) nX := St.lift hst (fun M σ1 A W h1 h2 => by subst h1; exact (c_L_findProject l hfl M σ1 A ρ W h2 hW.1).mono (fun v τ ⟨r, e, h⟩ => ⟨r, e, lP_lift h⟩) (fun _ _ h => h))
theorem s_clearPath {l : Launch} (hfl : l.stackTraces = false) {M : gMT} {φ σ : gS} {a0 : Nat} {ρ : gSt} (hst : St M φ a0 ρ σ) (hW : RW ρ ∧ RE ρ) : Con l M yX4_clearPath (.code yX4_clearPath cX4_clearPath 2 (Option.some FieldType.int)) 12 0 0 [.ref a0] σ (rI (sQ M φ a0 (lo_clearPath ρ).2.1 (lo_clearPath ρ).2.2)) nX := St.lift hst (fun M σ1 A W h1 h2 => by subst h1; exact (c_L_clearPath l hfl M σ1 A ρ W h2 hW.1).mono (fun v τ ⟨r, e, h⟩ => ⟨r, e, lP_lift h⟩) (fun _ _ h => h))
theorem s_beginRecount {l : Launch} (hfl : l.stackTraces = false) {M : gMT} {φ σ : gS} {a0 : Nat} {ρ : gSt} (hst : St M φ a0 ρ σ) (hW : RW ρ ∧ RE ρ) : Con l M yX4_beginRecount (.code yX4_beginRecount cX4_beginRecount 2 (Option.some FieldType.int)) 12 0 0 [.ref a0] σ (rI (sQ M φ a0 (lo_beginRecount ρ).2.1 (lo_beginRecount ρ).2.2)) nX := St.lift hst (fun M σ1 A W h1 h2 => by subst h1; exact (c_L_beginRecount l hfl M σ1 A ρ W h2 hW.1).mono (fun v τ ⟨r, e, h⟩ => ⟨r, e, lP_lift h⟩) (fun _ _ h => h))
