/-! ===== the law's wrappers (by wip/whole/gen_wrap.py) ===== -/
theorem thr_type (ρ : gSt) (c : Int32) : (lo_type ρ c).1 = "" ∨ (lo_type ρ c).1 = eA ∨ (lo_type ρ c).1 = eS := by
  unfold lo_type
  repeat' split
  all_goals first | exact Or.inl rfl | exact Or.inl lb2_fst | exact Or.inr (Or.inl rfl) | exact Or.inr (Or.inr rfl)
set_option maxRecDepth 100000 in
set_option maxHeartbeats 4000000 in
theorem c_W_type (l : Launch) (hfl : l.stackTraces = false) (M : gMT) (σ : gS) (A : gAd) (ρ : gSt) (W : gWt) (c : Int32) (o : Nat) (f : Nat → Int64) (hr : Raw M σ A ρ W) (hW : RW ρ) (ho : σ o = some (aL M 1 f)) : Con l M yL_type (.codeWith yL_type cL_type 4 (some .int) hL_type) 13 1 6 [.ref (A 0 0), .int c, .ref o] σ (rI (wP M σ A o (cdf 1 9 2) ρ (lo_type ρ c))) nX := by
  refine g_conW (hh := hL_type) hfl (by decide) (lv := [(0, .ref (A 0 0)), (1, .int c), (2, .ref o)]) rfl rfl (Nat.le_of_ble_eq_true rfl) (fun X hX hC hR htb => ?_)
  have bad : ∀ E σ2, lX σ (lo_type ρ c) E σ2 → GX X M 4 (gQ X M 1 6 (rI (wP M σ A o (cdf 1 9 2) ρ (lo_type ρ c))) nX) (0 + 1) (0 + 6) σ2 4 [(0, .ref (A 0 0)), (1, .int c), (2, .ref o)] E := by
    intro E σ2 h9
    obtain ⟨⟨h8, hne⟩, rfl⟩ := h9
    rcases thr_type ρ c with z | z | z
    · exact absurd (h8.symm.trans z) hne
    · have hz := z
      rw [h8] at z
      subst z
      refine g_catch (name := eA) hC [] _ _ (htb : _ = [] ++ _ :: _) (fun z hz => absurd hz List.not_mem_nil) rfl (by decide) lwk_13 (by simp [gCast]) (fun q => ?_)
      show G X M 4 _ _ _ _ 12 _ _
      refine g_astore_n (q := 13) (i := 3) hC dL_type_12 rfl (by decide) rfl ?_
      refine g_iconst (q := 14) (v := (1)) hC dL_type_13 rfl rfl ?_
      exact g_iret hC hR dL_type_14 (by omega) (by omega) (⟨_, rfl, Or.inr ⟨by rw [hz]; exact eA_n, by rw [hz]; rfl, rfl⟩⟩)
    · have hz := z
      rw [h8] at z
      subst z
      refine g_catch (name := eS) hC [_] _ _ (htb : _ = [_] ++ _ :: _) (fun z hz => ?_) rfl (by decide) lwk_15 (by simp [gCast]) (fun q => ?_)
      · obtain rfl := List.mem_singleton.mp hz
        exact Or.inr ⟨by decide, eA, lwk_13, by simp [gNcs]⟩
      · show G X M 4 _ _ _ _ 15 _ _
        refine g_astore_n (q := 16) (i := 3) hC dL_type_15 rfl (by decide) rfl ?_
        refine g_iconst (q := 17) (v := (2)) hC dL_type_16 rfl rfl ?_
        exact g_iret hC hR dL_type_17 (by omega) (by omega) (⟨_, rfl, Or.inr ⟨by rw [hz]; exact eS_n, by rw [hz]; rfl, rfl⟩⟩)
  refine g_aload_n (q := 1) (i := 2) hC dL_type_0 rfl rfl rfl ?_
  refine g_iconst (q := 2) (v := nI 0) hC dL_type_1 rfl rfl ?_
  refine g_aload_n (q := 3) (i := 0) hC dL_type_2 rfl rfl rfl ?_
  refine g_iload_n (q := 4) (i := 1) hC dL_type_3 rfl rfl rfl ?_
  refine g_ci (q := 7) (g_runV hC kv_L_7 md_X4_type (c_L_type _ hC.fl M _ A ρ W c hr hW) (ci := 4) rfl (hr.led hW) dL_type_4 (by decide) (by decide) (by omega) (by omega) rfl rfl (Nat.le_of_ble_eq_true rfl)) rfl (fun r σ1 ⟨h1, h2, h3, h4⟩ => ?_) (bad)
  refine g_i2l (q := 8) hC dL_type_7 rfl rfl ?_
  refine g_last (q := 9) hC dL_type_8 (h4 _ _ ho trivial) (vp_in_nI (by omega) (by omega)) rfl ?_
  refine g_goto (tgt := 18) hC dL_type_9 (by decide) ?_
  refine g_iconst (q := 19) (v := nI 0) hC dL_type_18 rfl rfl ?_
  exact g_iret hC hR dL_type_19 (by omega) (by omega) (⟨_, rfl, Or.inl ⟨h1, rfl, σ1, _, ⟨h3, h4⟩, rfl, by rw [h2]; exact up0 _ _⟩⟩)
theorem thr_back (ρ : gSt) : (lo_back ρ).1 = "" ∨ (lo_back ρ).1 = eS := by
  unfold lo_back
  repeat' split
  all_goals first | exact Or.inl rfl | exact Or.inl lb2_fst | exact Or.inr rfl
set_option maxRecDepth 100000 in
set_option maxHeartbeats 4000000 in
theorem c_W_back (l : Launch) (hfl : l.stackTraces = false) (M : gMT) (σ : gS) (A : gAd) (ρ : gSt) (W : gWt) (o : Nat) (f : Nat → Int64) (hr : Raw M σ A ρ W) (hW : RW ρ) (ho : σ o = some (aL M 1 f)) : Con l M yL_back (.codeWith yL_back cL_back 3 (some .int) hL_back) 13 1 6 [.ref (A 0 0), .ref o] σ (rI (wP M σ A o (cdf 9 9 1) ρ (lo_back ρ))) nX := by
  refine g_conW (hh := hL_back) hfl (by decide) (lv := [(0, .ref (A 0 0)), (1, .ref o)]) rfl rfl (Nat.le_of_ble_eq_true rfl) (fun X hX hC hR htb => ?_)
  have bad : ∀ E σ2, lX σ (lo_back ρ) E σ2 → GX X M 3 (gQ X M 1 6 (rI (wP M σ A o (cdf 9 9 1) ρ (lo_back ρ))) nX) (0 + 1) (0 + 6) σ2 3 [(0, .ref (A 0 0)), (1, .ref o)] E := by
    intro E σ2 h9
    obtain ⟨⟨h8, hne⟩, rfl⟩ := h9
    rcases thr_back ρ with z | z
    · exact absurd (h8.symm.trans z) hne
    · have hz := z
      rw [h8] at z
      subst z
      refine g_catch (name := eS) hC [] _ _ (htb : _ = [] ++ _ :: _) (fun z hz => absurd hz List.not_mem_nil) rfl (by decide) lwk_15 (by simp [gCast]) (fun q => ?_)
      show G X M 3 _ _ _ _ 11 _ _
      refine g_astore_n (q := 12) (i := 2) hC dL_back_11 rfl (by decide) rfl ?_
      refine g_iconst (q := 13) (v := (1)) hC dL_back_12 rfl rfl ?_
      exact g_iret hC hR dL_back_13 (by omega) (by omega) (⟨_, rfl, Or.inr ⟨by rw [hz]; exact eS_n, by rw [hz]; rfl, rfl⟩⟩)
  refine g_aload_n (q := 1) (i := 1) hC dL_back_0 rfl rfl rfl ?_
  refine g_iconst (q := 2) (v := nI 0) hC dL_back_1 rfl rfl ?_
  refine g_aload_n (q := 3) (i := 0) hC dL_back_2 rfl rfl rfl ?_
  refine g_ci (q := 6) (g_runV hC kv_L_17 md_X4_back (c_L_back _ hC.fl M _ A ρ W hr hW) (ci := 4) rfl (hr.led hW) dL_back_3 (by decide) (by decide) (by omega) (by omega) rfl rfl (Nat.le_of_ble_eq_true rfl)) rfl (fun r σ1 ⟨h1, h2, h3, h4⟩ => ?_) (bad)
  refine g_i2l (q := 7) hC dL_back_6 rfl rfl ?_
  refine g_last (q := 8) hC dL_back_7 (h4 _ _ ho trivial) (vp_in_nI (by omega) (by omega)) rfl ?_
  refine g_goto (tgt := 14) hC dL_back_8 (by decide) ?_
  refine g_iconst (q := 15) (v := nI 0) hC dL_back_14 rfl rfl ?_
  exact g_iret hC hR dL_back_15 (by omega) (by omega) (⟨_, rfl, Or.inl ⟨h1, rfl, σ1, _, ⟨h3, h4⟩, rfl, by rw [h2]; exact up0 _ _⟩⟩)
theorem thr_makeProject (ρ : gSt) : (lo_makeProject ρ).1 = "" ∨ (lo_makeProject ρ).1 = eS := by
  unfold lo_makeProject
  repeat' split
  all_goals first | exact Or.inl rfl | exact Or.inl lb2_fst | exact Or.inr rfl
set_option maxRecDepth 100000 in
set_option maxHeartbeats 4000000 in
theorem c_W_makeProject (l : Launch) (hfl : l.stackTraces = false) (M : gMT) (σ : gS) (A : gAd) (ρ : gSt) (W : gWt) (o : Nat) (f : Nat → Int64) (hr : Raw M σ A ρ W) (hW : RW ρ) (hE : RE ρ) (ho : σ o = some (aL M 1 f)) : Con l M yL_makeProject (.codeWith yL_makeProject cL_makeProject 3 (some .int) hL_makeProject) 13 40 1000 [.ref (A 0 0), .ref o] σ (rI (wP M σ A o (cdf 9 9 1) ρ (lo_makeProject ρ))) nX := by
  refine g_conW (hh := hL_makeProject) hfl (by decide) (lv := [(0, .ref (A 0 0)), (1, .ref o)]) rfl rfl (Nat.le_of_ble_eq_true rfl) (fun X hX hC hR htb => ?_)
  have bad : ∀ E σ2, lX σ (lo_makeProject ρ) E σ2 → GX X M 3 (gQ X M 40 1000 (rI (wP M σ A o (cdf 9 9 1) ρ (lo_makeProject ρ))) nX) (0 + 40) (0 + 1000) σ2 3 [(0, .ref (A 0 0)), (1, .ref o)] E := by
    intro E σ2 h9
    obtain ⟨⟨h8, hne⟩, rfl⟩ := h9
    rcases thr_makeProject ρ with z | z
    · exact absurd (h8.symm.trans z) hne
    · have hz := z
      rw [h8] at z
      subst z
      refine g_catch (name := eS) hC [] _ _ (htb : _ = [] ++ _ :: _) (fun z hz => absurd hz List.not_mem_nil) rfl (by decide) lwk_15 (by simp [gCast]) (fun q => ?_)
      show G X M 3 _ _ _ _ 11 _ _
      refine g_astore_n (q := 12) (i := 2) hC dL_makeProject_11 rfl (by decide) rfl ?_
      refine g_iconst (q := 13) (v := (1)) hC dL_makeProject_12 rfl rfl ?_
      exact g_iret hC hR dL_makeProject_13 (by omega) (by omega) (⟨_, rfl, Or.inr ⟨by rw [hz]; exact eS_n, by rw [hz]; rfl, rfl⟩⟩)
  refine g_aload_n (q := 1) (i := 1) hC dL_makeProject_0 rfl rfl rfl ?_
  refine g_iconst (q := 2) (v := nI 0) hC dL_makeProject_1 rfl rfl ?_
  refine g_aload_n (q := 3) (i := 0) hC dL_makeProject_2 rfl rfl rfl ?_
  refine g_ci (q := 6) (g_runV hC kv_L_21 md_X4_makeProject (c_L_makeProject _ hC.fl M _ A ρ W hr hW hE) (ci := 4) rfl (hr.led hW) dL_makeProject_3 (by decide) (by decide) (by omega) (by omega) rfl rfl (Nat.le_of_ble_eq_true rfl)) rfl (fun r σ1 ⟨h1, h2, h3, h4⟩ => ?_) (bad)
  refine g_i2l (q := 7) hC dL_makeProject_6 rfl rfl ?_
  refine g_last (q := 8) hC dL_makeProject_7 (h4 _ _ ho trivial) (vp_in_nI (by omega) (by omega)) rfl ?_
  refine g_goto (tgt := 14) hC dL_makeProject_8 (by decide) ?_
  refine g_iconst (q := 15) (v := nI 0) hC dL_makeProject_14 rfl rfl ?_
  exact g_iret hC hR dL_makeProject_15 (by omega) (by omega) (⟨_, rfl, Or.inl ⟨h1, rfl, σ1, _, ⟨h3, h4⟩, rfl, by rw [h2]; exact up0 _ _⟩⟩)
theorem thr_moveProject (ρ : gSt) (x : Int32) : (lo_moveProject ρ x).1 = "" ∨ (lo_moveProject ρ x).1 = eI ∨ (lo_moveProject ρ x).1 = eS := by
  unfold lo_moveProject
  repeat' split
  all_goals first | exact Or.inl rfl | exact Or.inl lb2_fst | exact Or.inr (Or.inl rfl) | exact Or.inr (Or.inr rfl)
set_option maxRecDepth 100000 in
set_option maxHeartbeats 4000000 in
theorem c_W_moveProject (l : Launch) (hfl : l.stackTraces = false) (M : gMT) (σ : gS) (A : gAd) (ρ : gSt) (W : gWt) (x : Int32) (o : Nat) (f : Nat → Int64) (hr : Raw M σ A ρ W) (hW : RW ρ) (hE : RE ρ) (ho : σ o = some (aL M 1 f)) : Con l M yL_moveProject (.codeWith yL_moveProject cL_moveProject 4 (some .int) hL_moveProject) 13 890 13300 [.ref (A 0 0), .int x, .ref o] σ (rI (wP M σ A o (cdf 9 1 2) ρ (lo_moveProject ρ x))) nX := by
  refine g_conW (hh := hL_moveProject) hfl (by decide) (lv := [(0, .ref (A 0 0)), (1, .int x), (2, .ref o)]) rfl rfl (Nat.le_of_ble_eq_true rfl) (fun X hX hC hR htb => ?_)
  have bad : ∀ E σ2, lX σ (lo_moveProject ρ x) E σ2 → GX X M 4 (gQ X M 890 13300 (rI (wP M σ A o (cdf 9 1 2) ρ (lo_moveProject ρ x))) nX) (0 + 890) (0 + 13300) σ2 4 [(0, .ref (A 0 0)), (1, .int x), (2, .ref o)] E := by
    intro E σ2 h9
    obtain ⟨⟨h8, hne⟩, rfl⟩ := h9
    rcases thr_moveProject ρ x with z | z | z
    · exact absurd (h8.symm.trans z) hne
    · have hz := z
      rw [h8] at z
      subst z
      refine g_catch (name := eI) hC [] _ _ (htb : _ = [] ++ _ :: _) (fun z hz => absurd hz List.not_mem_nil) rfl (by decide) lwk_28 (by simp [gCast]) (fun q => ?_)
      show G X M 4 _ _ _ _ 12 _ _
      refine g_astore_n (q := 13) (i := 3) hC dL_moveProject_12 rfl (by decide) rfl ?_
      refine g_iconst (q := 14) (v := (1)) hC dL_moveProject_13 rfl rfl ?_
      exact g_iret hC hR dL_moveProject_14 (by omega) (by omega) (⟨_, rfl, Or.inr ⟨by rw [hz]; exact eI_n, by rw [hz]; rfl, rfl⟩⟩)
    · have hz := z
      rw [h8] at z
      subst z
      refine g_catch (name := eS) hC [_] _ _ (htb : _ = [_] ++ _ :: _) (fun z hz => ?_) rfl (by decide) lwk_15 (by simp [gCast]) (fun q => ?_)
      · obtain rfl := List.mem_singleton.mp hz
        exact Or.inr ⟨by decide, eI, lwk_28, by simp [gNcs]⟩
      · show G X M 4 _ _ _ _ 15 _ _
        refine g_astore_n (q := 16) (i := 3) hC dL_moveProject_15 rfl (by decide) rfl ?_
        refine g_iconst (q := 17) (v := (2)) hC dL_moveProject_16 rfl rfl ?_
        exact g_iret hC hR dL_moveProject_17 (by omega) (by omega) (⟨_, rfl, Or.inr ⟨by rw [hz]; exact eS_n, by rw [hz]; rfl, rfl⟩⟩)
  refine g_aload_n (q := 1) (i := 2) hC dL_moveProject_0 rfl rfl rfl ?_
  refine g_iconst (q := 2) (v := nI 0) hC dL_moveProject_1 rfl rfl ?_
  refine g_aload_n (q := 3) (i := 0) hC dL_moveProject_2 rfl rfl rfl ?_
  refine g_iload_n (q := 4) (i := 1) hC dL_moveProject_3 rfl rfl rfl ?_
  refine g_ci (q := 7) (g_runV hC kv_L_24 md_X4_moveProject (c_L_moveProject _ hC.fl M _ A ρ W x hr hW hE) (ci := 4) rfl (hr.led hW) dL_moveProject_4 (by decide) (by decide) (by omega) (by omega) rfl rfl (Nat.le_of_ble_eq_true rfl)) rfl (fun r σ1 ⟨h1, h2, h3, h4⟩ => ?_) (bad)
  refine g_i2l (q := 8) hC dL_moveProject_7 rfl rfl ?_
  refine g_last (q := 9) hC dL_moveProject_8 (h4 _ _ ho trivial) (vp_in_nI (by omega) (by omega)) rfl ?_
  refine g_goto (tgt := 18) hC dL_moveProject_9 (by decide) ?_
  refine g_iconst (q := 19) (v := nI 0) hC dL_moveProject_18 rfl rfl ?_
  exact g_iret hC hR dL_moveProject_19 (by omega) (by omega) (⟨_, rfl, Or.inl ⟨h1, rfl, σ1, _, ⟨h3, h4⟩, rfl, by rw [h2]; exact up0 _ _⟩⟩)
theorem thr_letterAt (ρ : gSt) (x : Int32) (y : Int32) : (lo_letterAt ρ x y).1 = "" ∨ (lo_letterAt ρ x y).1 = eI := by
  unfold lo_letterAt
  repeat' split
  all_goals first | exact Or.inl rfl | exact Or.inl lb2_fst | exact Or.inr rfl
set_option maxRecDepth 100000 in
set_option maxHeartbeats 4000000 in
theorem c_W_letterAt (l : Launch) (hfl : l.stackTraces = false) (M : gMT) (σ : gS) (A : gAd) (ρ : gSt) (W : gWt) (x : Int32) (y : Int32) (o : Nat) (f : Nat → Int64) (hr : Raw M σ A ρ W) (hW : RW ρ) (ho : σ o = some (aL M 1 f)) : Con l M yL_letterAt (.codeWith yL_letterAt cL_letterAt 5 (some .int) hL_letterAt) 13 2 12 [.ref (A 0 0), .int x, .int y, .ref o] σ (rI (wP M σ A o (cdf 9 1 9) ρ (lo_letterAt ρ x y))) nX := by
  refine g_conW (hh := hL_letterAt) hfl (by decide) (lv := [(0, .ref (A 0 0)), (1, .int x), (2, .int y), (3, .ref o)]) rfl rfl (Nat.le_of_ble_eq_true rfl) (fun X hX hC hR htb => ?_)
  have bad : ∀ E σ2, lX σ (lo_letterAt ρ x y) E σ2 → GX X M 5 (gQ X M 2 12 (rI (wP M σ A o (cdf 9 1 9) ρ (lo_letterAt ρ x y))) nX) (0 + 2) (0 + 12) σ2 5 [(0, .ref (A 0 0)), (1, .int x), (2, .int y), (3, .ref o)] E := by
    intro E σ2 h9
    obtain ⟨⟨h8, hne⟩, rfl⟩ := h9
    rcases thr_letterAt ρ x y with z | z
    · exact absurd (h8.symm.trans z) hne
    · have hz := z
      rw [h8] at z
      subst z
      refine g_catch (name := eI) hC [] _ _ (htb : _ = [] ++ _ :: _) (fun z hz => absurd hz List.not_mem_nil) rfl (by decide) lwk_28 (by simp [gCast]) (fun q => ?_)
      show G X M 5 _ _ _ _ 13 _ _
      refine g_astore (q := 15) (i := 4) hC dL_letterAt_13 (by decide) rfl ?_
      refine g_iconst (q := 16) (v := (1)) hC dL_letterAt_15 rfl rfl ?_
      exact g_iret hC hR dL_letterAt_16 (by omega) (by omega) (⟨_, rfl, Or.inr ⟨by rw [hz]; exact eI_n, by rw [hz]; rfl, rfl⟩⟩)
  refine g_aload_n (q := 1) (i := 3) hC dL_letterAt_0 rfl rfl rfl ?_
  refine g_iconst (q := 2) (v := nI 0) hC dL_letterAt_1 rfl rfl ?_
  refine g_aload_n (q := 3) (i := 0) hC dL_letterAt_2 rfl rfl rfl ?_
  refine g_iload_n (q := 4) (i := 1) hC dL_letterAt_3 rfl rfl rfl ?_
  refine g_iload_n (q := 5) (i := 2) hC dL_letterAt_4 rfl rfl rfl ?_
  refine g_ci (q := 8) (g_runV hC kv_L_30 md_X4_letterAt (c_L_letterAt _ hC.fl M _ A ρ W x y hr hW) (ci := 4) rfl (hr.led hW) dL_letterAt_5 (by decide) (by decide) (by omega) (by omega) rfl rfl (Nat.le_of_ble_eq_true rfl)) rfl (fun r σ1 ⟨h1, h2, h3, h4⟩ => ?_) (bad)
  refine g_i2l (q := 9) hC dL_letterAt_8 rfl rfl ?_
  refine g_last (q := 10) hC dL_letterAt_9 (h4 _ _ ho trivial) (vp_in_nI (by omega) (by omega)) rfl ?_
  refine g_goto (tgt := 17) hC dL_letterAt_10 (by decide) ?_
  refine g_iconst (q := 18) (v := nI 0) hC dL_letterAt_17 rfl rfl ?_
  exact g_iret hC hR dL_letterAt_18 (by omega) (by omega) (⟨_, rfl, Or.inl ⟨h1, rfl, σ1, _, ⟨h3, h4⟩, rfl, by rw [h2]; exact up0 _ _⟩⟩)
theorem thr_makeFile (ρ : gSt) (x : Int32) (y : Int32) : (lo_makeFile ρ x y).1 = "" ∨ (lo_makeFile ρ x y).1 = eI ∨ (lo_makeFile ρ x y).1 = eS := by
  unfold lo_makeFile
  repeat' split
  all_goals first | exact Or.inl rfl | exact Or.inl lb2_fst | exact Or.inr (Or.inl rfl) | exact Or.inr (Or.inr rfl)
set_option maxRecDepth 100000 in
set_option maxHeartbeats 4000000 in
theorem c_W_makeFile (l : Launch) (hfl : l.stackTraces = false) (M : gMT) (σ : gS) (A : gAd) (ρ : gSt) (W : gWt) (x : Int32) (y : Int32) (o : Nat) (f : Nat → Int64) (hr : Raw M σ A ρ W) (hW : RW ρ) (hE : RE ρ) (ho : σ o = some (aL M 1 f)) : Con l M yL_makeFile (.codeWith yL_makeFile cL_makeFile 5 (some .int) hL_makeFile) 13 40 1000 [.ref (A 0 0), .int x, .int y, .ref o] σ (rI (wP M σ A o (cdf 9 1 2) ρ (lo_makeFile ρ x y))) nX := by
  refine g_conW (hh := hL_makeFile) hfl (by decide) (lv := [(0, .ref (A 0 0)), (1, .int x), (2, .int y), (3, .ref o)]) rfl rfl (Nat.le_of_ble_eq_true rfl) (fun X hX hC hR htb => ?_)
  have bad : ∀ E σ2, lX σ (lo_makeFile ρ x y) E σ2 → GX X M 5 (gQ X M 40 1000 (rI (wP M σ A o (cdf 9 1 2) ρ (lo_makeFile ρ x y))) nX) (0 + 40) (0 + 1000) σ2 5 [(0, .ref (A 0 0)), (1, .int x), (2, .int y), (3, .ref o)] E := by
    intro E σ2 h9
    obtain ⟨⟨h8, hne⟩, rfl⟩ := h9
    rcases thr_makeFile ρ x y with z | z | z
    · exact absurd (h8.symm.trans z) hne
    · have hz := z
      rw [h8] at z
      subst z
      refine g_catch (name := eI) hC [] _ _ (htb : _ = [] ++ _ :: _) (fun z hz => absurd hz List.not_mem_nil) rfl (by decide) lwk_28 (by simp [gCast]) (fun q => ?_)
      show G X M 5 _ _ _ _ 13 _ _
      refine g_astore (q := 15) (i := 4) hC dL_makeFile_13 (by decide) rfl ?_
      refine g_iconst (q := 16) (v := (1)) hC dL_makeFile_15 rfl rfl ?_
      exact g_iret hC hR dL_makeFile_16 (by omega) (by omega) (⟨_, rfl, Or.inr ⟨by rw [hz]; exact eI_n, by rw [hz]; rfl, rfl⟩⟩)
    · have hz := z
      rw [h8] at z
      subst z
      refine g_catch (name := eS) hC [_] _ _ (htb : _ = [_] ++ _ :: _) (fun z hz => ?_) rfl (by decide) lwk_15 (by simp [gCast]) (fun q => ?_)
      · obtain rfl := List.mem_singleton.mp hz
        exact Or.inr ⟨by decide, eI, lwk_28, by simp [gNcs]⟩
      · show G X M 5 _ _ _ _ 17 _ _
        refine g_astore (q := 19) (i := 4) hC dL_makeFile_17 (by decide) rfl ?_
        refine g_iconst (q := 20) (v := (2)) hC dL_makeFile_19 rfl rfl ?_
        exact g_iret hC hR dL_makeFile_20 (by omega) (by omega) (⟨_, rfl, Or.inr ⟨by rw [hz]; exact eS_n, by rw [hz]; rfl, rfl⟩⟩)
  refine g_aload_n (q := 1) (i := 3) hC dL_makeFile_0 rfl rfl rfl ?_
  refine g_iconst (q := 2) (v := nI 0) hC dL_makeFile_1 rfl rfl ?_
  refine g_aload_n (q := 3) (i := 0) hC dL_makeFile_2 rfl rfl rfl ?_
  refine g_iload_n (q := 4) (i := 1) hC dL_makeFile_3 rfl rfl rfl ?_
  refine g_iload_n (q := 5) (i := 2) hC dL_makeFile_4 rfl rfl rfl ?_
  refine g_ci (q := 8) (g_runV hC kv_L_34 md_X4_makeFile (c_L_makeFile _ hC.fl M _ A ρ W x y hr hW hE) (ci := 4) rfl (hr.led hW) dL_makeFile_5 (by decide) (by decide) (by omega) (by omega) rfl rfl (Nat.le_of_ble_eq_true rfl)) rfl (fun r σ1 ⟨h1, h2, h3, h4⟩ => ?_) (bad)
  refine g_i2l (q := 9) hC dL_makeFile_8 rfl rfl ?_
  refine g_last (q := 10) hC dL_makeFile_9 (h4 _ _ ho trivial) (vp_in_nI (by omega) (by omega)) rfl ?_
  refine g_goto (tgt := 21) hC dL_makeFile_10 (by decide) ?_
  refine g_iconst (q := 22) (v := nI 0) hC dL_makeFile_21 rfl rfl ?_
  exact g_iret hC hR dL_makeFile_22 (by omega) (by omega) (⟨_, rfl, Or.inl ⟨h1, rfl, σ1, _, ⟨h3, h4⟩, rfl, by rw [h2]; exact up0 _ _⟩⟩)
theorem thr_write (ρ : gSt) (x : Int32) (y : Int32) : (lo_write ρ x y).1 = "" ∨ (lo_write ρ x y).1 = eI ∨ (lo_write ρ x y).1 = eA := by
  unfold lo_write
  repeat' split
  all_goals first | exact Or.inl rfl | exact Or.inl lb2_fst | exact Or.inr (Or.inl rfl) | exact Or.inr (Or.inr rfl)
set_option maxRecDepth 100000 in
set_option maxHeartbeats 4000000 in
theorem c_W_write (l : Launch) (hfl : l.stackTraces = false) (M : gMT) (σ : gS) (A : gAd) (ρ : gSt) (W : gWt) (x : Int32) (y : Int32) (o : Nat) (f : Nat → Int64) (hr : Raw M σ A ρ W) (hW : RW ρ) (ho : σ o = some (aL M 1 f)) : Con l M yL_write (.codeWith yL_write cL_write 5 (some .int) hL_write) 13 23 336 [.ref (A 0 0), .int x, .int y, .ref o] σ (rI (wP M σ A o (cdf 2 1 9) ρ (lo_write ρ x y))) nX := by
  refine g_conW (hh := hL_write) hfl (by decide) (lv := [(0, .ref (A 0 0)), (1, .int x), (2, .int y), (3, .ref o)]) rfl rfl (Nat.le_of_ble_eq_true rfl) (fun X hX hC hR htb => ?_)
  have bad : ∀ E σ2, lX σ (lo_write ρ x y) E σ2 → GX X M 5 (gQ X M 23 336 (rI (wP M σ A o (cdf 2 1 9) ρ (lo_write ρ x y))) nX) (0 + 23) (0 + 336) σ2 5 [(0, .ref (A 0 0)), (1, .int x), (2, .int y), (3, .ref o)] E := by
    intro E σ2 h9
    obtain ⟨⟨h8, hne⟩, rfl⟩ := h9
    rcases thr_write ρ x y with z | z | z
    · exact absurd (h8.symm.trans z) hne
    · have hz := z
      rw [h8] at z
      subst z
      refine g_catch (name := eI) hC [] _ _ (htb : _ = [] ++ _ :: _) (fun z hz => absurd hz List.not_mem_nil) rfl (by decide) lwk_28 (by simp [gCast]) (fun q => ?_)
      show G X M 5 _ _ _ _ 13 _ _
      refine g_astore (q := 15) (i := 4) hC dL_write_13 (by decide) rfl ?_
      refine g_iconst (q := 16) (v := (1)) hC dL_write_15 rfl rfl ?_
      exact g_iret hC hR dL_write_16 (by omega) (by omega) (⟨_, rfl, Or.inr ⟨by rw [hz]; exact eI_n, by rw [hz]; rfl, rfl⟩⟩)
    · have hz := z
      rw [h8] at z
      subst z
      refine g_catch (name := eA) hC [_] _ _ (htb : _ = [_] ++ _ :: _) (fun z hz => ?_) rfl (by decide) lwk_13 (by simp [gCast]) (fun q => ?_)
      · obtain rfl := List.mem_singleton.mp hz
        exact Or.inr ⟨by decide, eI, lwk_28, by simp [gNcs]⟩
      · show G X M 5 _ _ _ _ 17 _ _
        refine g_astore (q := 19) (i := 4) hC dL_write_17 (by decide) rfl ?_
        refine g_iconst (q := 20) (v := (2)) hC dL_write_19 rfl rfl ?_
        exact g_iret hC hR dL_write_20 (by omega) (by omega) (⟨_, rfl, Or.inr ⟨by rw [hz]; exact eA_n, by rw [hz]; rfl, rfl⟩⟩)
  refine g_aload_n (q := 1) (i := 3) hC dL_write_0 rfl rfl rfl ?_
  refine g_iconst (q := 2) (v := nI 0) hC dL_write_1 rfl rfl ?_
  refine g_aload_n (q := 3) (i := 0) hC dL_write_2 rfl rfl rfl ?_
  refine g_iload_n (q := 4) (i := 1) hC dL_write_3 rfl rfl rfl ?_
  refine g_iload_n (q := 5) (i := 2) hC dL_write_4 rfl rfl rfl ?_
  refine g_ci (q := 8) (g_runV hC kv_L_38 md_X4_write (c_L_write _ hC.fl M _ A ρ W x y hr hW) (ci := 4) rfl (hr.led hW) dL_write_5 (by decide) (by decide) (by omega) (by omega) rfl rfl (Nat.le_of_ble_eq_true rfl)) rfl (fun r σ1 ⟨h1, h2, h3, h4⟩ => ?_) (bad)
  refine g_i2l (q := 9) hC dL_write_8 rfl rfl ?_
  refine g_last (q := 10) hC dL_write_9 (h4 _ _ ho trivial) (vp_in_nI (by omega) (by omega)) rfl ?_
  refine g_goto (tgt := 21) hC dL_write_10 (by decide) ?_
  refine g_iconst (q := 22) (v := nI 0) hC dL_write_21 rfl rfl ?_
  exact g_iret hC hR dL_write_22 (by omega) (by omega) (⟨_, rfl, Or.inl ⟨h1, rfl, σ1, _, ⟨h3, h4⟩, rfl, by rw [h2]; exact up0 _ _⟩⟩)
theorem thr_delete (ρ : gSt) (x : Int32) : (lo_delete ρ x).1 = "" ∨ (lo_delete ρ x).1 = eI := by
  unfold lo_delete
  repeat' split
  all_goals first | exact Or.inl rfl | exact Or.inl lb2_fst | exact Or.inr rfl
set_option maxRecDepth 100000 in
set_option maxHeartbeats 4000000 in
theorem c_W_delete (l : Launch) (hfl : l.stackTraces = false) (M : gMT) (σ : gS) (A : gAd) (ρ : gSt) (W : gWt) (x : Int32) (o : Nat) (f : Nat → Int64) (hr : Raw M σ A ρ W) (hW : RW ρ) (ho : σ o = some (aL M 1 f)) : Con l M yL_delete (.codeWith yL_delete cL_delete 4 (some .int) hL_delete) 13 12 171 [.ref (A 0 0), .int x, .ref o] σ (rI (wP M σ A o (cdf 9 1 9) ρ (lo_delete ρ x))) nX := by
  refine g_conW (hh := hL_delete) hfl (by decide) (lv := [(0, .ref (A 0 0)), (1, .int x), (2, .ref o)]) rfl rfl (Nat.le_of_ble_eq_true rfl) (fun X hX hC hR htb => ?_)
  have bad : ∀ E σ2, lX σ (lo_delete ρ x) E σ2 → GX X M 4 (gQ X M 12 171 (rI (wP M σ A o (cdf 9 1 9) ρ (lo_delete ρ x))) nX) (0 + 12) (0 + 171) σ2 4 [(0, .ref (A 0 0)), (1, .int x), (2, .ref o)] E := by
    intro E σ2 h9
    obtain ⟨⟨h8, hne⟩, rfl⟩ := h9
    rcases thr_delete ρ x with z | z
    · exact absurd (h8.symm.trans z) hne
    · have hz := z
      rw [h8] at z
      subst z
      refine g_catch (name := eI) hC [] _ _ (htb : _ = [] ++ _ :: _) (fun z hz => absurd hz List.not_mem_nil) rfl (by decide) lwk_28 (by simp [gCast]) (fun q => ?_)
      show G X M 4 _ _ _ _ 12 _ _
      refine g_astore_n (q := 13) (i := 3) hC dL_delete_12 rfl (by decide) rfl ?_
      refine g_iconst (q := 14) (v := (1)) hC dL_delete_13 rfl rfl ?_
      exact g_iret hC hR dL_delete_14 (by omega) (by omega) (⟨_, rfl, Or.inr ⟨by rw [hz]; exact eI_n, by rw [hz]; rfl, rfl⟩⟩)
  refine g_aload_n (q := 1) (i := 2) hC dL_delete_0 rfl rfl rfl ?_
  refine g_iconst (q := 2) (v := nI 0) hC dL_delete_1 rfl rfl ?_
  refine g_aload_n (q := 3) (i := 0) hC dL_delete_2 rfl rfl rfl ?_
  refine g_iload_n (q := 4) (i := 1) hC dL_delete_3 rfl rfl rfl ?_
  refine g_ci (q := 7) (g_runV hC kv_L_41 md_X4_delete (c_L_delete _ hC.fl M _ A ρ W x hr hW) (ci := 4) rfl (hr.led hW) dL_delete_4 (by decide) (by decide) (by omega) (by omega) rfl rfl (Nat.le_of_ble_eq_true rfl)) rfl (fun r σ1 ⟨h1, h2, h3, h4⟩ => ?_) (bad)
  refine g_i2l (q := 8) hC dL_delete_7 rfl rfl ?_
  refine g_last (q := 9) hC dL_delete_8 (h4 _ _ ho trivial) (vp_in_nI (by omega) (by omega)) rfl ?_
  refine g_goto (tgt := 15) hC dL_delete_9 (by decide) ?_
  refine g_iconst (q := 16) (v := nI 0) hC dL_delete_15 rfl rfl ?_
  exact g_iret hC hR dL_delete_16 (by omega) (by omega) (⟨_, rfl, Or.inl ⟨h1, rfl, σ1, _, ⟨h3, h4⟩, rfl, by rw [h2]; exact up0 _ _⟩⟩)
theorem thr_moveFile (ρ : gSt) (x : Int32) (y : Int32) : (lo_moveFile ρ x y).1 = "" ∨ (lo_moveFile ρ x y).1 = eI := by
  unfold lo_moveFile
  repeat' split
  all_goals first | exact Or.inl rfl | exact Or.inl lb2_fst | exact Or.inr rfl
set_option maxRecDepth 100000 in
set_option maxHeartbeats 4000000 in
theorem c_W_moveFile (l : Launch) (hfl : l.stackTraces = false) (M : gMT) (σ : gS) (A : gAd) (ρ : gSt) (W : gWt) (x : Int32) (y : Int32) (o : Nat) (f : Nat → Int64) (hr : Raw M σ A ρ W) (hW : RW ρ) (ho : σ o = some (aL M 1 f)) : Con l M yL_moveFile (.codeWith yL_moveFile cL_moveFile 5 (some .int) hL_moveFile) 13 24 342 [.ref (A 0 0), .int x, .int y, .ref o] σ (rI (wP M σ A o (cdf 9 1 9) ρ (lo_moveFile ρ x y))) nX := by
  refine g_conW (hh := hL_moveFile) hfl (by decide) (lv := [(0, .ref (A 0 0)), (1, .int x), (2, .int y), (3, .ref o)]) rfl rfl (Nat.le_of_ble_eq_true rfl) (fun X hX hC hR htb => ?_)
  have bad : ∀ E σ2, lX σ (lo_moveFile ρ x y) E σ2 → GX X M 5 (gQ X M 24 342 (rI (wP M σ A o (cdf 9 1 9) ρ (lo_moveFile ρ x y))) nX) (0 + 24) (0 + 342) σ2 5 [(0, .ref (A 0 0)), (1, .int x), (2, .int y), (3, .ref o)] E := by
    intro E σ2 h9
    obtain ⟨⟨h8, hne⟩, rfl⟩ := h9
    rcases thr_moveFile ρ x y with z | z
    · exact absurd (h8.symm.trans z) hne
    · have hz := z
      rw [h8] at z
      subst z
      refine g_catch (name := eI) hC [] _ _ (htb : _ = [] ++ _ :: _) (fun z hz => absurd hz List.not_mem_nil) rfl (by decide) lwk_28 (by simp [gCast]) (fun q => ?_)
      show G X M 5 _ _ _ _ 13 _ _
      refine g_astore (q := 15) (i := 4) hC dL_moveFile_13 (by decide) rfl ?_
      refine g_iconst (q := 16) (v := (1)) hC dL_moveFile_15 rfl rfl ?_
      exact g_iret hC hR dL_moveFile_16 (by omega) (by omega) (⟨_, rfl, Or.inr ⟨by rw [hz]; exact eI_n, by rw [hz]; rfl, rfl⟩⟩)
  refine g_aload_n (q := 1) (i := 3) hC dL_moveFile_0 rfl rfl rfl ?_
  refine g_iconst (q := 2) (v := nI 0) hC dL_moveFile_1 rfl rfl ?_
  refine g_aload_n (q := 3) (i := 0) hC dL_moveFile_2 rfl rfl rfl ?_
  refine g_iload_n (q := 4) (i := 1) hC dL_moveFile_3 rfl rfl rfl ?_
  refine g_iload_n (q := 5) (i := 2) hC dL_moveFile_4 rfl rfl rfl ?_
  refine g_ci (q := 8) (g_runV hC kv_L_44 md_X4_moveFile (c_L_moveFile _ hC.fl M _ A ρ W x y hr hW) (ci := 4) rfl (hr.led hW) dL_moveFile_5 (by decide) (by decide) (by omega) (by omega) rfl rfl (Nat.le_of_ble_eq_true rfl)) rfl (fun r σ1 ⟨h1, h2, h3, h4⟩ => ?_) (bad)
  refine g_i2l (q := 9) hC dL_moveFile_8 rfl rfl ?_
  refine g_last (q := 10) hC dL_moveFile_9 (h4 _ _ ho trivial) (vp_in_nI (by omega) (by omega)) rfl ?_
  refine g_goto (tgt := 17) hC dL_moveFile_10 (by decide) ?_
  refine g_iconst (q := 18) (v := nI 0) hC dL_moveFile_17 rfl rfl ?_
  exact g_iret hC hR dL_moveFile_18 (by omega) (by omega) (⟨_, rfl, Or.inl ⟨h1, rfl, σ1, _, ⟨h3, h4⟩, rfl, by rw [h2]; exact up0 _ _⟩⟩)
theorem thr_reserve (ρ : gSt) (x : Int32) (y : Int32) : (lo_reserve ρ x y).1 = "" ∨ (lo_reserve ρ x y).1 = eI ∨ (lo_reserve ρ x y).1 = eA ∨ (lo_reserve ρ x y).1 = eS := by
  unfold lo_reserve
  repeat' split
  all_goals first | exact Or.inl rfl | exact Or.inl lb2_fst | exact Or.inr (Or.inl rfl) | exact Or.inr (Or.inr (Or.inl rfl)) | exact Or.inr (Or.inr (Or.inr rfl))
set_option maxRecDepth 100000 in
set_option maxHeartbeats 4000000 in
theorem c_W_reserve (l : Launch) (hfl : l.stackTraces = false) (M : gMT) (σ : gS) (A : gAd) (ρ : gSt) (W : gWt) (x : Int32) (y : Int32) (o : Nat) (f : Nat → Int64) (hr : Raw M σ A ρ W) (hW : RW ρ) (hE : RE ρ) (ho : σ o = some (aL M 1 f)) : Con l M yL_reserve (.codeWith yL_reserve cL_reserve 5 (some .int) hL_reserve) 13 40 1000 [.ref (A 0 0), .int x, .int y, .ref o] σ (rI (wP M σ A o (cdf 2 1 3) ρ (lo_reserve ρ x y))) nX := by
  refine g_conW (hh := hL_reserve) hfl (by decide) (lv := [(0, .ref (A 0 0)), (1, .int x), (2, .int y), (3, .ref o)]) rfl rfl (Nat.le_of_ble_eq_true rfl) (fun X hX hC hR htb => ?_)
  have bad : ∀ E σ2, lX σ (lo_reserve ρ x y) E σ2 → GX X M 5 (gQ X M 40 1000 (rI (wP M σ A o (cdf 2 1 3) ρ (lo_reserve ρ x y))) nX) (0 + 40) (0 + 1000) σ2 5 [(0, .ref (A 0 0)), (1, .int x), (2, .int y), (3, .ref o)] E := by
    intro E σ2 h9
    obtain ⟨⟨h8, hne⟩, rfl⟩ := h9
    rcases thr_reserve ρ x y with z | z | z | z
    · exact absurd (h8.symm.trans z) hne
    · have hz := z
      rw [h8] at z
      subst z
      refine g_catch (name := eI) hC [] _ _ (htb : _ = [] ++ _ :: _) (fun z hz => absurd hz List.not_mem_nil) rfl (by decide) lwk_28 (by simp [gCast]) (fun q => ?_)
      show G X M 5 _ _ _ _ 13 _ _
      refine g_astore (q := 15) (i := 4) hC dL_reserve_13 (by decide) rfl ?_
      refine g_iconst (q := 16) (v := (1)) hC dL_reserve_15 rfl rfl ?_
      exact g_iret hC hR dL_reserve_16 (by omega) (by omega) (⟨_, rfl, Or.inr ⟨by rw [hz]; exact eI_n, by rw [hz]; rfl, rfl⟩⟩)
    · have hz := z
      rw [h8] at z
      subst z
      refine g_catch (name := eA) hC [_] _ _ (htb : _ = [_] ++ _ :: _) (fun z hz => ?_) rfl (by decide) lwk_13 (by simp [gCast]) (fun q => ?_)
      · obtain rfl := List.mem_singleton.mp hz
        exact Or.inr ⟨by decide, eI, lwk_28, by simp [gNcs]⟩
      · show G X M 5 _ _ _ _ 17 _ _
        refine g_astore (q := 19) (i := 4) hC dL_reserve_17 (by decide) rfl ?_
        refine g_iconst (q := 20) (v := (2)) hC dL_reserve_19 rfl rfl ?_
        exact g_iret hC hR dL_reserve_20 (by omega) (by omega) (⟨_, rfl, Or.inr ⟨by rw [hz]; exact eA_n, by rw [hz]; rfl, rfl⟩⟩)
    · have hz := z
      rw [h8] at z
      subst z
      refine g_catch (name := eS) hC [_, _] _ _ (htb : _ = [_, _] ++ _ :: _) (fun z hz => ?_) rfl (by decide) lwk_15 (by simp [gCast]) (fun q => ?_)
      · rcases List.mem_cons.mp hz with rfl | hz
        · exact Or.inr ⟨by decide, eI, lwk_28, by simp [gNcs]⟩
        · obtain rfl := List.mem_singleton.mp hz
          exact Or.inr ⟨by decide, eA, lwk_13, by simp [gNcs]⟩
      · show G X M 5 _ _ _ _ 21 _ _
        refine g_astore (q := 23) (i := 4) hC dL_reserve_21 (by decide) rfl ?_
        refine g_iconst (q := 24) (v := (3)) hC dL_reserve_23 rfl rfl ?_
        exact g_iret hC hR dL_reserve_24 (by omega) (by omega) (⟨_, rfl, Or.inr ⟨by rw [hz]; exact eS_n, by rw [hz]; rfl, rfl⟩⟩)
  refine g_aload_n (q := 1) (i := 3) hC dL_reserve_0 rfl rfl rfl ?_
  refine g_iconst (q := 2) (v := nI 0) hC dL_reserve_1 rfl rfl ?_
  refine g_aload_n (q := 3) (i := 0) hC dL_reserve_2 rfl rfl rfl ?_
  refine g_iload_n (q := 4) (i := 1) hC dL_reserve_3 rfl rfl rfl ?_
  refine g_iload_n (q := 5) (i := 2) hC dL_reserve_4 rfl rfl rfl ?_
  refine g_ci (q := 8) (g_runV hC kv_L_47 md_X4_reserve (c_L_reserve _ hC.fl M _ A ρ W x y hr hW hE) (ci := 4) rfl (hr.led hW) dL_reserve_5 (by decide) (by decide) (by omega) (by omega) rfl rfl (Nat.le_of_ble_eq_true rfl)) rfl (fun r σ1 ⟨h1, h2, h3, h4⟩ => ?_) (bad)
  refine g_i2l (q := 9) hC dL_reserve_8 rfl rfl ?_
  refine g_last (q := 10) hC dL_reserve_9 (h4 _ _ ho trivial) (vp_in_nI (by omega) (by omega)) rfl ?_
  refine g_goto (tgt := 25) hC dL_reserve_10 (by decide) ?_
  refine g_iconst (q := 26) (v := nI 0) hC dL_reserve_25 rfl rfl ?_
  exact g_iret hC hR dL_reserve_26 (by omega) (by omega) (⟨_, rfl, Or.inl ⟨h1, rfl, σ1, _, ⟨h3, h4⟩, rfl, by rw [h2]; exact up0 _ _⟩⟩)
theorem thr_settle (ρ : gSt) (x : Int32) (y : Int32) : (lo_settle ρ x y).1 = "" ∨ (lo_settle ρ x y).1 = eI ∨ (lo_settle ρ x y).1 = eA := by
  unfold lo_settle
  repeat' split
  all_goals first | exact Or.inl rfl | exact Or.inl lb2_fst | exact Or.inr (Or.inl rfl) | exact Or.inr (Or.inr rfl)
set_option maxRecDepth 100000 in
set_option maxHeartbeats 4000000 in
theorem c_W_settle (l : Launch) (hfl : l.stackTraces = false) (M : gMT) (σ : gS) (A : gAd) (ρ : gSt) (W : gWt) (x : Int32) (y : Int32) (o : Nat) (f : Nat → Int64) (hr : Raw M σ A ρ W) (hW : RW ρ) (ho : σ o = some (aL M 1 f)) : Con l M yL_settle (.codeWith yL_settle cL_settle 5 (some .int) hL_settle) 13 11 165 [.ref (A 0 0), .int x, .int y, .ref o] σ (rI (wP M σ A o (cdf 2 1 9) ρ (lo_settle ρ x y))) nX := by
  refine g_conW (hh := hL_settle) hfl (by decide) (lv := [(0, .ref (A 0 0)), (1, .int x), (2, .int y), (3, .ref o)]) rfl rfl (Nat.le_of_ble_eq_true rfl) (fun X hX hC hR htb => ?_)
  have bad : ∀ E σ2, lX σ (lo_settle ρ x y) E σ2 → GX X M 5 (gQ X M 11 165 (rI (wP M σ A o (cdf 2 1 9) ρ (lo_settle ρ x y))) nX) (0 + 11) (0 + 165) σ2 5 [(0, .ref (A 0 0)), (1, .int x), (2, .int y), (3, .ref o)] E := by
    intro E σ2 h9
    obtain ⟨⟨h8, hne⟩, rfl⟩ := h9
    rcases thr_settle ρ x y with z | z | z
    · exact absurd (h8.symm.trans z) hne
    · have hz := z
      rw [h8] at z
      subst z
      refine g_catch (name := eI) hC [] _ _ (htb : _ = [] ++ _ :: _) (fun z hz => absurd hz List.not_mem_nil) rfl (by decide) lwk_28 (by simp [gCast]) (fun q => ?_)
      show G X M 5 _ _ _ _ 13 _ _
      refine g_astore (q := 15) (i := 4) hC dL_settle_13 (by decide) rfl ?_
      refine g_iconst (q := 16) (v := (1)) hC dL_settle_15 rfl rfl ?_
      exact g_iret hC hR dL_settle_16 (by omega) (by omega) (⟨_, rfl, Or.inr ⟨by rw [hz]; exact eI_n, by rw [hz]; rfl, rfl⟩⟩)
    · have hz := z
      rw [h8] at z
      subst z
      refine g_catch (name := eA) hC [_] _ _ (htb : _ = [_] ++ _ :: _) (fun z hz => ?_) rfl (by decide) lwk_13 (by simp [gCast]) (fun q => ?_)
      · obtain rfl := List.mem_singleton.mp hz
        exact Or.inr ⟨by decide, eI, lwk_28, by simp [gNcs]⟩
      · show G X M 5 _ _ _ _ 17 _ _
        refine g_astore (q := 19) (i := 4) hC dL_settle_17 (by decide) rfl ?_
        refine g_iconst (q := 20) (v := (2)) hC dL_settle_19 rfl rfl ?_
        exact g_iret hC hR dL_settle_20 (by omega) (by omega) (⟨_, rfl, Or.inr ⟨by rw [hz]; exact eA_n, by rw [hz]; rfl, rfl⟩⟩)
  refine g_aload_n (q := 1) (i := 3) hC dL_settle_0 rfl rfl rfl ?_
  refine g_iconst (q := 2) (v := nI 0) hC dL_settle_1 rfl rfl ?_
  refine g_aload_n (q := 3) (i := 0) hC dL_settle_2 rfl rfl rfl ?_
  refine g_iload_n (q := 4) (i := 1) hC dL_settle_3 rfl rfl rfl ?_
  refine g_iload_n (q := 5) (i := 2) hC dL_settle_4 rfl rfl rfl ?_
  refine g_ci (q := 8) (g_runV hC kv_L_50 md_X4_settle (c_L_settle _ hC.fl M _ A ρ W x y hr hW) (ci := 4) rfl (hr.led hW) dL_settle_5 (by decide) (by decide) (by omega) (by omega) rfl rfl (Nat.le_of_ble_eq_true rfl)) rfl (fun r σ1 ⟨h1, h2, h3, h4⟩ => ?_) (bad)
  refine g_i2l (q := 9) hC dL_settle_8 rfl rfl ?_
  refine g_last (q := 10) hC dL_settle_9 (h4 _ _ ho trivial) (vp_in_nI (by omega) (by omega)) rfl ?_
  refine g_goto (tgt := 21) hC dL_settle_10 (by decide) ?_
  refine g_iconst (q := 22) (v := nI 0) hC dL_settle_21 rfl rfl ?_
  exact g_iret hC hR dL_settle_22 (by omega) (by omega) (⟨_, rfl, Or.inl ⟨h1, rfl, σ1, _, ⟨h3, h4⟩, rfl, by rw [h2]; exact up0 _ _⟩⟩)
theorem thr_setLimits (ρ : gSt) (kd : Int32) (x : Int32) (u : Int32) (v : Int32) (w : Int32) : (lo_setLimits ρ kd x u v w).1 = "" ∨ (lo_setLimits ρ kd x u v w).1 = eI ∨ (lo_setLimits ρ kd x u v w).1 = eA := by
  unfold lo_setLimits
  repeat' split
  all_goals first | exact Or.inl rfl | exact Or.inl lb2_fst | exact Or.inr (Or.inl rfl) | exact Or.inr (Or.inr rfl)
set_option maxRecDepth 100000 in
set_option maxHeartbeats 4000000 in
theorem c_W_setLimits (l : Launch) (hfl : l.stackTraces = false) (M : gMT) (σ : gS) (A : gAd) (ρ : gSt) (W : gWt) (kd : Int32) (x : Int32) (u : Int32) (v : Int32) (w : Int32) (hr : Raw M σ A ρ W) (hW : RW ρ) : Con l M yL_setLimits (.codeWith yL_setLimits cL_setLimits 7 (some .int) hL_setLimits) 13 2 12 [.ref (A 0 0), .int kd, .int x, .int u, .int v, .int w] σ (rI fun r σ2 => ((lo_setLimits ρ kd x u v w).1 = "" ∧ r = 0 ∧ (∃ A', A' 0 0 = A 0 0 ∧ RawE M σ2 A' (lo_setLimits ρ kd x u v w).2.2) ∧ gFF σ σ2) ∨ ((lo_setLimits ρ kd x u v w).1 ≠ "" ∧ r = (cdf 2 1 9) (lo_setLimits ρ kd x u v w).1 ∧ σ2 = σ)) nX := by
  refine g_conW (hh := hL_setLimits) hfl (by decide) (lv := [(0, .ref (A 0 0)), (1, .int kd), (2, .int x), (3, .int u), (4, .int v), (5, .int w)]) rfl rfl (Nat.le_of_ble_eq_true rfl) (fun X hX hC hR htb => ?_)
  have bad : ∀ E σ2, lX σ (lo_setLimits ρ kd x u v w) E σ2 → GX X M 7 (gQ X M 2 12 (rI fun r σ2 => ((lo_setLimits ρ kd x u v w).1 = "" ∧ r = 0 ∧ (∃ A', A' 0 0 = A 0 0 ∧ RawE M σ2 A' (lo_setLimits ρ kd x u v w).2.2) ∧ gFF σ σ2) ∨ ((lo_setLimits ρ kd x u v w).1 ≠ "" ∧ r = (cdf 2 1 9) (lo_setLimits ρ kd x u v w).1 ∧ σ2 = σ)) nX) (0 + 2) (0 + 12) σ2 8 [(0, .ref (A 0 0)), (1, .int kd), (2, .int x), (3, .int u), (4, .int v), (5, .int w)] E := by
    intro E σ2 h9
    obtain ⟨⟨h8, hne⟩, rfl⟩ := h9
    rcases thr_setLimits ρ kd x u v w with z | z | z
    · exact absurd (h8.symm.trans z) hne
    · have hz := z
      rw [h8] at z
      subst z
      refine g_catch (name := eI) hC [] _ _ (htb : _ = [] ++ _ :: _) (fun z hz => absurd hz List.not_mem_nil) rfl (by decide) lwk_28 (by simp [gCast]) (fun q => ?_)
      show G X M 7 _ _ _ _ 14 _ _
      refine g_astore (q := 16) (i := 6) hC dL_setLimits_14 (by decide) rfl ?_
      refine g_iconst (q := 17) (v := (1)) hC dL_setLimits_16 rfl rfl ?_
      exact g_iret hC hR dL_setLimits_17 (by omega) (by omega) (⟨_, rfl, Or.inr ⟨by rw [hz]; exact eI_n, by rw [hz]; rfl, rfl⟩⟩)
    · have hz := z
      rw [h8] at z
      subst z
      refine g_catch (name := eA) hC [_] _ _ (htb : _ = [_] ++ _ :: _) (fun z hz => ?_) rfl (by decide) lwk_13 (by simp [gCast]) (fun q => ?_)
      · obtain rfl := List.mem_singleton.mp hz
        exact Or.inr ⟨by decide, eI, lwk_28, by simp [gNcs]⟩
      · show G X M 7 _ _ _ _ 18 _ _
        refine g_astore (q := 20) (i := 6) hC dL_setLimits_18 (by decide) rfl ?_
        refine g_iconst (q := 21) (v := (2)) hC dL_setLimits_20 rfl rfl ?_
        exact g_iret hC hR dL_setLimits_21 (by omega) (by omega) (⟨_, rfl, Or.inr ⟨by rw [hz]; exact eA_n, by rw [hz]; rfl, rfl⟩⟩)
  refine g_aload_n (q := 1) (i := 0) hC dL_setLimits_0 rfl rfl rfl ?_
  refine g_iload_n (q := 2) (i := 1) hC dL_setLimits_1 rfl rfl rfl ?_
  refine g_iload_n (q := 3) (i := 2) hC dL_setLimits_2 rfl rfl rfl ?_
  refine g_iload_n (q := 4) (i := 3) hC dL_setLimits_3 rfl rfl rfl ?_
  refine g_iload (q := 6) (i := 4) hC dL_setLimits_4 rfl rfl ?_
  refine g_iload (q := 8) (i := 5) hC dL_setLimits_6 rfl rfl ?_
  refine g_cv (q := 11) (g_runV hC kv_L_53 md_X4_setLimits (c_L_setLimits _ hC.fl M _ A ρ W kd x u v w hr hW) (ci := 4) rfl (hr.led hW) dL_setLimits_8 (by decide) (by decide) (by omega) (by omega) rfl rfl (Nat.le_of_ble_eq_true rfl)) rfl (fun σ1 ⟨h1, h2, h3, h4⟩ => ?_) (bad)
  refine g_goto (tgt := 22) hC dL_setLimits_11 (by decide) ?_
  refine g_iconst (q := 23) (v := (0)) hC dL_setLimits_22 rfl rfl ?_
  exact g_iret hC hR dL_setLimits_23 (by omega) (by omega) (⟨_, rfl, Or.inl ⟨h1, rfl, h3, h4⟩⟩)
theorem thr_pass (ρ : gSt) (x : Int32) : (lo_pass ρ x).1 = "" ∨ (lo_pass ρ x).1 = eA ∨ (lo_pass ρ x).1 = eS := by
  unfold lo_pass
  repeat' split
  all_goals first | exact Or.inl rfl | exact Or.inl lb2_fst | exact Or.inr (Or.inl rfl) | exact Or.inr (Or.inr rfl)
set_option maxRecDepth 100000 in
set_option maxHeartbeats 4000000 in
theorem c_W_pass (l : Launch) (hfl : l.stackTraces = false) (M : gMT) (σ : gS) (A : gAd) (ρ : gSt) (W : gWt) (x : Int32) (o : Nat) (f : Nat → Int64) (hr : Raw M σ A ρ W) (hW : RW ρ) (ho : σ o = some (aL M 1 f)) : Con l M yL_pass (.codeWith yL_pass cL_pass 4 (some .int) hL_pass) 13 1 6 [.ref (A 0 0), .int x, .ref o] σ (rI (wP M σ A o (cdf 1 9 2) ρ (lo_pass ρ x))) nX := by
  refine g_conW (hh := hL_pass) hfl (by decide) (lv := [(0, .ref (A 0 0)), (1, .int x), (2, .ref o)]) rfl rfl (Nat.le_of_ble_eq_true rfl) (fun X hX hC hR htb => ?_)
  have bad : ∀ E σ2, lX σ (lo_pass ρ x) E σ2 → GX X M 4 (gQ X M 1 6 (rI (wP M σ A o (cdf 1 9 2) ρ (lo_pass ρ x))) nX) (0 + 1) (0 + 6) σ2 4 [(0, .ref (A 0 0)), (1, .int x), (2, .ref o)] E := by
    intro E σ2 h9
    obtain ⟨⟨h8, hne⟩, rfl⟩ := h9
    rcases thr_pass ρ x with z | z | z
    · exact absurd (h8.symm.trans z) hne
    · have hz := z
      rw [h8] at z
      subst z
      refine g_catch (name := eA) hC [] _ _ (htb : _ = [] ++ _ :: _) (fun z hz => absurd hz List.not_mem_nil) rfl (by decide) lwk_13 (by simp [gCast]) (fun q => ?_)
      show G X M 4 _ _ _ _ 12 _ _
      refine g_astore_n (q := 13) (i := 3) hC dL_pass_12 rfl (by decide) rfl ?_
      refine g_iconst (q := 14) (v := (1)) hC dL_pass_13 rfl rfl ?_
      exact g_iret hC hR dL_pass_14 (by omega) (by omega) (⟨_, rfl, Or.inr ⟨by rw [hz]; exact eA_n, by rw [hz]; rfl, rfl⟩⟩)
    · have hz := z
      rw [h8] at z
      subst z
      refine g_catch (name := eS) hC [_] _ _ (htb : _ = [_] ++ _ :: _) (fun z hz => ?_) rfl (by decide) lwk_15 (by simp [gCast]) (fun q => ?_)
      · obtain rfl := List.mem_singleton.mp hz
        exact Or.inr ⟨by decide, eA, lwk_13, by simp [gNcs]⟩
      · show G X M 4 _ _ _ _ 15 _ _
        refine g_astore_n (q := 16) (i := 3) hC dL_pass_15 rfl (by decide) rfl ?_
        refine g_iconst (q := 17) (v := (2)) hC dL_pass_16 rfl rfl ?_
        exact g_iret hC hR dL_pass_17 (by omega) (by omega) (⟨_, rfl, Or.inr ⟨by rw [hz]; exact eS_n, by rw [hz]; rfl, rfl⟩⟩)
  refine g_aload_n (q := 1) (i := 2) hC dL_pass_0 rfl rfl rfl ?_
  refine g_iconst (q := 2) (v := nI 0) hC dL_pass_1 rfl rfl ?_
  refine g_aload_n (q := 3) (i := 0) hC dL_pass_2 rfl rfl rfl ?_
  refine g_iload_n (q := 4) (i := 1) hC dL_pass_3 rfl rfl rfl ?_
  refine g_ci (q := 7) (g_runV hC kv_L_57 md_X4_pass (c_L_pass _ hC.fl M _ A ρ W x hr hW) (ci := 4) rfl (hr.led hW) dL_pass_4 (by decide) (by decide) (by omega) (by omega) rfl rfl (Nat.le_of_ble_eq_true rfl)) rfl (fun r σ1 ⟨h1, h2, h3, h4⟩ => ?_) (bad)
  refine g_i2l (q := 8) hC dL_pass_7 rfl rfl ?_
  refine g_last (q := 9) hC dL_pass_8 (h4 _ _ ho trivial) (vp_in_nI (by omega) (by omega)) rfl ?_
  refine g_goto (tgt := 18) hC dL_pass_9 (by decide) ?_
  refine g_iconst (q := 19) (v := nI 0) hC dL_pass_18 rfl rfl ?_
  exact g_iret hC hR dL_pass_19 (by omega) (by omega) (⟨_, rfl, Or.inl ⟨h1, rfl, σ1, _, ⟨h3, h4⟩, rfl, by rw [h2]; exact up0 _ _⟩⟩)
theorem thr_used (ρ : gSt) (x : Int32) (y : Int32) : (lo_used ρ x y).1 = "" ∨ (lo_used ρ x y).1 = eI := by
  unfold lo_used lo_acc
  repeat' split
  all_goals first | exact Or.inl rfl | exact Or.inl lb2_fst | exact Or.inr rfl
set_option maxRecDepth 100000 in
set_option maxHeartbeats 4000000 in
theorem c_W_used (l : Launch) (hfl : l.stackTraces = false) (M : gMT) (σ : gS) (A : gAd) (ρ : gSt) (W : gWt) (x : Int32) (y : Int32) (o : Nat) (f : Nat → Int64) (hr : Raw M σ A ρ W) (hW : RW ρ) (ho : σ o = some (aL M 1 f)) : Con l M yL_used (.codeWith yL_used cL_used 5 (some .int) hL_used) 13 1 6 [.ref (A 0 0), .int x, .int y, .ref o] σ (rI (wP M σ A o (cdf 9 1 9) ρ (lo_used ρ x y))) nX := by
  refine g_conW (hh := hL_used) hfl (by decide) (lv := [(0, .ref (A 0 0)), (1, .int x), (2, .int y), (3, .ref o)]) rfl rfl (Nat.le_of_ble_eq_true rfl) (fun X hX hC hR htb => ?_)
  have bad : ∀ E σ2, lX σ (lo_used ρ x y) E σ2 → GX X M 5 (gQ X M 1 6 (rI (wP M σ A o (cdf 9 1 9) ρ (lo_used ρ x y))) nX) (0 + 1) (0 + 6) σ2 5 [(0, .ref (A 0 0)), (1, .int x), (2, .int y), (3, .ref o)] E := by
    intro E σ2 h9
    obtain ⟨⟨h8, hne⟩, rfl⟩ := h9
    rcases thr_used ρ x y with z | z
    · exact absurd (h8.symm.trans z) hne
    · have hz := z
      rw [h8] at z
      subst z
      refine g_catch (name := eI) hC [] _ _ (htb : _ = [] ++ _ :: _) (fun z hz => absurd hz List.not_mem_nil) rfl (by decide) lwk_28 (by simp [gCast]) (fun q => ?_)
      show G X M 5 _ _ _ _ 13 _ _
      refine g_astore (q := 15) (i := 4) hC dL_used_13 (by decide) rfl ?_
      refine g_iconst (q := 16) (v := (1)) hC dL_used_15 rfl rfl ?_
      exact g_iret hC hR dL_used_16 (by omega) (by omega) (⟨_, rfl, Or.inr ⟨by rw [hz]; exact eI_n, by rw [hz]; rfl, rfl⟩⟩)
  refine g_aload_n (q := 1) (i := 3) hC dL_used_0 rfl rfl rfl ?_
  refine g_iconst (q := 2) (v := nI 0) hC dL_used_1 rfl rfl ?_
  refine g_aload_n (q := 3) (i := 0) hC dL_used_2 rfl rfl rfl ?_
  refine g_iload_n (q := 4) (i := 1) hC dL_used_3 rfl rfl rfl ?_
  refine g_iload_n (q := 5) (i := 2) hC dL_used_4 rfl rfl rfl ?_
  refine g_ci (q := 8) (g_runV hC kv_L_60 md_X4_used (c_L_used _ hC.fl M _ A ρ W x y hr hW) (ci := 4) rfl (hr.led hW) dL_used_5 (by decide) (by decide) (by omega) (by omega) rfl rfl (Nat.le_of_ble_eq_true rfl)) rfl (fun r σ1 ⟨h1, h2, h3, h4⟩ => ?_) (bad)
  refine g_i2l (q := 9) hC dL_used_8 rfl rfl ?_
  refine g_last (q := 10) hC dL_used_9 (h4 _ _ ho trivial) (vp_in_nI (by omega) (by omega)) rfl ?_
  refine g_goto (tgt := 17) hC dL_used_10 (by decide) ?_
  refine g_iconst (q := 18) (v := nI 0) hC dL_used_17 rfl rfl ?_
  exact g_iret hC hR dL_used_18 (by omega) (by omega) (⟨_, rfl, Or.inl ⟨h1, rfl, σ1, _, ⟨h3, h4⟩, rfl, by rw [h2]; exact up0 _ _⟩⟩)
theorem thr_filesOf (ρ : gSt) (x : Int32) (y : Int32) : (lo_filesOf ρ x y).1 = "" ∨ (lo_filesOf ρ x y).1 = eI := by
  unfold lo_filesOf lo_acc
  repeat' split
  all_goals first | exact Or.inl rfl | exact Or.inl lb2_fst | exact Or.inr rfl
set_option maxRecDepth 100000 in
set_option maxHeartbeats 4000000 in
theorem c_W_filesOf (l : Launch) (hfl : l.stackTraces = false) (M : gMT) (σ : gS) (A : gAd) (ρ : gSt) (W : gWt) (x : Int32) (y : Int32) (o : Nat) (f : Nat → Int64) (hr : Raw M σ A ρ W) (hW : RW ρ) (ho : σ o = some (aL M 1 f)) : Con l M yL_filesOf (.codeWith yL_filesOf cL_filesOf 5 (some .int) hL_filesOf) 13 1 6 [.ref (A 0 0), .int x, .int y, .ref o] σ (rI (wP M σ A o (cdf 9 1 9) ρ (lo_filesOf ρ x y))) nX := by
  refine g_conW (hh := hL_filesOf) hfl (by decide) (lv := [(0, .ref (A 0 0)), (1, .int x), (2, .int y), (3, .ref o)]) rfl rfl (Nat.le_of_ble_eq_true rfl) (fun X hX hC hR htb => ?_)
  have bad : ∀ E σ2, lX σ (lo_filesOf ρ x y) E σ2 → GX X M 5 (gQ X M 1 6 (rI (wP M σ A o (cdf 9 1 9) ρ (lo_filesOf ρ x y))) nX) (0 + 1) (0 + 6) σ2 5 [(0, .ref (A 0 0)), (1, .int x), (2, .int y), (3, .ref o)] E := by
    intro E σ2 h9
    obtain ⟨⟨h8, hne⟩, rfl⟩ := h9
    rcases thr_filesOf ρ x y with z | z
    · exact absurd (h8.symm.trans z) hne
    · have hz := z
      rw [h8] at z
      subst z
      refine g_catch (name := eI) hC [] _ _ (htb : _ = [] ++ _ :: _) (fun z hz => absurd hz List.not_mem_nil) rfl (by decide) lwk_28 (by simp [gCast]) (fun q => ?_)
      show G X M 5 _ _ _ _ 13 _ _
      refine g_astore (q := 15) (i := 4) hC dL_filesOf_13 (by decide) rfl ?_
      refine g_iconst (q := 16) (v := (1)) hC dL_filesOf_15 rfl rfl ?_
      exact g_iret hC hR dL_filesOf_16 (by omega) (by omega) (⟨_, rfl, Or.inr ⟨by rw [hz]; exact eI_n, by rw [hz]; rfl, rfl⟩⟩)
  refine g_aload_n (q := 1) (i := 3) hC dL_filesOf_0 rfl rfl rfl ?_
  refine g_iconst (q := 2) (v := nI 0) hC dL_filesOf_1 rfl rfl ?_
  refine g_aload_n (q := 3) (i := 0) hC dL_filesOf_2 rfl rfl rfl ?_
  refine g_iload_n (q := 4) (i := 1) hC dL_filesOf_3 rfl rfl rfl ?_
  refine g_iload_n (q := 5) (i := 2) hC dL_filesOf_4 rfl rfl rfl ?_
  refine g_ci (q := 8) (g_runV hC kv_L_63 md_X4_filesOf (c_L_filesOf _ hC.fl M _ A ρ W x y hr hW) (ci := 4) rfl (hr.led hW) dL_filesOf_5 (by decide) (by decide) (by omega) (by omega) rfl rfl (Nat.le_of_ble_eq_true rfl)) rfl (fun r σ1 ⟨h1, h2, h3, h4⟩ => ?_) (bad)
  refine g_i2l (q := 9) hC dL_filesOf_8 rfl rfl ?_
  refine g_last (q := 10) hC dL_filesOf_9 (h4 _ _ ho trivial) (vp_in_nI (by omega) (by omega)) rfl ?_
  refine g_goto (tgt := 17) hC dL_filesOf_10 (by decide) ?_
  refine g_iconst (q := 18) (v := nI 0) hC dL_filesOf_17 rfl rfl ?_
  exact g_iret hC hR dL_filesOf_18 (by omega) (by omega) (⟨_, rfl, Or.inl ⟨h1, rfl, σ1, _, ⟨h3, h4⟩, rfl, by rw [h2]; exact up0 _ _⟩⟩)
theorem thr_usedByFiles (ρ : gSt) (x : Int32) (y : Int32) : (lo_usedByFiles ρ x y).1 = "" ∨ (lo_usedByFiles ρ x y).1 = eI := by
  unfold lo_usedByFiles lo_acc
  repeat' split
  all_goals first | exact Or.inl rfl | exact Or.inl lb2_fst | exact Or.inr rfl
set_option maxRecDepth 100000 in
set_option maxHeartbeats 4000000 in
theorem c_W_usedByFiles (l : Launch) (hfl : l.stackTraces = false) (M : gMT) (σ : gS) (A : gAd) (ρ : gSt) (W : gWt) (x : Int32) (y : Int32) (o : Nat) (f : Nat → Int64) (hr : Raw M σ A ρ W) (hW : RW ρ) (ho : σ o = some (aL M 1 f)) : Con l M yL_usedByFiles (.codeWith yL_usedByFiles cL_usedByFiles 5 (some .int) hL_usedByFiles) 13 441 6606 [.ref (A 0 0), .int x, .int y, .ref o] σ (rI (wP M σ A o (cdf 9 1 9) ρ (lo_usedByFiles ρ x y))) nX := by
  refine g_conW (hh := hL_usedByFiles) hfl (by decide) (lv := [(0, .ref (A 0 0)), (1, .int x), (2, .int y), (3, .ref o)]) rfl rfl (Nat.le_of_ble_eq_true rfl) (fun X hX hC hR htb => ?_)
  have bad : ∀ E σ2, lX σ (lo_usedByFiles ρ x y) E σ2 → GX X M 5 (gQ X M 441 6606 (rI (wP M σ A o (cdf 9 1 9) ρ (lo_usedByFiles ρ x y))) nX) (0 + 441) (0 + 6606) σ2 5 [(0, .ref (A 0 0)), (1, .int x), (2, .int y), (3, .ref o)] E := by
    intro E σ2 h9
    obtain ⟨⟨h8, hne⟩, rfl⟩ := h9
    rcases thr_usedByFiles ρ x y with z | z
    · exact absurd (h8.symm.trans z) hne
    · have hz := z
      rw [h8] at z
      subst z
      refine g_catch (name := eI) hC [] _ _ (htb : _ = [] ++ _ :: _) (fun z hz => absurd hz List.not_mem_nil) rfl (by decide) lwk_28 (by simp [gCast]) (fun q => ?_)
      show G X M 5 _ _ _ _ 13 _ _
      refine g_astore (q := 15) (i := 4) hC dL_usedByFiles_13 (by decide) rfl ?_
      refine g_iconst (q := 16) (v := (1)) hC dL_usedByFiles_15 rfl rfl ?_
      exact g_iret hC hR dL_usedByFiles_16 (by omega) (by omega) (⟨_, rfl, Or.inr ⟨by rw [hz]; exact eI_n, by rw [hz]; rfl, rfl⟩⟩)
  refine g_aload_n (q := 1) (i := 3) hC dL_usedByFiles_0 rfl rfl rfl ?_
  refine g_iconst (q := 2) (v := nI 0) hC dL_usedByFiles_1 rfl rfl ?_
  refine g_aload_n (q := 3) (i := 0) hC dL_usedByFiles_2 rfl rfl rfl ?_
  refine g_iload_n (q := 4) (i := 1) hC dL_usedByFiles_3 rfl rfl rfl ?_
  refine g_iload_n (q := 5) (i := 2) hC dL_usedByFiles_4 rfl rfl rfl ?_
  refine g_ci (q := 8) (g_runV hC kv_L_66 md_X4_usedByFiles (c_L_usedByFiles _ hC.fl M _ A ρ W x y hr hW) (ci := 4) rfl (hr.led hW) dL_usedByFiles_5 (by decide) (by decide) (by omega) (by omega) rfl rfl (Nat.le_of_ble_eq_true rfl)) rfl (fun r σ1 ⟨h1, h2, h3, h4⟩ => ?_) (bad)
  refine g_i2l (q := 9) hC dL_usedByFiles_8 rfl rfl ?_
  refine g_last (q := 10) hC dL_usedByFiles_9 (h4 _ _ ho trivial) (vp_in_nI (by omega) (by omega)) rfl ?_
  refine g_goto (tgt := 17) hC dL_usedByFiles_10 (by decide) ?_
  refine g_iconst (q := 18) (v := nI 0) hC dL_usedByFiles_17 rfl rfl ?_
  exact g_iret hC hR dL_usedByFiles_18 (by omega) (by omega) (⟨_, rfl, Or.inl ⟨h1, rfl, σ1, _, ⟨h3, h4⟩, rfl, by rw [h2]; exact up0 _ _⟩⟩)
theorem thr_grace (ρ : gSt) (x : Int32) (y : Int32) : (lo_grace ρ x y).1 = "" ∨ (lo_grace ρ x y).1 = eI := by
  unfold lo_grace lo_acc
  repeat' split
  all_goals first | exact Or.inl rfl | exact Or.inl lb2_fst | exact Or.inr rfl
set_option maxRecDepth 100000 in
set_option maxHeartbeats 4000000 in
theorem c_W_grace (l : Launch) (hfl : l.stackTraces = false) (M : gMT) (σ : gS) (A : gAd) (ρ : gSt) (W : gWt) (x : Int32) (y : Int32) (o : Nat) (f : Nat → Int64) (hr : Raw M σ A ρ W) (hW : RW ρ) (ho : σ o = some (aL M 1 f)) : Con l M yL_grace (.codeWith yL_grace cL_grace 5 (some .int) hL_grace) 13 1 6 [.ref (A 0 0), .int x, .int y, .ref o] σ (rI (wP M σ A o (cdf 9 1 9) ρ (lo_grace ρ x y))) nX := by
  refine g_conW (hh := hL_grace) hfl (by decide) (lv := [(0, .ref (A 0 0)), (1, .int x), (2, .int y), (3, .ref o)]) rfl rfl (Nat.le_of_ble_eq_true rfl) (fun X hX hC hR htb => ?_)
  have bad : ∀ E σ2, lX σ (lo_grace ρ x y) E σ2 → GX X M 5 (gQ X M 1 6 (rI (wP M σ A o (cdf 9 1 9) ρ (lo_grace ρ x y))) nX) (0 + 1) (0 + 6) σ2 5 [(0, .ref (A 0 0)), (1, .int x), (2, .int y), (3, .ref o)] E := by
    intro E σ2 h9
    obtain ⟨⟨h8, hne⟩, rfl⟩ := h9
    rcases thr_grace ρ x y with z | z
    · exact absurd (h8.symm.trans z) hne
    · have hz := z
      rw [h8] at z
      subst z
      refine g_catch (name := eI) hC [] _ _ (htb : _ = [] ++ _ :: _) (fun z hz => absurd hz List.not_mem_nil) rfl (by decide) lwk_28 (by simp [gCast]) (fun q => ?_)
      show G X M 5 _ _ _ _ 13 _ _
      refine g_astore (q := 15) (i := 4) hC dL_grace_13 (by decide) rfl ?_
      refine g_iconst (q := 16) (v := (1)) hC dL_grace_15 rfl rfl ?_
      exact g_iret hC hR dL_grace_16 (by omega) (by omega) (⟨_, rfl, Or.inr ⟨by rw [hz]; exact eI_n, by rw [hz]; rfl, rfl⟩⟩)
  refine g_aload_n (q := 1) (i := 3) hC dL_grace_0 rfl rfl rfl ?_
  refine g_iconst (q := 2) (v := nI 0) hC dL_grace_1 rfl rfl ?_
  refine g_aload_n (q := 3) (i := 0) hC dL_grace_2 rfl rfl rfl ?_
  refine g_iload_n (q := 4) (i := 1) hC dL_grace_3 rfl rfl rfl ?_
  refine g_iload_n (q := 5) (i := 2) hC dL_grace_4 rfl rfl rfl ?_
  refine g_ci (q := 8) (g_runV hC kv_L_69 md_X4_grace (c_L_grace _ hC.fl M _ A ρ W x y hr hW) (ci := 4) rfl (hr.led hW) dL_grace_5 (by decide) (by decide) (by omega) (by omega) rfl rfl (Nat.le_of_ble_eq_true rfl)) rfl (fun r σ1 ⟨h1, h2, h3, h4⟩ => ?_) (bad)
  refine g_i2l (q := 9) hC dL_grace_8 rfl rfl ?_
  refine g_last (q := 10) hC dL_grace_9 (h4 _ _ ho trivial) (vp_in_nI (by omega) (by omega)) rfl ?_
  refine g_goto (tgt := 17) hC dL_grace_10 (by decide) ?_
  refine g_iconst (q := 18) (v := nI 0) hC dL_grace_17 rfl rfl ?_
  exact g_iret hC hR dL_grace_18 (by omega) (by omega) (⟨_, rfl, Or.inl ⟨h1, rfl, σ1, _, ⟨h3, h4⟩, rfl, by rw [h2]; exact up0 _ _⟩⟩)
theorem thr_room (ρ : gSt) (x : Int32) : (lo_room ρ x).1 = "" ∨ (lo_room ρ x).1 = eI := by
  unfold lo_room
  repeat' split
  all_goals first | exact Or.inl rfl | exact Or.inl lb2_fst | exact Or.inr rfl
set_option maxRecDepth 100000 in
set_option maxHeartbeats 4000000 in
theorem c_W_room (l : Launch) (hfl : l.stackTraces = false) (M : gMT) (σ : gS) (A : gAd) (ρ : gSt) (W : gWt) (x : Int32) (o : Nat) (f : Nat → Int64) (hr : Raw M σ A ρ W) (hW : RW ρ) (ho : σ o = some (aL M 1 f)) : Con l M yL_room (.codeWith yL_room cL_room 4 (some .int) hL_room) 13 12 171 [.ref (A 0 0), .int x, .ref o] σ (rI (wP M σ A o (cdf 9 1 9) ρ (lo_room ρ x))) nX := by
  refine g_conW (hh := hL_room) hfl (by decide) (lv := [(0, .ref (A 0 0)), (1, .int x), (2, .ref o)]) rfl rfl (Nat.le_of_ble_eq_true rfl) (fun X hX hC hR htb => ?_)
  have bad : ∀ E σ2, lX σ (lo_room ρ x) E σ2 → GX X M 4 (gQ X M 12 171 (rI (wP M σ A o (cdf 9 1 9) ρ (lo_room ρ x))) nX) (0 + 12) (0 + 171) σ2 4 [(0, .ref (A 0 0)), (1, .int x), (2, .ref o)] E := by
    intro E σ2 h9
    obtain ⟨⟨h8, hne⟩, rfl⟩ := h9
    rcases thr_room ρ x with z | z
    · exact absurd (h8.symm.trans z) hne
    · have hz := z
      rw [h8] at z
      subst z
      refine g_catch (name := eI) hC [] _ _ (htb : _ = [] ++ _ :: _) (fun z hz => absurd hz List.not_mem_nil) rfl (by decide) lwk_28 (by simp [gCast]) (fun q => ?_)
      show G X M 4 _ _ _ _ 12 _ _
      refine g_astore_n (q := 13) (i := 3) hC dL_room_12 rfl (by decide) rfl ?_
      refine g_iconst (q := 14) (v := (1)) hC dL_room_13 rfl rfl ?_
      exact g_iret hC hR dL_room_14 (by omega) (by omega) (⟨_, rfl, Or.inr ⟨by rw [hz]; exact eI_n, by rw [hz]; rfl, rfl⟩⟩)
  refine g_aload_n (q := 1) (i := 2) hC dL_room_0 rfl rfl rfl ?_
  refine g_iconst (q := 2) (v := nI 0) hC dL_room_1 rfl rfl ?_
  refine g_aload_n (q := 3) (i := 0) hC dL_room_2 rfl rfl rfl ?_
  refine g_iload_n (q := 4) (i := 1) hC dL_room_3 rfl rfl rfl ?_
  refine g_ci (q := 7) (g_runV hC kv_L_72 md_X4_room (c_L_room _ hC.fl M _ A ρ W x hr hW) (ci := 4) rfl (hr.led hW) dL_room_4 (by decide) (by decide) (by omega) (by omega) rfl rfl (Nat.le_of_ble_eq_true rfl)) rfl (fun r σ1 ⟨h1, h2, h3, h4⟩ => ?_) (bad)
  refine g_i2l (q := 8) hC dL_room_7 rfl rfl ?_
  refine g_last (q := 9) hC dL_room_8 (h4 _ _ ho trivial) (vp_in_nI (by omega) (by omega)) rfl ?_
  refine g_goto (tgt := 15) hC dL_room_9 (by decide) ?_
  refine g_iconst (q := 16) (v := nI 0) hC dL_room_15 rfl rfl ?_
  exact g_iret hC hR dL_room_16 (by omega) (by omega) (⟨_, rfl, Or.inl ⟨h1, rfl, σ1, _, ⟨h3, h4⟩, rfl, by rw [h2]; exact up0 _ _⟩⟩)
theorem thr_recount (ρ : gSt) (x : Int32) : (lo_recount ρ x).1 = "" ∨ (lo_recount ρ x).1 = eA ∨ (lo_recount ρ x).1 = eS := by
  unfold lo_recount
  repeat' split
  all_goals first | exact Or.inl rfl | exact Or.inl lb2_fst | exact Or.inr (Or.inl rfl) | exact Or.inr (Or.inr rfl)
set_option maxRecDepth 100000 in
set_option maxHeartbeats 4000000 in
theorem c_W_recount (l : Launch) (hfl : l.stackTraces = false) (M : gMT) (σ : gS) (A : gAd) (ρ : gSt) (W : gWt) (x : Int32) (o : Nat) (f : Nat → Int64) (hr : Raw M σ A ρ W) (hW : RW ρ) (ho : σ o = some (aL M 1 f)) : Con l M yL_recount (.codeWith yL_recount cL_recount 4 (some .int) hL_recount) 13 440 6600 [.ref (A 0 0), .int x, .ref o] σ (rI (wP M σ A o (cdf 1 9 2) ρ (lo_recount ρ x))) nX := by
  refine g_conW (hh := hL_recount) hfl (by decide) (lv := [(0, .ref (A 0 0)), (1, .int x), (2, .ref o)]) rfl rfl (Nat.le_of_ble_eq_true rfl) (fun X hX hC hR htb => ?_)
  have bad : ∀ E σ2, lX σ (lo_recount ρ x) E σ2 → GX X M 4 (gQ X M 440 6600 (rI (wP M σ A o (cdf 1 9 2) ρ (lo_recount ρ x))) nX) (0 + 440) (0 + 6600) σ2 4 [(0, .ref (A 0 0)), (1, .int x), (2, .ref o)] E := by
    intro E σ2 h9
    obtain ⟨⟨h8, hne⟩, rfl⟩ := h9
    rcases thr_recount ρ x with z | z | z
    · exact absurd (h8.symm.trans z) hne
    · have hz := z
      rw [h8] at z
      subst z
      refine g_catch (name := eA) hC [] _ _ (htb : _ = [] ++ _ :: _) (fun z hz => absurd hz List.not_mem_nil) rfl (by decide) lwk_13 (by simp [gCast]) (fun q => ?_)
      show G X M 4 _ _ _ _ 12 _ _
      refine g_astore_n (q := 13) (i := 3) hC dL_recount_12 rfl (by decide) rfl ?_
      refine g_iconst (q := 14) (v := (1)) hC dL_recount_13 rfl rfl ?_
      exact g_iret hC hR dL_recount_14 (by omega) (by omega) (⟨_, rfl, Or.inr ⟨by rw [hz]; exact eA_n, by rw [hz]; rfl, rfl⟩⟩)
    · have hz := z
      rw [h8] at z
      subst z
      refine g_catch (name := eS) hC [_] _ _ (htb : _ = [_] ++ _ :: _) (fun z hz => ?_) rfl (by decide) lwk_15 (by simp [gCast]) (fun q => ?_)
      · obtain rfl := List.mem_singleton.mp hz
        exact Or.inr ⟨by decide, eA, lwk_13, by simp [gNcs]⟩
      · show G X M 4 _ _ _ _ 15 _ _
        refine g_astore_n (q := 16) (i := 3) hC dL_recount_15 rfl (by decide) rfl ?_
        refine g_iconst (q := 17) (v := (2)) hC dL_recount_16 rfl rfl ?_
        exact g_iret hC hR dL_recount_17 (by omega) (by omega) (⟨_, rfl, Or.inr ⟨by rw [hz]; exact eS_n, by rw [hz]; rfl, rfl⟩⟩)
  refine g_aload_n (q := 1) (i := 2) hC dL_recount_0 rfl rfl rfl ?_
  refine g_iconst (q := 2) (v := nI 0) hC dL_recount_1 rfl rfl ?_
  refine g_aload_n (q := 3) (i := 0) hC dL_recount_2 rfl rfl rfl ?_
  refine g_iload_n (q := 4) (i := 1) hC dL_recount_3 rfl rfl rfl ?_
  refine g_ci (q := 7) (g_runV hC kv_L_75 md_X4_recount (c_L_recount _ hC.fl M _ A ρ x ⟨W, hr⟩ hW) (ci := 4) rfl (hr.led hW) dL_recount_4 (by decide) (by decide) (by omega) (by omega) rfl rfl (Nat.le_of_ble_eq_true rfl)) rfl (fun r σ1 ⟨h1, h2, h3, h4⟩ => ?_) (bad)
  refine g_i2l (q := 8) hC dL_recount_7 rfl rfl ?_
  refine g_last (q := 9) hC dL_recount_8 (h4 _ _ ho trivial) (vp_in_nI (by omega) (by omega)) rfl ?_
  refine g_goto (tgt := 18) hC dL_recount_9 (by decide) ?_
  refine g_iconst (q := 19) (v := nI 0) hC dL_recount_18 rfl rfl ?_
  exact g_iret hC hR dL_recount_19 (by omega) (by omega) (⟨_, rfl, Or.inl ⟨h1, rfl, σ1, _, ⟨h3, h4⟩, rfl, by rw [h2]; exact up0 _ _⟩⟩)
theorem thr_counted (ρ : gSt) (x : Int32) (y : Int32) : (lo_counted ρ x y).1 = "" ∨ (lo_counted ρ x y).1 = eI ∨ (lo_counted ρ x y).1 = eS := by
  unfold lo_counted lo_acc
  repeat' split
  all_goals first | exact Or.inl rfl | exact Or.inl lb2_fst | exact Or.inr (Or.inl rfl) | exact Or.inr (Or.inr rfl)
set_option maxRecDepth 100000 in
set_option maxHeartbeats 4000000 in
theorem c_W_counted (l : Launch) (hfl : l.stackTraces = false) (M : gMT) (σ : gS) (A : gAd) (ρ : gSt) (W : gWt) (x : Int32) (y : Int32) (o : Nat) (f : Nat → Int64) (hr : Raw M σ A ρ W) (hW : RW ρ) (ho : σ o = some (aL M 1 f)) : Con l M yL_counted (.codeWith yL_counted cL_counted 5 (some .int) hL_counted) 13 2 12 [.ref (A 0 0), .int x, .int y, .ref o] σ (rI (wP M σ A o (cdf 9 1 2) ρ (lo_counted ρ x y))) nX := by
  refine g_conW (hh := hL_counted) hfl (by decide) (lv := [(0, .ref (A 0 0)), (1, .int x), (2, .int y), (3, .ref o)]) rfl rfl (Nat.le_of_ble_eq_true rfl) (fun X hX hC hR htb => ?_)
  have bad : ∀ E σ2, lX σ (lo_counted ρ x y) E σ2 → GX X M 5 (gQ X M 2 12 (rI (wP M σ A o (cdf 9 1 2) ρ (lo_counted ρ x y))) nX) (0 + 2) (0 + 12) σ2 5 [(0, .ref (A 0 0)), (1, .int x), (2, .int y), (3, .ref o)] E := by
    intro E σ2 h9
    obtain ⟨⟨h8, hne⟩, rfl⟩ := h9
    rcases thr_counted ρ x y with z | z | z
    · exact absurd (h8.symm.trans z) hne
    · have hz := z
      rw [h8] at z
      subst z
      refine g_catch (name := eI) hC [] _ _ (htb : _ = [] ++ _ :: _) (fun z hz => absurd hz List.not_mem_nil) rfl (by decide) lwk_28 (by simp [gCast]) (fun q => ?_)
      show G X M 5 _ _ _ _ 13 _ _
      refine g_astore (q := 15) (i := 4) hC dL_counted_13 (by decide) rfl ?_
      refine g_iconst (q := 16) (v := (1)) hC dL_counted_15 rfl rfl ?_
      exact g_iret hC hR dL_counted_16 (by omega) (by omega) (⟨_, rfl, Or.inr ⟨by rw [hz]; exact eI_n, by rw [hz]; rfl, rfl⟩⟩)
    · have hz := z
      rw [h8] at z
      subst z
      refine g_catch (name := eS) hC [_] _ _ (htb : _ = [_] ++ _ :: _) (fun z hz => ?_) rfl (by decide) lwk_15 (by simp [gCast]) (fun q => ?_)
      · obtain rfl := List.mem_singleton.mp hz
        exact Or.inr ⟨by decide, eI, lwk_28, by simp [gNcs]⟩
      · show G X M 5 _ _ _ _ 17 _ _
        refine g_astore (q := 19) (i := 4) hC dL_counted_17 (by decide) rfl ?_
        refine g_iconst (q := 20) (v := (2)) hC dL_counted_19 rfl rfl ?_
        exact g_iret hC hR dL_counted_20 (by omega) (by omega) (⟨_, rfl, Or.inr ⟨by rw [hz]; exact eS_n, by rw [hz]; rfl, rfl⟩⟩)
  refine g_aload_n (q := 1) (i := 3) hC dL_counted_0 rfl rfl rfl ?_
  refine g_iconst (q := 2) (v := nI 0) hC dL_counted_1 rfl rfl ?_
  refine g_aload_n (q := 3) (i := 0) hC dL_counted_2 rfl rfl rfl ?_
  refine g_iload_n (q := 4) (i := 1) hC dL_counted_3 rfl rfl rfl ?_
  refine g_iload_n (q := 5) (i := 2) hC dL_counted_4 rfl rfl rfl ?_
  refine g_ci (q := 8) (g_runV hC kv_L_78 md_X4_counted (c_L_counted _ hC.fl M _ A ρ W x y hr hW) (ci := 4) rfl (hr.led hW) dL_counted_5 (by decide) (by decide) (by omega) (by omega) rfl rfl (Nat.le_of_ble_eq_true rfl)) rfl (fun r σ1 ⟨h1, h2, h3, h4⟩ => ?_) (bad)
  refine g_i2l (q := 9) hC dL_counted_8 rfl rfl ?_
  refine g_last (q := 10) hC dL_counted_9 (h4 _ _ ho trivial) (vp_in_nI (by omega) (by omega)) rfl ?_
  refine g_goto (tgt := 21) hC dL_counted_10 (by decide) ?_
  refine g_iconst (q := 22) (v := nI 0) hC dL_counted_21 rfl rfl ?_
  exact g_iret hC hR dL_counted_22 (by omega) (by omega) (⟨_, rfl, Or.inl ⟨h1, rfl, σ1, _, ⟨h3, h4⟩, rfl, by rw [h2]; exact up0 _ _⟩⟩)
