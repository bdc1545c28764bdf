/-! ===== java.util.ArrayList over the map ===== -/
def lV (md : Int32) (dd c : Nat) : List Value := [.int md, .ref dd, .int (nI c)]
/-- an object of ours that a list may hold -/
def gObj (σ : gS) (y : Nat) : Prop := ∃ (ci : Nat) (fs : List Value), ci < 4 ∧ σ y = some (oB ci fs)
theorem gObj.el {σ : gS} {y : Nat} (h : gObj σ y) : ∃ (ci : Nat) (C : String) (T : u_T) (N : Nat) (fs : List Value), gCl[ci]? = some (C, T, N) ∧ (C, "java/lang/Object") ∈ gCast ∧ σ y = some (oB ci fs) := by
  obtain ⟨ci, fs, hc, h⟩ := h
  match ci, hc with
  | 0, _ => exact ⟨0, _, _, _, fs, rfl, by decide +kernel, h⟩
  | 1, _ => exact ⟨1, _, _, _, fs, rfl, by decide +kernel, h⟩
  | 2, _ => exact ⟨2, _, _, _, fs, rfl, by decide +kernel, h⟩
  | 3, _ => exact ⟨3, _, _, _, fs, rfl, by decide +kernel, h⟩
set_option maxRecDepth 100000 in
set_option maxHeartbeats 4000000 in
theorem c_AC_init (l : Launch) (hfl : l.stackTraces = false) (M : gMT) (σ : gS) (a : Nat) : Con l M yJxa1e45_init_da8c8 (.code yJxa1e45_init_da8c8 cJxa1e45_init_da8c8 1 (Option.none : Option FieldType)) 2 0 0 [.ref a] σ (rV fun σ2 => σ2 = σ) (nX) := by
  refine g_con hfl (by decide) (lv := [(0, .ref a)]) rfl rfl (Nat.le_of_ble_eq_true rfl) (fun X hX hC hR htb => ?_)
  refine g_aload_n (q := 1) (i := 0) hC dJxa1e45_init_da8c8_0 rfl rfl rfl ?_
  refine g_objInit (q := 4) hC ko_Jxa1e45_1 dJxa1e45_init_da8c8_1 (by decide) (by decide) rfl ?_
  exact g_vret hC hR dJxa1e45_init_da8c8_4 (by omega) (by omega) (⟨rfl, rfl⟩)
set_option maxRecDepth 100000 in
set_option maxHeartbeats 4000000 in
theorem c_AL_init (l : Launch) (hfl : l.stackTraces = false) (M : gMT) (σ : gS) (a : Nat) (dv sv : Value) (md : Int32) (hA : σ a = some (oB 6 [.int md, dv, sv])) : Con l M yJxc12de_init_da8c8 (.code yJxc12de_init_da8c8 cJxc12de_init_da8c8 1 (Option.none : Option FieldType)) 3 0 0 [.ref a] σ (rV fun σ2 => σ2 = gUp σ a (oB 6 [.int 0, dv, sv])) (nX) := by
  refine g_con hfl (by decide) (lv := [(0, .ref a)]) rfl rfl (Nat.le_of_ble_eq_true rfl) (fun X hX hC hR htb => ?_)
  refine g_aload_n (q := 1) (i := 0) hC dJxc12de_init_da8c8_0 rfl rfl rfl ?_
  refine g_cv (q := 4) (g_runI hC ki_Jxc12de_1 md_Jxa1e45_init_da8c8 (c_AC_init _ hC.fl M _ a) dJxc12de_init_da8c8_1 (by decide) (by decide) (by omega) (by omega) rfl rfl (Nat.le_of_ble_eq_true rfl)) rfl (fun σ e1 => ?_) (fun _ _ h9 => False.elim h9)
  subst e1
  refine g_aload_n (q := 5) (i := 0) hC dJxc12de_init_da8c8_4 rfl rfl rfl ?_
  refine g_iconst (q := 6) (v := (0)) hC dJxc12de_init_da8c8_5 rfl rfl ?_
  refine g_putf (q := 9) hC kf_Jxc12de_7 dJxc12de_init_da8c8_6 hA (Nat.le_of_ble_eq_true rfl) rfl rfl rfl ?_
  exact g_vret hC hR dJxc12de_init_da8c8_9 (by omega) (by omega) (⟨rfl, rfl⟩)
set_option maxRecDepth 100000 in
set_option maxHeartbeats 4000000 in
theorem c_list_init (l : Launch) (hfl : l.stackTraces = false) (M : gMT) (σ : gS) (a : Nat) (dv : Value) (md : Int32) (hA : σ a = some (oB 6 [.int md, dv, .int 0])) : Con l M yJx4a65c_init_da8c8 (.code yJx4a65c_init_da8c8 cJx4a65c_init_da8c8 1 (Option.none : Option FieldType)) 4 0 0 [.ref a] σ (rV fun σ2 => σ2 = gUp σ a (oB 6 (lV 0 (gE M) 0))) (nX) := by
  refine g_con hfl (by decide) (lv := [(0, .ref a)]) rfl rfl (Nat.le_of_ble_eq_true rfl) (fun X hX hC hR htb => ?_)
  refine g_aload_n (q := 1) (i := 0) hC dJx4a65c_init_da8c8_0 rfl rfl rfl ?_
  refine g_cv (q := 4) (g_runI hC ki_Jx4a65c_1 md_Jxc12de_init_da8c8 (c_AL_init _ hC.fl M _ a dv _ md hA) dJx4a65c_init_da8c8_1 (by decide) (by decide) (by omega) (by omega) rfl rfl (Nat.le_of_ble_eq_true rfl)) rfl (fun σ e1 => ?_) (fun _ _ h9 => False.elim h9)
  subst e1
  refine g_aload_n (q := 5) (i := 0) hC dJx4a65c_init_da8c8_4 rfl rfl rfl ?_
  refine g_getsE (q := 8) hC kt_Jx4a65c_39 dJx4a65c_init_da8c8_5 rfl ?_
  refine g_putf2 (q := 11) hC kf_Jx4a65c_9 dJx4a65c_init_da8c8_8 (Nat.le_of_ble_eq_true rfl) rfl rfl rfl ?_
  exact g_vret hC hR dJx4a65c_init_da8c8_11 (by omega) (by omega) (⟨rfl, rfl⟩)
set_option maxRecDepth 100000 in
set_option maxHeartbeats 4000000 in
theorem c_checkI3 (l : Launch) (hfl : l.stackTraces = false) (M : gMT) (σ : gS) (i n : Nat) (o : Option Nat) (hi : i < n) (hn : n < 2 ^ 31) : Con l M yJ3_checkIndex_8e157 (.code yJ3_checkIndex_8e157 cJ3_checkIndex_8e157 3 (Option.some FieldType.int)) 1 0 0 [.int (nI i), .int (nI n), va_rf o] σ (rI fun r σ2 => r = nI i ∧ σ2 = σ) (nX) := by
  refine g_con hfl (by decide) (lv := [(0, .int (nI i)), (1, .int (nI n)), (2, va_rf o)]) rfl (by cases o <;> rfl) (by cases o <;> exact Nat.le_of_ble_eq_true rfl) (fun X hX hC hR htb => ?_)
  refine g_iload_n (q := 1) (i := 0) hC dJ3_checkIndex_8e157_0 rfl rfl rfl ?_
  refine g_if_lt (tgt := 9) (q := 4) hC dJ3_checkIndex_8e157_1 (by decide) rfl (fun c_1 => ?_) (fun c_1 => ?_)
  · exact absurd c_1 (nI_pos (by omega))
  · refine g_iload_n (q := 5) (i := 0) hC dJ3_checkIndex_8e157_4 rfl rfl rfl ?_
    refine g_iload_n (q := 6) (i := 1) hC dJ3_checkIndex_8e157_5 rfl rfl rfl ?_
    refine g_icmp_lt (tgt := 16) (q := 9) hC dJ3_checkIndex_8e157_6 (by decide) rfl (fun c_6 => ?_) (fun c_6 => ?_)
    · refine g_iload_n (q := 17) (i := 0) hC dJ3_checkIndex_8e157_16 rfl rfl rfl ?_
      exact g_iret hC hR dJ3_checkIndex_8e157_17 (by omega) (by omega) (⟨_, rfl, rfl, rfl⟩)
    · exact absurd (nI_lt hi hn) c_6
set_option maxRecDepth 100000 in
set_option maxHeartbeats 4000000 in
theorem c_checkI (l : Launch) (hfl : l.stackTraces = false) (M : gMT) (σ : gS) (i n : Nat) (hi : i < n) (hn : n < 2 ^ 31) : Con l M yJ15_checkIndex_7cf53 (.code yJ15_checkIndex_7cf53 cJ15_checkIndex_7cf53 2 (Option.some FieldType.int)) 2 0 0 [.int (nI i), .int (nI n)] σ (rI fun r σ2 => r = nI i ∧ σ2 = σ) (nX) := by
  refine g_con hfl (by decide) (lv := [(0, .int (nI i)), (1, .int (nI n))]) rfl rfl (Nat.le_of_ble_eq_true rfl) (fun X hX hC hR htb => ?_)
  refine g_iload_n (q := 1) (i := 0) hC dJ15_checkIndex_7cf53_0 rfl rfl rfl ?_
  refine g_iload_n (q := 2) (i := 1) hC dJ15_checkIndex_7cf53_1 rfl rfl rfl ?_
  refine g_null (q := 3) hC dJ15_checkIndex_7cf53_2 rfl ?_
  refine g_ci (q := 6) (g_runS hC ks_J15_105 md_J3_checkIndex_8e157 (c_checkI3 _ hC.fl M _ i n none hi hn) dJ15_checkIndex_7cf53_3 (by decide) (by decide) (by omega) (by omega) rfl rfl (Nat.le_of_ble_eq_true rfl)) rfl (fun r σ ⟨e1, e2⟩ => ?_) (fun _ _ h9 => False.elim h9)
  subst e1 e2
  exact g_iret hC hR dJ15_checkIndex_7cf53_6 (by omega) (by omega) (⟨_, rfl, rfl, rfl⟩)
set_option maxRecDepth 100000 in
set_option maxHeartbeats 4000000 in
theorem c_size (l : Launch) (hfl : l.stackTraces = false) (M : gMT) (σ : gS) (a : Nat) (md : Int32) (dd c : Nat) (hA : σ a = some (oB 6 (lV md dd c))) : Con l M yJx4a65c_size_8abf5 (.code yJx4a65c_size_8abf5 cJx4a65c_size_8abf5 1 (Option.some FieldType.int)) 1 0 0 [.ref a] σ (rI fun r σ2 => r = nI c ∧ σ2 = σ) (nX) := by
  refine g_con hfl (by decide) (lv := [(0, .ref a)]) rfl rfl (Nat.le_of_ble_eq_true rfl) (fun X hX hC hR htb => ?_)
  refine g_aload_n (q := 1) (i := 0) hC dJx4a65c_size_8abf5_0 rfl rfl rfl ?_
  refine g_getf (q := 4) hC kg_Jx4a65c_48 dJx4a65c_size_8abf5_1 hA rfl rfl ?_
  exact g_iret hC hR dJx4a65c_size_8abf5_4 (by omega) (by omega) (⟨_, rfl, rfl, rfl⟩)
set_option maxRecDepth 100000 in
set_option maxHeartbeats 4000000 in
theorem c_elD (l : Launch) (hfl : l.stackTraces = false) (M : gMT) (σ : gS) (a : Nat) (md : Int32) (dd c n i : Nat) (f : Nat → Option Nat) (hA : σ a = some (oB 6 (lV md dd c))) (hD : σ dd = some (aQ M n f)) (hi : i < n) (hn : n < 2 ^ 31) : Con l M yJx4a65c_elementData_915e3 (.code yJx4a65c_elementData_915e3 cJx4a65c_elementData_915e3 2 (Option.some (FieldType.object "java/lang/Object"))) 1 0 0 [.ref a, .int (nI i)] σ (rQ fun r σ2 => r = f i ∧ σ2 = σ) (nX) := by
  refine g_con hfl (by decide) (lv := [(0, .ref a), (1, .int (nI i))]) rfl rfl (Nat.le_of_ble_eq_true rfl) (fun X hX hC hR htb => ?_)
  refine g_aload_n (q := 1) (i := 0) hC dJx4a65c_elementData_915e3_0 rfl rfl rfl ?_
  refine g_getf (q := 4) hC kg_Jx4a65c_9 dJx4a65c_elementData_915e3_1 hA rfl rfl ?_
  refine g_iload_n (q := 5) (i := 1) hC dJx4a65c_elementData_915e3_4 rfl rfl rfl ?_
  refine g_aald (q := 6) (v := f i) hC dJx4a65c_elementData_915e3_5 hD (vp_in_nI hi (by omega)) (by rw [nI_clamp (by omega)]) rfl ?_
  exact g_aret (o := f i) hC hR (Or.inl ⟨_, rfl⟩) dJx4a65c_elementData_915e3_6 (by omega) (by omega) (⟨_, rfl, rfl, rfl⟩)
set_option maxRecDepth 100000 in
set_option maxHeartbeats 4000000 in
theorem c_get (l : Launch) (hfl : l.stackTraces = false) (M : gMT) (σ : gS) (a : Nat) (md : Int32) (dd c n i y : Nat) (f : Nat → Option Nat) (hA : σ a = some (oB 6 (lV md dd c))) (hD : σ dd = some (aQ M n f)) (hi : i < c) (hc : c ≤ n) (hn : n < 2 ^ 31) (hy : f i = some y) : Con l M yJx4a65c_get_915e3 (.code yJx4a65c_get_915e3 cJx4a65c_get_915e3 2 (Option.some (FieldType.object "java/lang/Object"))) 3 0 0 [.ref a, .int (nI i)] σ (rR fun r σ2 => r = y ∧ σ2 = σ) (nX) := by
  refine g_con hfl (by decide) (lv := [(0, .ref a), (1, .int (nI i))]) rfl rfl (Nat.le_of_ble_eq_true rfl) (fun X hX hC hR htb => ?_)
  refine g_iload_n (q := 1) (i := 1) hC dJx4a65c_get_915e3_0 rfl rfl rfl ?_
  refine g_aload_n (q := 2) (i := 0) hC dJx4a65c_get_915e3_1 rfl rfl rfl ?_
  refine g_getf (q := 5) hC kg_Jx4a65c_48 dJx4a65c_get_915e3_2 hA rfl rfl ?_
  refine g_ci (q := 8) (g_runS hC ks_Jx4a65c_118 md_J15_checkIndex_7cf53 (c_checkI _ hC.fl M _ i c hi (by omega)) dJx4a65c_get_915e3_5 (by decide) (by decide) (by omega) (by omega) rfl rfl (Nat.le_of_ble_eq_true rfl)) rfl (fun r σ ⟨e1, e2⟩ => ?_) (fun _ _ h9 => False.elim h9)
  subst e1 e2
  refine g_pop (q := 9) hC dJx4a65c_get_915e3_8 rfl rfl ?_
  refine g_aload_n (q := 10) (i := 0) hC dJx4a65c_get_915e3_9 rfl rfl rfl ?_
  refine g_iload_n (q := 11) (i := 1) hC dJx4a65c_get_915e3_10 rfl rfl rfl ?_
  refine g_cq (q := 14) (g_runV hC kv_Jx4a65c_123 md_Jx4a65c_elementData_915e3 (c_elD _ hC.fl M _ a md dd c n i f hA hD (by omega) hn) (ci := 6) rfl hA dJx4a65c_get_915e3_11 (by decide) (by decide) (by omega) (by omega) rfl rfl (Nat.le_of_ble_eq_true rfl)) rfl (fun o σ ⟨e1, e2⟩ => ?_) (fun _ _ h9 => False.elim h9)
  subst e1 e2
  exact g_aret (o := f i) hC hR (Or.inl ⟨_, rfl⟩) dJx4a65c_get_915e3_14 (by omega) (by omega) (⟨y, by rw [hy]; rfl, rfl, rfl⟩)
set_option maxRecDepth 100000 in
set_option maxHeartbeats 4000000 in
theorem c_newLen (l : Launch) (hfl : l.stackTraces = false) (M : gMT) (σ : gS) (n p9 : Nat) (hn : n ≤ 1000) (hp : p9 ≤ 1000) : Con l M yJ8_newLength_cabcc (.code yJ8_newLength_cabcc cJ8_newLength_cabcc 4 (Option.some FieldType.int)) 1 0 0 [.int (nI n), .int (nI 1), .int (nI p9)] σ (rI fun r σ2 => r = nI (n + max 1 p9) ∧ σ2 = σ) (nX) := by
  refine g_con hfl (by decide) (lv := [(0, .int (nI n)), (1, .int (nI 1)), (2, .int (nI p9))]) rfl rfl (Nat.le_of_ble_eq_true rfl) (fun X hX hC hR htb => ?_)
  refine g_iload_n (q := 1) (i := 0) hC dJ8_newLength_cabcc_0 rfl rfl rfl ?_
  refine g_iload_n (q := 2) (i := 1) hC dJ8_newLength_cabcc_1 rfl rfl rfl ?_
  refine g_iload_n (q := 3) (i := 2) hC dJ8_newLength_cabcc_2 rfl rfl rfl ?_
  refine g_max (q := 6) hC ks_J8_194 md_J9_max_7cf53 dJ8_newLength_cabcc_3 (by decide) (Nat.le_of_ble_eq_true rfl) (by omega) (by omega) rfl ?_
  refine g_top (y := nI (max 1 p9)) ?_ ?_
  · unfold iMax
    by_cases c9 : 1 < p9
    · rw [if_pos (nI_lt c9 (by omega)), Nat.max_eq_right (by omega)]
    · rw [if_neg (nI_nlt (by omega) (by omega)), Nat.max_eq_left (by omega)]
  refine g_iadd (q := 7) (v := nI (n + (max 1 p9))) hC dJ8_newLength_cabcc_6 (nI_add _ _) rfl ?_
  refine g_istore_n (q := 8) (i := 3) hC dJ8_newLength_cabcc_7 rfl (by decide) rfl ?_
  refine g_iconst (q := 9) (v := nI 0) hC dJ8_newLength_cabcc_8 rfl rfl ?_
  refine g_iload_n (q := 10) (i := 3) hC dJ8_newLength_cabcc_9 rfl rfl rfl ?_
  refine g_icmp_ge (tgt := 21) (q := 13) hC dJ8_newLength_cabcc_10 (by decide) rfl (fun c_10 => ?_) (fun c_10 => ?_)
  · exact absurd c_10 (fun h => absurd h (fun h => by have := (nI_leI (a := n + max 1 p9) (b := 0) (by omega) (by omega)).mp h; omega))
  · refine g_iload_n (q := 14) (i := 3) hC dJ8_newLength_cabcc_13 rfl rfl rfl ?_
    refine g_ldc (q := 16) hC kk_J8_200 dJ8_newLength_cabcc_14 rfl ?_
    refine g_icmp_gt (tgt := 21) (q := 19) hC dJ8_newLength_cabcc_16 (by decide) rfl (fun c_16 => ?_) (fun c_16 => ?_)
    · exact absurd c_16 (by
        have e : (2147483639 : Int32) = nI 2147483639 := rfl
        rw [e]
        exact nI_nlt (by omega) (by omega))
    · refine g_iload_n (q := 20) (i := 3) hC dJ8_newLength_cabcc_19 rfl rfl rfl ?_
      exact g_iret hC hR dJ8_newLength_cabcc_20 (by omega) (by omega) (⟨_, rfl, rfl, rfl⟩)

theorem upn_ne {σ : gS} {a b : Nat} {e : va_E} (ha : σ a = some e) (hb : σ b = none) : a ≠ b := fun z => by rw [z, hb] at ha; cases ha
set_option maxRecDepth 100000 in
set_option maxHeartbeats 4000000 in
theorem c_copyOf3 (l : Launch) (hfl : l.stackTraces = false) (M : gMT) (σ : gS) (ms9 a n m9 : Nat) (f : Nat → Option Nat) (hA : σ a = some (aQ M n f)) (hn : n ≤ m9) (hm : m9 ≤ 200) (hms : m9 ≤ ms9) (hel : ∀ i, i < n → ∀ y, f i = some y → gObj σ y) : Con l M yJ7_copyOf_6403c (.code yJ7_copyOf_6403c cJ7_copyOf_6403c 4 (Option.some (FieldType.array (FieldType.object "java/lang/Object")))) 2 1 ms9 [.ref a, .int (nI m9), .ref (gMi M)] σ (rR fun r σ2 => σ r = none ∧ σ2 = gUp σ r (aQ M m9 (va_cpy f (fun _ => none) 0 0 n))) (nX) := by
  refine g_con hfl (by decide) (lv := [(0, .ref a), (1, .int (nI m9)), (2, .ref (gMi M))]) rfl rfl (Nat.le_of_ble_eq_true rfl) (fun X hX hC hR htb => ?_)
  refine g_aload_n (q := 1) (i := 2) hC dJ7_copyOf_6403c_0 rfl rfl rfl ?_
  refine g_ldcM (q := 3) hC kc_J7_110 dJ7_copyOf_6403c_1 rfl ?_
  refine g_acmp_ne (rx := some (gMi M)) (ry := some (gMi M)) (tgt := 13) (q := 6) hC dJ7_copyOf_6403c_3 (by decide) rfl (fun c9 => absurd rfl c9) (fun _ => ?_)
  refine g_iload_n (q := 7) (i := 1) hC dJ7_copyOf_6403c_6 rfl rfl rfl ?_
  refine g_anew (q := 10) (len := m9) hC kc_J7_2 dJ7_copyOf_6403c_7 (nI_pos (by omega)) (nI_clamp (by omega)) (by omega) (by omega) (by omega) rfl (fun b hb => ?_)
  have hA2 : (gUp σ b (aQ M m9 (fun _ => none))) a = some (aQ M n f) := by rw [gUp_ne _ _ (upn_ne hA hb)]; exact hA
  refine g_goto (tgt := 24) hC dJ7_copyOf_6403c_10 (by decide) ?_
  refine g_astore_n (q := 25) (i := 3) hC dJ7_copyOf_6403c_24 rfl (by decide) rfl ?_
  refine g_aload_n (q := 26) (i := 0) hC dJ7_copyOf_6403c_25 rfl rfl rfl ?_
  refine g_iconst (q := 27) (v := nI 0) hC dJ7_copyOf_6403c_26 rfl rfl ?_
  refine g_aload_n (q := 28) (i := 3) hC dJ7_copyOf_6403c_27 rfl rfl rfl ?_
  refine g_iconst (q := 29) (v := nI 0) hC dJ7_copyOf_6403c_28 rfl rfl ?_
  refine g_aload_n (q := 30) (i := 0) hC dJ7_copyOf_6403c_29 rfl rfl rfl ?_
  refine g_alenQ (q := 31) (v := nI n) hC dJ7_copyOf_6403c_30 hA2 rfl rfl ?_
  refine g_iload_n (q := 32) (i := 1) hC dJ7_copyOf_6403c_31 rfl rfl rfl ?_
  refine g_min (q := 35) hC ks_J7_304 md_J9_min_7cf53 dJ7_copyOf_6403c_32 (by decide) (Nat.le_of_ble_eq_true rfl) (by omega) (by omega) rfl ?_
  refine g_top (y := nI n) ?_ ?_
  · unfold iMin
    rcases Nat.lt_or_ge m9 n with c9 | c9
    · omega
    · rw [if_neg (nI_nlt (by omega) (by omega))]
  refine g_copyQ (q := 38) (s9 := 0) (d9 := 0) (l9 := n) hC kq_J7_150 dJ7_copyOf_6403c_35 hA2 (gUp_self _ _ _) ⟨nI_pos (by omega), nI_clamp (by omega)⟩ ⟨nI_pos (by omega), nI_clamp (by omega)⟩ ⟨nI_pos (by omega), nI_clamp (by omega)⟩ (by omega) (by omega) ?_ (by decide) (Nat.le_of_ble_eq_true rfl) rfl ?_
  · intro i hi y hy
    rw [Nat.zero_add] at hy
    obtain ⟨ci, fs, h1, h2⟩ := hel i hi y hy
    exact gObj.el ⟨ci, fs, h1, by rw [gUp_ne _ _ (upn_ne h2 hb)]; exact h2⟩
  rw [gUp_up]
  refine g_aload_n (q := 39) (i := 3) hC dJ7_copyOf_6403c_38 rfl rfl rfl ?_
  refine g_widen (k9 := 1) (n9 := ms9) (by omega) (by omega) ?_
  exact g_aret (o := some b) hC hR (Or.inr ⟨_, rfl⟩) dJ7_copyOf_6403c_39 (by omega) (by omega) (⟨b, rfl, hb, rfl⟩)
set_option maxRecDepth 100000 in
set_option maxHeartbeats 4000000 in
theorem c_copyOf2 (l : Launch) (hfl : l.stackTraces = false) (M : gMT) (σ : gS) (ms9 a n m9 : Nat) (f : Nat → Option Nat) (hA : σ a = some (aQ M n f)) (hn : n ≤ m9) (hm : m9 ≤ 200) (hms : m9 ≤ ms9) (hel : ∀ i, i < n → ∀ y, f i = some y → gObj σ y) : Con l M yJ7_copyOf_1904c (.code yJ7_copyOf_1904c cJ7_copyOf_1904c 2 (Option.some (FieldType.array (FieldType.object "java/lang/Object")))) 3 1 ms9 [.ref a, .int (nI m9)] σ (rR fun r σ2 => σ r = none ∧ σ2 = gUp σ r (aQ M m9 (va_cpy f (fun _ => none) 0 0 n))) (nX) := by
  refine g_con hfl (by decide) (lv := [(0, .ref a), (1, .int (nI m9))]) rfl rfl (Nat.le_of_ble_eq_true rfl) (fun X hX hC hR htb => ?_)
  refine g_aload_n (q := 1) (i := 0) hC dJ7_copyOf_1904c_0 rfl rfl rfl ?_
  refine g_iload_n (q := 2) (i := 1) hC dJ7_copyOf_1904c_1 rfl rfl rfl ?_
  refine g_aload_n (q := 3) (i := 0) hC dJ7_copyOf_1904c_2 rfl rfl rfl ?_
  refine g_getC (q := 6) hC kq_J7_86 dJ7_copyOf_1904c_3 hA (by decide) (Nat.le_of_ble_eq_true rfl) rfl ?_
  refine g_cr (q := 9) (g_runS hC ks_J7_300 md_J7_copyOf_6403c (c_copyOf3 _ hC.fl M _ ms9 a n m9 f hA hn hm hms hel) dJ7_copyOf_1904c_6 (by decide) (by decide) (by omega) (by omega) rfl rfl (Nat.le_of_ble_eq_true rfl)) rfl (fun r σ2 ⟨h1, h2⟩ => ?_) (fun _ _ h9 => False.elim h9)
  exact g_aret (o := some r) hC hR (Or.inr ⟨_, rfl⟩) dJ7_copyOf_1904c_9 (by omega) (by omega) (⟨r, rfl, h1, h2⟩)

def gGrow (n : Nat) : Nat := if n = 0 then 10 else n + max 1 (n / 2)
theorem gGrow_lt {n : Nat} : n < gGrow n := by
  unfold gGrow
  split <;> omega
theorem gGrow_le {n : Nat} (h : n ≤ 60) : gGrow n ≤ 90 := by
  unfold gGrow
  split <;> omega
/-- a list's array: its own, or the empty one -/
def gArr (M : gMT) (σ : gS) (dd n : Nat) (f : Nat → Option Nat) : Prop := (0 < n ∧ σ dd = some (aQ M n f)) ∨ (n = 0 ∧ dd = gE M)
set_option maxRecDepth 100000 in
set_option maxHeartbeats 4000000 in
theorem c_grow1 (l : Launch) (hfl : l.stackTraces = false) (M : gMT) (σ : gS) (ms9 a n dd : Nat) (md : Int32) (f : Nat → Option Nat) (hA : σ a = some (oB 6 (lV md dd n))) (hD : gArr M σ dd n f) (hn : n ≤ 60) (hms : gGrow n ≤ ms9) (hel : ∀ i, i < n → ∀ y, f i = some y → gObj σ y) : Con l M yJx4a65c_grow_92f84 (.code yJx4a65c_grow_92f84 cJx4a65c_grow_92f84 4 (Option.some (FieldType.array (FieldType.object "java/lang/Object")))) 4 1 ms9 [.ref a, .int (nI (n + 1))] σ (rR fun r σ2 => σ r = none ∧ σ2 = gUp (gUp σ r (aQ M (gGrow n) (va_cpy f (fun _ => none) 0 0 n))) a (oB 6 (lV md r n))) (nX) := by
  refine g_con hfl (by decide) (lv := [(0, .ref a), (1, .int (nI (n + 1)))]) rfl rfl (Nat.le_of_ble_eq_true rfl) (fun X hX hC hR htb => ?_)
  rcases hD with ⟨hn0, hD⟩ | ⟨rfl, rfl⟩
  · refine g_aload_n (q := 1) (i := 0) hC dJx4a65c_grow_92f84_0 rfl rfl rfl ?_
    refine g_getf (q := 4) hC kg_Jx4a65c_9 dJx4a65c_grow_92f84_1 hA rfl rfl ?_
    refine g_alenQ (q := 5) (v := nI n) hC dJx4a65c_grow_92f84_4 hD rfl rfl ?_
    refine g_istore_n (q := 6) (i := 2) hC dJx4a65c_grow_92f84_5 rfl (by decide) rfl ?_
    refine g_iload_n (q := 7) (i := 2) hC dJx4a65c_grow_92f84_6 rfl rfl rfl ?_
    refine g_if_gt (tgt := 20) (q := 10) hC dJx4a65c_grow_92f84_7 (by decide) rfl (fun c_7 => ?_) (fun c_7 => ?_)
    · skip
      refine g_iload_n (q := 21) (i := 2) hC dJx4a65c_grow_92f84_20 rfl rfl rfl ?_
      refine g_iload_n (q := 22) (i := 1) hC dJx4a65c_grow_92f84_21 rfl rfl rfl ?_
      refine g_iload_n (q := 23) (i := 2) hC dJx4a65c_grow_92f84_22 rfl rfl rfl ?_
      refine g_isub (q := 24) (v := nI 1) hC dJx4a65c_grow_92f84_23 (by rw [pk_sub (by omega), Nat.add_sub_cancel_left]) rfl ?_
      refine g_iload_n (q := 25) (i := 2) hC dJx4a65c_grow_92f84_24 rfl rfl rfl ?_
      refine g_iconst (q := 26) (v := nI 1) hC dJx4a65c_grow_92f84_25 rfl rfl ?_
      refine g_ishr (q := 27) (v := nI (n / 2)) hC dJx4a65c_grow_92f84_26 (by
        have k := pk_shrN (n := n) (by omega) ((1 : Int32) &&& 31) 1 (by decide)
        rw [Nat.pow_one] at k
        exact k) rfl ?_
      refine g_ci (q := 30) (g_runS hC ks_Jx4a65c_73 md_J8_newLength_cabcc (c_newLen _ hC.fl M _ n (n / 2) (by omega) (by omega)) dJx4a65c_grow_92f84_27 (by decide) (by decide) (by omega) (by omega) rfl rfl (Nat.le_of_ble_eq_true rfl)) rfl (fun r σ ⟨e1, e2⟩ => ?_) (fun _ _ h9 => False.elim h9)
      subst e1 e2
      refine g_istore_n (q := 31) (i := 3) hC dJx4a65c_grow_92f84_30 rfl (by decide) rfl ?_
      refine g_aload_n (q := 32) (i := 0) hC dJx4a65c_grow_92f84_31 rfl rfl rfl ?_
      refine g_aload_n (q := 33) (i := 0) hC dJx4a65c_grow_92f84_32 rfl rfl rfl ?_
      refine g_getf (q := 36) hC kg_Jx4a65c_9 dJx4a65c_grow_92f84_33 hA rfl rfl ?_
      refine g_iload_n (q := 37) (i := 3) hC dJx4a65c_grow_92f84_36 rfl rfl rfl ?_
      refine g_cr (q := 40) (g_runS hC ks_Jx4a65c_66 md_J7_copyOf_1904c (c_copyOf2 _ hC.fl M _ ms9 dd n (n + max 1 (n / 2)) f hD (by omega) (by omega) (by rw [gGrow, if_neg (by omega)] at hms; exact hms) hel) dJx4a65c_grow_92f84_37 (by decide) (by decide) (by omega) (by omega) rfl rfl (Nat.le_of_ble_eq_true rfl)) rfl (fun r σ2 ⟨h1, h2⟩ => ?_) (fun _ _ h9 => False.elim h9)
      subst h2
      have hA2 : (gUp σ r (aQ M (n + max 1 (n / 2)) (va_cpy f (fun _ => none) 0 0 n))) a = some (oB 6 (lV md dd n)) := by rw [gUp_ne _ _ (upn_ne hA h1)]; exact hA
      refine g_dup_x1 (q := 41) hC dJx4a65c_grow_92f84_40 rfl rfl rfl ?_
      refine g_putf (q := 44) hC kf_Jx4a65c_9 dJx4a65c_grow_92f84_41 hA2 (Nat.le_of_ble_eq_true rfl) rfl rfl rfl ?_
      have eg : gGrow n = n + max 1 (n / 2) := if_neg (by omega)
      exact g_aret (o := some r) hC hR (Or.inr ⟨_, rfl⟩) dJx4a65c_grow_92f84_44 (by omega) (by omega) (⟨r, rfl, h1, by rw [eg]; rfl⟩)
    · exact absurd (nI_lt hn0 (by omega)) c_7
  · skip
    refine g_aload_n (q := 1) (i := 0) hC dJx4a65c_grow_92f84_0 rfl rfl rfl ?_
    refine g_getf (q := 4) hC kg_Jx4a65c_9 dJx4a65c_grow_92f84_1 hA rfl rfl ?_
    refine g_alenE (q := 5) hC dJx4a65c_grow_92f84_4 rfl ?_
    refine g_istore_n (q := 6) (i := 2) hC dJx4a65c_grow_92f84_5 rfl (by decide) rfl ?_
    refine g_iload_n (q := 7) (i := 2) hC dJx4a65c_grow_92f84_6 rfl rfl rfl ?_
    refine g_if_gt (tgt := 20) (q := 10) hC dJx4a65c_grow_92f84_7 (by decide) rfl (fun c_7 => ?_) (fun c_7 => ?_)
    · exact absurd c_7 (by decide)
    · refine g_aload_n (q := 11) (i := 0) hC dJx4a65c_grow_92f84_10 rfl rfl rfl ?_
      refine g_getf (q := 14) hC kg_Jx4a65c_9 dJx4a65c_grow_92f84_11 hA rfl rfl ?_
      refine g_getsE (q := 17) hC kt_Jx4a65c_39 dJx4a65c_grow_92f84_14 rfl ?_
      refine g_acmp_eq (rx := some (gE M)) (ry := some (gE M)) (tgt := 45) (q := 20) hC dJx4a65c_grow_92f84_17 (by decide) rfl (fun _ => ?_) (fun c9 => absurd rfl c9)
      refine g_aload_n (q := 46) (i := 0) hC dJx4a65c_grow_92f84_45 rfl rfl rfl ?_
      refine g_bipush (q := 48) (v := nI 10) hC dJx4a65c_grow_92f84_46 rfl rfl ?_
      refine g_iload_n (q := 49) (i := 1) hC dJx4a65c_grow_92f84_48 rfl rfl rfl ?_
      refine g_max (q := 52) hC ks_Jx4a65c_79 md_J9_max_7cf53 dJx4a65c_grow_92f84_49 (by decide) (Nat.le_of_ble_eq_true rfl) (by omega) (by omega) rfl ?_
      have hms : 10 ≤ ms9 := hms
      refine g_top (y := nI 10) (by decide) ?_
      refine g_anew (q := 55) (len := 10) hC kc_Jx4a65c_7 dJx4a65c_grow_92f84_52 (by decide) (by decide) (by omega) (by omega) (by omega) rfl (fun b hb => ?_)
      have hA2 : (gUp σ b (aQ M 10 (fun _ => none))) a = some (oB 6 (lV md (gE M) 0)) := by rw [gUp_ne _ _ (upn_ne hA hb)]; exact hA
      refine g_dup_x1 (q := 56) hC dJx4a65c_grow_92f84_55 rfl rfl rfl ?_
      refine g_putf (q := 59) hC kf_Jx4a65c_9 dJx4a65c_grow_92f84_56 hA2 (Nat.le_of_ble_eq_true rfl) rfl rfl rfl ?_
      refine g_widen (k9 := 1) (n9 := ms9) (by omega) (by omega) ?_
      have ec : va_cpy f (fun _ => none) 0 0 0 = fun _ => none := by
        funext j
        exact pk_cpy_out (by omega)
      exact g_aret (o := some b) hC hR (Or.inr ⟨_, rfl⟩) dJx4a65c_grow_92f84_59 (by omega) (by omega) (⟨b, rfl, hb, by rw [ec]; rfl⟩)
set_option maxRecDepth 100000 in
set_option maxHeartbeats 4000000 in
theorem c_grow0 (l : Launch) (hfl : l.stackTraces = false) (M : gMT) (σ : gS) (ms9 a n dd : Nat) (md : Int32) (f : Nat → Option Nat) (hA : σ a = some (oB 6 (lV md dd n))) (hD : gArr M σ dd n f) (hn : n ≤ 60) (hms : gGrow n ≤ ms9) (hel : ∀ i, i < n → ∀ y, f i = some y → gObj σ y) : Con l M yJx4a65c_grow_d5877 (.code yJx4a65c_grow_d5877 cJx4a65c_grow_d5877 1 (Option.some (FieldType.array (FieldType.object "java/lang/Object")))) 5 1 ms9 [.ref a] σ (rR fun r σ2 => σ r = none ∧ σ2 = gUp (gUp σ r (aQ M (gGrow n) (va_cpy f (fun _ => none) 0 0 n))) a (oB 6 (lV md r n))) (nX) := by
  refine g_con hfl (by decide) (lv := [(0, .ref a)]) rfl rfl (Nat.le_of_ble_eq_true rfl) (fun X hX hC hR htb => ?_)
  refine g_aload_n (q := 1) (i := 0) hC dJx4a65c_grow_d5877_0 rfl rfl rfl ?_
  refine g_aload_n (q := 2) (i := 0) hC dJx4a65c_grow_d5877_1 rfl rfl rfl ?_
  refine g_getf (q := 5) hC kg_Jx4a65c_48 dJx4a65c_grow_d5877_2 hA rfl rfl ?_
  refine g_iconst (q := 6) (v := nI 1) hC dJx4a65c_grow_d5877_5 rfl rfl ?_
  refine g_iadd (q := 7) (v := nI (n + 1)) hC dJx4a65c_grow_d5877_6 (nI_add _ _) rfl ?_
  refine g_cr (q := 10) (g_runV hC kv_Jx4a65c_69 md_Jx4a65c_grow_92f84 (c_grow1 _ hC.fl M _ ms9 a n dd md f hA hD hn hms hel) (ci := 6) rfl hA dJx4a65c_grow_d5877_7 (by decide) (by decide) (by omega) (by omega) rfl rfl (Nat.le_of_ble_eq_true rfl)) rfl (fun r σ2 ⟨h1, h2⟩ => ?_) (fun _ _ h9 => False.elim h9)
  exact g_aret (o := some r) hC hR (Or.inr ⟨_, rfl⟩) dJx4a65c_grow_d5877_10 (by omega) (by omega) (⟨r, rfl, h1, h2⟩)

theorem gObj_up {σ : gS} {a : Nat} {l l2 : List Value} {y : Nat} (ha : σ a = some (oB 6 l)) (h : gObj σ y) : gObj (gUp σ a (oB 6 l2)) y := by
  obtain ⟨ci, fs, h1, h2⟩ := h
  refine ⟨ci, fs, h1, ?_⟩
  rw [gUp_ne]
  · exact h2
  · intro e
    rw [e, ha] at h2
    cases h2
    omega
/-- what add leaves: the list with one element more; other cells are the same -/
def gAdded (M : gMT) (σ σ2 : gS) (a : Nat) (md : Int32) (dd n c e : Nat) (f : Nat → Option Nat) (d2 n2 : Nat) : Prop :=
  ∃ f2 : Nat → Option Nat, σ2 a = some (oB 6 (lV md d2 (c + 1))) ∧ σ2 d2 = some (aQ M n2 f2) ∧ (∀ i, i < c → f2 i = f i) ∧ f2 c = some e ∧ c < n2 ∧ ((d2 = dd ∧ n2 = n) ∨ (σ d2 = none ∧ n = c ∧ n2 = gGrow c)) ∧ ∀ b, b ≠ a → b ≠ d2 → σ2 b = σ b
set_option maxRecDepth 100000 in
set_option maxHeartbeats 4000000 in
theorem c_add3r (l : Launch) (hfl : l.stackTraces = false) (M : gMT) (σ : gS) (a n dd c e : Nat) (md : Int32) (f : Nat → Option Nat) (hA : σ a = some (oB 6 (lV md dd c))) (hD : σ dd = some (aQ M n f)) (hc : c < n) (hn : n < 1000) (he : gObj σ e) : Con l M yJx4a65c_add_72be8 (.code yJx4a65c_add_72be8 cJx4a65c_add_72be8 4 (Option.none : Option FieldType)) 6 0 0 [.ref a, .ref e, .ref dd, .int (nI c)] σ (rV fun σ2 => gAdded M σ σ2 a md dd n c e f dd n) (nX) := by
  refine g_con hfl (by decide) (lv := [(0, .ref a), (1, .ref e), (2, .ref dd), (3, .int (nI c))]) rfl rfl (Nat.le_of_ble_eq_true rfl) (fun X hX hC hR htb => ?_)
  refine g_iload_n (q := 1) (i := 3) hC dJx4a65c_add_72be8_0 rfl rfl rfl ?_
  refine g_aload_n (q := 2) (i := 2) hC dJx4a65c_add_72be8_1 rfl rfl rfl ?_
  refine g_alenQ (q := 3) (v := nI n) hC dJx4a65c_add_72be8_2 hD rfl rfl ?_
  refine g_icmp_ne (tgt := 11) (q := 6) hC dJx4a65c_add_72be8_3 (by decide) rfl (fun c_3 => ?_) (fun c_3 => ?_)
  · refine g_aload_n (q := 12) (i := 2) hC dJx4a65c_add_72be8_11 rfl rfl rfl ?_
    refine g_iload_n (q := 13) (i := 3) hC dJx4a65c_add_72be8_12 rfl rfl rfl ?_
    refine g_aload_n (q := 14) (i := 1) hC dJx4a65c_add_72be8_13 rfl rfl rfl ?_
    obtain ⟨ci, C, T, N, fs, e1, e2, e3⟩ := gObj.el he
    refine g_aast (q := 15) hC dJx4a65c_add_72be8_14 hD e3 e1 e2 (vp_in_nI hc (by omega)) rfl ?_
    rw [nI_clamp (by omega)]
    have hne : a ≠ dd := fun z => by rw [z, hD] at hA; cases hA
    have hA2 : (gUp σ dd (aQ M n (va_up f c (some e)))) a = some (oB 6 (lV md dd c)) := by rw [gUp_ne _ _ hne]; exact hA
    refine g_aload_n (q := 16) (i := 0) hC dJx4a65c_add_72be8_15 rfl rfl rfl ?_
    refine g_iload_n (q := 17) (i := 3) hC dJx4a65c_add_72be8_16 rfl rfl rfl ?_
    refine g_iconst (q := 18) (v := nI 1) hC dJx4a65c_add_72be8_17 rfl rfl ?_
    refine g_iadd (q := 19) (v := nI (c + 1)) hC dJx4a65c_add_72be8_18 (nI_add _ _) rfl ?_
    refine g_putf (q := 22) hC kf_Jx4a65c_48 dJx4a65c_add_72be8_19 hA2 (Nat.le_of_ble_eq_true rfl) rfl rfl rfl ?_
    exact g_vret hC hR dJx4a65c_add_72be8_22 (by omega) (by omega) (⟨rfl, va_up f c (some e), by rw [gUp_self]; rfl, by rw [gUp_ne _ _ (Ne.symm hne), gUp_self], fun i hi => va_up_ne _ _ (by omega), va_up_self _ _ _, hc, Or.inl ⟨rfl, rfl⟩, fun b h1 h2 => by rw [gUp_ne _ _ h1, gUp_ne _ _ h2]⟩)
  · exact absurd c_3 (fun h => by have := (nI_eq (a := c) (b := n) (by omega) (by omega)).mp h; omega)
set_option maxRecDepth 100000 in
set_option maxHeartbeats 4000000 in
theorem c_add3g (l : Launch) (hfl : l.stackTraces = false) (M : gMT) (σ : gS) (ms9 a dd c e : Nat) (md : Int32) (f : Nat → Option Nat) (hA : σ a = some (oB 6 (lV md dd c))) (hD : gArr M σ dd c f) (hn : c ≤ 60) (hms : gGrow c ≤ ms9) (hel : ∀ i, i < c → ∀ y, f i = some y → gObj σ y) (he : gObj σ e) : Con l M yJx4a65c_add_72be8 (.code yJx4a65c_add_72be8 cJx4a65c_add_72be8 4 (Option.none : Option FieldType)) 6 1 ms9 [.ref a, .ref e, .ref dd, .int (nI c)] σ (rV fun σ2 => ∃ d2, gAdded M σ σ2 a md dd c c e f d2 (gGrow c)) (nX) := by
  refine g_con hfl (by decide) (lv := [(0, .ref a), (1, .ref e), (2, .ref dd), (3, .int (nI c))]) rfl rfl (Nat.le_of_ble_eq_true rfl) (fun X hX hC hR htb => ?_)
  have hlen : ∀ lv st, G X M 4 (gQ X M 1 ms9 (rV fun σ2 => ∃ d2, gAdded M σ σ2 a md dd c c e f d2 (gGrow c)) nX) 0 0 σ 3 lv (.int (nI c) :: st) → G X M 4 (gQ X M 1 ms9 (rV fun σ2 => ∃ d2, gAdded M σ σ2 a md dd c c e f d2 (gGrow c)) nX) 0 0 σ 2 lv (.ref dd :: st) := by
    intro lv st kk
    rcases hD with ⟨h0, hD⟩ | ⟨rfl, rfl⟩
    · exact g_alenQ (q := 3) (v := nI c) hC dJx4a65c_add_72be8_2 hD rfl rfl kk
    · exact g_alenE (q := 3) hC dJx4a65c_add_72be8_2 rfl kk
  refine g_iload_n (q := 1) (i := 3) hC dJx4a65c_add_72be8_0 rfl rfl rfl ?_
  refine g_aload_n (q := 2) (i := 2) hC dJx4a65c_add_72be8_1 rfl rfl rfl ?_
  refine hlen _ _ ?_
  refine g_icmp_ne (tgt := 11) (q := 6) hC dJx4a65c_add_72be8_3 (by decide) rfl (fun c_3 => ?_) (fun c_3 => ?_)
  · exact absurd rfl c_3
  · refine g_aload_n (q := 7) (i := 0) hC dJx4a65c_add_72be8_6 rfl rfl rfl ?_
    refine g_cr (q := 10) (g_runV hC kv_Jx4a65c_129 md_Jx4a65c_grow_d5877 (c_grow0 _ hC.fl M _ ms9 a c dd md f hA hD hn hms hel) (ci := 6) rfl hA dJx4a65c_add_72be8_7 (by decide) (by decide) (by omega) (by omega) rfl rfl (Nat.le_of_ble_eq_true rfl)) rfl (fun b σ2 ⟨h1, h2⟩ => ?_) (fun _ _ h9 => False.elim h9)
    subst h2
    have hne : a ≠ b := upn_ne hA h1
    have hA2 : (gUp (gUp σ b (aQ M (gGrow c) (va_cpy f (fun _ => none) 0 0 c))) a (oB 6 (lV md b c))) a = some (oB 6 (lV md b c)) := gUp_self _ _ _
    have hD2 : (gUp (gUp σ b (aQ M (gGrow c) (va_cpy f (fun _ => none) 0 0 c))) a (oB 6 (lV md b c))) b = some (aQ M (gGrow c) (va_cpy f (fun _ => none) 0 0 c)) := by rw [gUp_ne _ _ (Ne.symm hne), gUp_self]
    refine g_astore_n (q := 11) (i := 2) hC dJx4a65c_add_72be8_10 rfl (by decide) rfl ?_
    refine g_aload_n (q := 12) (i := 2) hC dJx4a65c_add_72be8_11 rfl rfl rfl ?_
    refine g_iload_n (q := 13) (i := 3) hC dJx4a65c_add_72be8_12 rfl rfl rfl ?_
    refine g_aload_n (q := 14) (i := 1) hC dJx4a65c_add_72be8_13 rfl rfl rfl ?_
    have he2 : gObj (gUp (gUp σ b (aQ M (gGrow c) (va_cpy f (fun _ => none) 0 0 c))) a (oB 6 (lV md b c))) e := by
      obtain ⟨ci, fs, g1, g2⟩ := he
      refine gObj_up (l := lV md dd c) (by rw [gUp_ne _ _ hne]; exact hA) ⟨ci, fs, g1, ?_⟩
      rw [gUp_ne _ _ (upn_ne g2 h1)]
      exact g2
    obtain ⟨ci, C, T, N, fs, e1, e2, e3⟩ := gObj.el he2
    have hgl := gGrow_lt (n := c)
    have hg9 := gGrow_le hn
    refine g_aast (q := 15) hC dJx4a65c_add_72be8_14 hD2 e3 e1 e2 (vp_in_nI hgl (by omega)) rfl ?_
    rw [nI_clamp (by omega)]
    have hA3 : (gUp (gUp (gUp σ b (aQ M (gGrow c) (va_cpy f (fun _ => none) 0 0 c))) a (oB 6 (lV md b c))) b (aQ M (gGrow c) (va_up (va_cpy f (fun _ => none) 0 0 c) c (some e)))) a = some (oB 6 (lV md b c)) := by rw [gUp_ne _ _ hne, gUp_self]
    refine g_aload_n (q := 16) (i := 0) hC dJx4a65c_add_72be8_15 rfl rfl rfl ?_
    refine g_iload_n (q := 17) (i := 3) hC dJx4a65c_add_72be8_16 rfl rfl rfl ?_
    refine g_iconst (q := 18) (v := nI 1) hC dJx4a65c_add_72be8_17 rfl rfl ?_
    refine g_iadd (q := 19) (v := nI (c + 1)) hC dJx4a65c_add_72be8_18 (nI_add _ _) rfl ?_
    refine g_putf (q := 22) hC kf_Jx4a65c_48 dJx4a65c_add_72be8_19 hA3 (Nat.le_of_ble_eq_true rfl) rfl rfl rfl ?_
    exact g_vret hC hR dJx4a65c_add_72be8_22 (by omega) (by omega) (⟨rfl, b, va_up (va_cpy f (fun _ => none) 0 0 c) c (some e), by rw [gUp_self]; rfl, by rw [gUp_ne _ _ (Ne.symm hne), gUp_self], fun i hi => by rw [va_up_ne _ _ (by omega), pk_cpy_in (by omega) (by omega)]; congr 1; omega, va_up_self _ _ _, hgl, Or.inr ⟨h1, rfl, rfl⟩, fun z g1 g2 => by rw [gUp_ne _ _ g1, gUp_ne _ _ g2, gUp_ne _ _ g1, gUp_ne _ _ g2]⟩)
set_option maxRecDepth 100000 in
set_option maxHeartbeats 4000000 in
theorem c_addr (l : Launch) (hfl : l.stackTraces = false) (M : gMT) (σ : gS) (a n dd c e : Nat) (md : Int32) (f : Nat → Option Nat) (hA : σ a = some (oB 6 (lV md dd c))) (hD : σ dd = some (aQ M n f)) (hc : c < n) (hn : n < 1000) (he : gObj σ e) : Con l M yJx4a65c_add_9ea2d (.code yJx4a65c_add_9ea2d cJx4a65c_add_9ea2d 2 (Option.some FieldType.boolean)) 7 0 0 [.ref a, .ref e] σ (rI fun r σ2 => r = 1 ∧ gAdded M σ σ2 a (md + 1) dd n c e f dd n) (nX) := by
  refine g_con hfl (by decide) (lv := [(0, .ref a), (1, .ref e)]) rfl rfl (Nat.le_of_ble_eq_true rfl) (fun X hX hC hR htb => ?_)
  refine g_aload_n (q := 1) (i := 0) hC dJx4a65c_add_9ea2d_0 rfl rfl rfl ?_
  refine g_dup (q := 2) hC dJx4a65c_add_9ea2d_1 rfl rfl ?_
  refine g_getf (q := 5) hC kg_Jx4a65c_63 dJx4a65c_add_9ea2d_2 hA rfl rfl ?_
  refine g_iconst (q := 6) (v := (1)) hC dJx4a65c_add_9ea2d_5 rfl rfl ?_
  refine g_iadd (q := 7) hC dJx4a65c_add_9ea2d_6 rfl rfl ?_
  refine g_putf (q := 10) hC kf_Jx4a65c_63 dJx4a65c_add_9ea2d_7 hA (Nat.le_of_ble_eq_true rfl) rfl rfl rfl ?_
  have hne : a ≠ dd := fun z => by rw [z, hD] at hA; cases hA
  have hA2 : (gUp σ a (oB 6 (lV (md + 1) dd c))) a = some (oB 6 (lV (md + 1) dd c)) := gUp_self _ _ _
  have hD2 : (gUp σ a (oB 6 (lV (md + 1) dd c))) dd = some (aQ M n f) := by rw [gUp_ne _ _ (Ne.symm hne)]; exact hD
  refine g_aload_n (q := 11) (i := 0) hC dJx4a65c_add_9ea2d_10 rfl rfl rfl ?_
  refine g_aload_n (q := 12) (i := 1) hC dJx4a65c_add_9ea2d_11 rfl rfl rfl ?_
  refine g_aload_n (q := 13) (i := 0) hC dJx4a65c_add_9ea2d_12 rfl rfl rfl ?_
  refine g_getf (q := 16) hC kg_Jx4a65c_9 dJx4a65c_add_9ea2d_13 hA2 rfl rfl ?_
  refine g_aload_n (q := 17) (i := 0) hC dJx4a65c_add_9ea2d_16 rfl rfl rfl ?_
  refine g_getf (q := 20) hC kg_Jx4a65c_48 dJx4a65c_add_9ea2d_17 hA2 rfl rfl ?_
  refine g_cv (q := 23) (g_runV hC kv_Jx4a65c_131 md_Jx4a65c_add_72be8 (c_add3r _ hC.fl M _ a n dd c e (md + 1) f hA2 hD2 hc hn (gObj_up hA he)) (ci := 6) rfl hA2 dJx4a65c_add_9ea2d_20 (by decide) (by decide) (by omega) (by omega) rfl rfl (Nat.le_of_ble_eq_true rfl)) rfl (fun σ2 ⟨f2, g1, g2, g3, g4, g5, g6, g7⟩ => ?_) (fun _ _ h9 => False.elim h9)
  refine g_iconst (q := 24) (v := (1)) hC dJx4a65c_add_9ea2d_23 rfl rfl ?_
  exact g_zret hC hR rfl dJx4a65c_add_9ea2d_24 (by omega) (by omega) (⟨_, rfl, rfl, f2, g1, g2, g3, g4, g5, Or.inl ⟨rfl, rfl⟩, fun z h1 h2 => by rw [g7 z h1 h2, gUp_ne _ _ h1]⟩)
set_option maxRecDepth 100000 in
set_option maxHeartbeats 4000000 in
theorem c_addg (l : Launch) (hfl : l.stackTraces = false) (M : gMT) (σ : gS) (ms9 a dd c e : Nat) (md : Int32) (f : Nat → Option Nat) (hA : σ a = some (oB 6 (lV md dd c))) (hD : gArr M σ dd c f) (hn : c ≤ 60) (hms : gGrow c ≤ ms9) (hel : ∀ i, i < c → ∀ y, f i = some y → gObj σ y) (he : gObj σ e) : Con l M yJx4a65c_add_9ea2d (.code yJx4a65c_add_9ea2d cJx4a65c_add_9ea2d 2 (Option.some FieldType.boolean)) 7 1 ms9 [.ref a, .ref e] σ (rI fun r σ2 => r = 1 ∧ ∃ d2, gAdded M σ σ2 a (md + 1) dd c c e f d2 (gGrow c)) (nX) := by
  refine g_con hfl (by decide) (lv := [(0, .ref a), (1, .ref e)]) rfl rfl (Nat.le_of_ble_eq_true rfl) (fun X hX hC hR htb => ?_)
  refine g_aload_n (q := 1) (i := 0) hC dJx4a65c_add_9ea2d_0 rfl rfl rfl ?_
  refine g_dup (q := 2) hC dJx4a65c_add_9ea2d_1 rfl rfl ?_
  refine g_getf (q := 5) hC kg_Jx4a65c_63 dJx4a65c_add_9ea2d_2 hA rfl rfl ?_
  refine g_iconst (q := 6) (v := (1)) hC dJx4a65c_add_9ea2d_5 rfl rfl ?_
  refine g_iadd (q := 7) hC dJx4a65c_add_9ea2d_6 rfl rfl ?_
  refine g_putf (q := 10) hC kf_Jx4a65c_63 dJx4a65c_add_9ea2d_7 hA (Nat.le_of_ble_eq_true rfl) rfl rfl rfl ?_
  have hA2 : (gUp σ a (oB 6 (lV (md + 1) dd c))) a = some (oB 6 (lV (md + 1) dd c)) := gUp_self _ _ _
  have hD2 : gArr M (gUp σ a (oB 6 (lV (md + 1) dd c))) dd c f := by
    rcases hD with ⟨h0, hD⟩ | h0
    · refine Or.inl ⟨h0, ?_⟩
      rw [gUp_ne _ _ (fun z => by rw [z, hA] at hD; cases hD)]
      exact hD
    · exact Or.inr h0
  refine g_aload_n (q := 11) (i := 0) hC dJx4a65c_add_9ea2d_10 rfl rfl rfl ?_
  refine g_aload_n (q := 12) (i := 1) hC dJx4a65c_add_9ea2d_11 rfl rfl rfl ?_
  refine g_aload_n (q := 13) (i := 0) hC dJx4a65c_add_9ea2d_12 rfl rfl rfl ?_
  refine g_getf (q := 16) hC kg_Jx4a65c_9 dJx4a65c_add_9ea2d_13 hA2 rfl rfl ?_
  refine g_aload_n (q := 17) (i := 0) hC dJx4a65c_add_9ea2d_16 rfl rfl rfl ?_
  refine g_getf (q := 20) hC kg_Jx4a65c_48 dJx4a65c_add_9ea2d_17 hA2 rfl rfl ?_
  refine g_cv (q := 23) (g_runV hC kv_Jx4a65c_131 md_Jx4a65c_add_72be8 (c_add3g _ hC.fl M _ ms9 a dd c e (md + 1) f hA2 hD2 hn hms (fun i hi y hy => gObj_up hA (hel i hi y hy)) (gObj_up hA he)) (ci := 6) rfl hA2 dJx4a65c_add_9ea2d_20 (by decide) (by decide) (by omega) (by omega) rfl rfl (Nat.le_of_ble_eq_true rfl)) rfl (fun σ2 ⟨d2, f2, g1, g2, g3, g4, g5, g6, g7⟩ => ?_) (fun _ _ h9 => False.elim h9)
  refine g_iconst (q := 24) (v := (1)) hC dJx4a65c_add_9ea2d_23 rfl rfl ?_
  have g8 : σ d2 = none ∨ d2 = a := by
    rcases g6 with ⟨rfl, h2⟩ | ⟨h1, -⟩
    · have := gGrow_lt (n := c)
      omega
    · by_cases z : d2 = a
      · exact Or.inr z
      · rw [gUp_ne _ _ z] at h1
        exact Or.inl h1
  have g9 : σ d2 = none := g8.resolve_right (fun z => by rw [z, g1] at g2; cases g2)
  exact g_zret hC hR rfl dJx4a65c_add_9ea2d_24 (by omega) (by omega) (⟨_, rfl, rfl, d2, f2, g1, g2, g3, g4, g5, Or.inr ⟨g9, rfl, rfl⟩, fun z h1 h2 => by rw [g7 z h1 h2, gUp_ne _ _ h1]⟩)
