/-! ===== ArrayList.clear; java.lang.StringBuilder over the map ===== -/
def pClear (M : gMT) (σ : gS) (a : Nat) (md : Int32) (dd n : Nat) : gS → Prop := fun σ2 => σ2 a = some (oB 6 (lV (md + 1) dd 0)) ∧ (∃ g, gArr M σ2 dd n g) ∧ ∀ b, b ≠ a → (b ≠ dd ∨ n = 0) → σ2 b = σ b
theorem gArr_up {M : gMT} {σ : gS} {a dd n : Nat} {f : Nat → Option Nat} {l l2 : List Value} (ha : σ a = some (oB 6 l)) (h : gArr M σ dd n f) : gArr M (gUp σ a (oB 6 l2)) dd n f := by
  rcases h with ⟨h0, hD⟩ | h0
  · refine Or.inl ⟨h0, ?_⟩
    rw [gUp_ne _ _ (fun z => by rw [z, ha] at hD; cases hD)]
    exact hD
  · exact Or.inr h0
set_option maxRecDepth 100000 in
set_option maxHeartbeats 4000000 in
theorem c_clear (l : Launch) (hfl : l.stackTraces = false) (M : gMT) (σ : gS) (a n dd c : Nat) (md : Int32) (f : Nat → Option Nat) (hA : σ a = some (oB 6 (lV md dd c))) (hD : gArr M σ dd n f) (hc : c ≤ n) (hn : n < 1000) : Con l M yJx4a65c_clear_da8c8 (.code yJx4a65c_clear_da8c8 cJx4a65c_clear_da8c8 4 (Option.none : Option FieldType)) 1 0 0 [.ref a] σ (rV (pClear M σ a md dd n)) (nX) := by
  refine g_con hfl (by decide) (lv := [(0, .ref a)]) rfl rfl (Nat.le_of_ble_eq_true rfl) (fun X hX hC hR htb => ?_)
  have loop : ∀ (k9 i : Nat) (σ3 : gS) (g : Nat → Option Nat), i + k9 = c → σ3 a = some (oB 6 (lV (md + 1) dd 0)) → gArr M σ3 dd n g → (∀ b, b ≠ a → (b ≠ dd ∨ n = 0) → σ3 b = σ b) → G X M 4 (gQ X M 0 0 (rV (pClear M σ a md dd n)) nX) 0 0 σ3 27 [(3, .int (nI i)), (0, .ref a), (1, .ref dd), (2, .int (nI c))] [] := by
    intro k9
    induction k9 with
    | zero =>
      intro i σ3 g h1 h2 h3 h4
      refine g_iload_n (q := 28) (i := 3) hC dJx4a65c_clear_da8c8_27 rfl rfl rfl ?_
      refine g_iload_n (q := 29) (i := 2) hC dJx4a65c_clear_da8c8_28 rfl rfl rfl ?_
      refine g_icmp_ge (tgt := 42) (q := 32) hC dJx4a65c_clear_da8c8_29 (by decide) rfl (fun c_29 => ?_) (fun c_29 => ?_)
      · skip
        exact g_vret hC hR dJx4a65c_clear_da8c8_42 (by omega) (by omega) (⟨rfl, h2, ⟨g, h3⟩, h4⟩)
      · exact absurd (nI_le (by omega) (by omega)) c_29
    | succ k9 ih =>
      intro i σ3 g h1 h2 h3 h4
      refine g_iload_n (q := 28) (i := 3) hC dJx4a65c_clear_da8c8_27 rfl rfl rfl ?_
      refine g_iload_n (q := 29) (i := 2) hC dJx4a65c_clear_da8c8_28 rfl rfl rfl ?_
      refine g_icmp_ge (tgt := 42) (q := 32) hC dJx4a65c_clear_da8c8_29 (by decide) rfl (fun c_29 => ?_) (fun c_29 => ?_)
      · exact absurd c_29 (nI_ge (by omega) (by omega))
      · rcases h3 with ⟨h0, hD3⟩ | ⟨h0, -⟩
        · skip
          refine g_aload_n (q := 33) (i := 1) hC dJx4a65c_clear_da8c8_32 rfl rfl rfl ?_
          refine g_iload_n (q := 34) (i := 3) hC dJx4a65c_clear_da8c8_33 rfl rfl rfl ?_
          refine g_null (q := 35) hC dJx4a65c_clear_da8c8_34 rfl ?_
          refine g_aastN (q := 36) hC dJx4a65c_clear_da8c8_35 hD3 (vp_in_nI (by omega) (by omega)) rfl ?_
          have hne : a ≠ dd := fun z => by rw [z, hD3] at h2; cases h2
          refine g_iinc (q := 39) (i := 3) (v := (nI (i + 1))) hC dJx4a65c_clear_da8c8_36 rfl (nI_1 _) rfl ?_
          refine g_goto (tgt := 27) hC dJx4a65c_clear_da8c8_39 (by decide) ?_
          refine g_sub (lv0 := [(3, .int (nI (i + 1))), (0, .ref a), (1, .ref dd), (2, .int (nI c))]) ⟨rfl, rfl, rfl, rfl, trivial⟩ ?_
          exact ih (i + 1) _ _ (by omega) (by rw [gUp_ne _ _ hne]; exact h2) (Or.inl ⟨h0, gUp_self _ _ _⟩) (fun b g1 g2 => by rw [gUp_ne _ _ (g2.resolve_right (by omega))]; exact h4 b g1 g2)
        · omega
  refine g_aload_n (q := 1) (i := 0) hC dJx4a65c_clear_da8c8_0 rfl rfl rfl ?_
  refine g_dup (q := 2) hC dJx4a65c_clear_da8c8_1 rfl rfl ?_
  refine g_getf (q := 5) hC kg_Jx4a65c_63 dJx4a65c_clear_da8c8_2 hA rfl rfl ?_
  refine g_iconst (q := 6) (v := (1)) hC dJx4a65c_clear_da8c8_5 rfl rfl ?_
  refine g_iadd (q := 7) hC dJx4a65c_clear_da8c8_6 rfl rfl ?_
  refine g_putf (q := 10) hC kf_Jx4a65c_63 dJx4a65c_clear_da8c8_7 hA (Nat.le_of_ble_eq_true rfl) rfl rfl rfl ?_
  have hA2 : (gUp σ a (oB 6 (lV (md + 1) dd c))) a = some (oB 6 (lV (md + 1) dd c)) := gUp_self _ _ _
  refine g_aload_n (q := 11) (i := 0) hC dJx4a65c_clear_da8c8_10 rfl rfl rfl ?_
  refine g_getf (q := 14) hC kg_Jx4a65c_9 dJx4a65c_clear_da8c8_11 hA2 rfl rfl ?_
  refine g_astore_n (q := 15) (i := 1) hC dJx4a65c_clear_da8c8_14 rfl (by decide) rfl ?_
  refine g_aload_n (q := 16) (i := 0) hC dJx4a65c_clear_da8c8_15 rfl rfl rfl ?_
  refine g_getf (q := 19) hC kg_Jx4a65c_48 dJx4a65c_clear_da8c8_16 hA2 rfl rfl ?_
  refine g_istore_n (q := 20) (i := 2) hC dJx4a65c_clear_da8c8_19 rfl (by decide) rfl ?_
  refine g_aload_n (q := 21) (i := 0) hC dJx4a65c_clear_da8c8_20 rfl rfl rfl ?_
  refine g_iconst (q := 22) (v := nI 0) hC dJx4a65c_clear_da8c8_21 rfl rfl ?_
  refine g_dup_x1 (q := 23) hC dJx4a65c_clear_da8c8_22 rfl rfl rfl ?_
  refine g_putf (q := 26) hC kf_Jx4a65c_48 dJx4a65c_clear_da8c8_23 hA2 (Nat.le_of_ble_eq_true rfl) rfl rfl rfl ?_
  rw [gUp_up]
  refine g_istore_n (q := 27) (i := 3) hC dJx4a65c_clear_da8c8_26 rfl (by decide) rfl ?_
  refine g_sub (lv0 := [(3, .int (nI 0)), (0, .ref a), (1, .ref dd), (2, .int (nI c))]) ⟨rfl, rfl, rfl, rfl, trivial⟩ ?_
  exact loop c 0 _ f (by omega) (gUp_self _ _ _) (gArr_up hA hD) (fun b g1 _ => by rw [gUp_ne _ _ g1])
/-- a StringBuilder of Latin letters -/
def sbV (v : Nat) (ml : Int32) (c : Nat) : List Value := [.ref v, .int 0, .int ml, .int (nI c)]
theorem byte_small {w : Nat} (h : w < 128) : (nI w).toInt8.toInt32 = nI w := by
  revert w
  decide +kernel
theorem char_small {w : Nat} (h : w < 128) : ((nI w).toUInt32 % 65536).toInt32 = nI w := by
  revert w
  decide +kernel
theorem byte_255 {w : Nat} (h : w < 128) : nI w &&& 255 = nI w := by
  revert w
  decide +kernel
set_option maxRecDepth 100000 in
set_option maxHeartbeats 4000000 in
theorem c_sb_len5 (l : Launch) (hfl : l.stackTraces = false) (M : gMT) (σ : gS) (a v c : Nat) (ml : Int32) (hA : σ a = some (oB 7 (sbV v ml c))) : Con l M yJ5_length_8abf5 (.code yJ5_length_8abf5 cJ5_length_8abf5 1 (Option.some FieldType.int)) 1 0 0 [.ref a] σ (rI fun r σ2 => r = nI c ∧ σ2 = σ) (nX) := by
  refine g_con hfl (by decide) (lv := [(0, .ref a)]) rfl rfl (Nat.le_of_ble_eq_true rfl) (fun X hX hC hR htb => ?_)
  refine g_aload_n (q := 1) (i := 0) hC dJ5_length_8abf5_0 rfl rfl rfl ?_
  refine g_getf (q := 4) hC kg_J5_79 dJ5_length_8abf5_1 hA rfl rfl ?_
  exact g_iret hC hR dJ5_length_8abf5_4 (by omega) (by omega) (⟨_, rfl, rfl, rfl⟩)
set_option maxRecDepth 100000 in
set_option maxHeartbeats 4000000 in
theorem c_sb_len (l : Launch) (hfl : l.stackTraces = false) (M : gMT) (σ : gS) (a v c : Nat) (ml : Int32) (hA : σ a = some (oB 7 (sbV v ml c))) : Con l M yJ4_length_8abf5 (.code yJ4_length_8abf5 cJ4_length_8abf5 1 (Option.some FieldType.int)) 2 0 0 [.ref a] σ (rI fun r σ2 => r = nI c ∧ σ2 = σ) (nX) := by
  refine g_con hfl (by decide) (lv := [(0, .ref a)]) rfl rfl (Nat.le_of_ble_eq_true rfl) (fun X hX hC hR htb => ?_)
  refine g_aload_n (q := 1) (i := 0) hC dJ4_length_8abf5_0 rfl rfl rfl ?_
  refine g_ci (q := 4) (g_runSU hC ku_J4_343 md_J5_length_8abf5 (c_sb_len5 _ hC.fl M _ a v c ml hA) (ci := 7) rfl hA dJ4_length_8abf5_1 (by decide) (by decide) (by omega) (by omega) rfl rfl (Nat.le_of_ble_eq_true rfl)) rfl (fun r σ ⟨e1, e2⟩ => ?_) (fun _ _ h9 => False.elim h9)
  subst e1 e2
  exact g_iret hC hR dJ4_length_8abf5_4 (by omega) (by omega) (⟨_, rfl, rfl, rfl⟩)
set_option maxRecDepth 100000 in
set_option maxHeartbeats 4000000 in
theorem c_sb_ens (l : Launch) (hfl : l.stackTraces = false) (M : gMT) (σ : gS) (a v c m9 : Nat) (ml : Int32) (f : Nat → Int32) (hA : σ a = some (oB 7 (sbV v ml c))) (hV : σ v = some (aI M 0 16 f)) (hm : m9 ≤ 16) : Con l M yJ5_ensureCapacityInternal_d00df (.code yJ5_ensureCapacityInternal_d00df cJ5_ensureCapacityInternal_d00df 3 (Option.none : Option FieldType)) 1 0 0 [.ref a, .int (nI m9)] σ (rV fun σ2 => σ2 = σ) (nX) := by
  refine g_con hfl (by decide) (lv := [(0, .ref a), (1, .int (nI m9))]) rfl rfl (Nat.le_of_ble_eq_true rfl) (fun X hX hC hR htb => ?_)
  refine g_aload_n (q := 1) (i := 0) hC dJ5_ensureCapacityInternal_d00df_0 rfl rfl rfl ?_
  refine g_getf (q := 4) hC kg_J5_15 dJ5_ensureCapacityInternal_d00df_1 hA rfl rfl ?_
  refine g_alenI (q := 5) (v := nI 16) (t := 0) hC (by decide) dJ5_ensureCapacityInternal_d00df_4 hV rfl rfl ?_
  refine g_aload_n (q := 6) (i := 0) hC dJ5_ensureCapacityInternal_d00df_5 rfl rfl rfl ?_
  refine g_getf (q := 9) hC kg_J5_22 dJ5_ensureCapacityInternal_d00df_6 hA rfl rfl ?_
  refine g_ishr (q := 10) (v := nI 16) hC dJ5_ensureCapacityInternal_d00df_9 (by decide) rfl ?_
  refine g_istore_n (q := 11) (i := 2) hC dJ5_ensureCapacityInternal_d00df_10 rfl (by decide) rfl ?_
  refine g_iload_n (q := 12) (i := 1) hC dJ5_ensureCapacityInternal_d00df_11 rfl rfl rfl ?_
  refine g_iload_n (q := 13) (i := 2) hC dJ5_ensureCapacityInternal_d00df_12 rfl rfl rfl ?_
  refine g_isub (q := 14) (v := nI m9 - nI 16) hC dJ5_ensureCapacityInternal_d00df_13 rfl rfl ?_
  refine g_if_le (tgt := 38) (q := 17) hC dJ5_ensureCapacityInternal_d00df_14 (by decide) rfl (fun c_14 => ?_) (fun c_14 => ?_)
  · skip
    exact g_vret hC hR dJ5_ensureCapacityInternal_d00df_38 (by omega) (by omega) (⟨rfl, rfl⟩)
  · exact absurd (by rw [Int32.le_iff_toInt_le, pk_sub_toInt (by omega) (by omega), Int32.toInt_zero]; omega) c_14
set_option maxRecDepth 100000 in
set_option maxHeartbeats 4000000 in
theorem c_sb_lat (l : Launch) (hfl : l.stackTraces = false) (M : gMT) (σ : gS) (a v c : Nat) (ml : Int32) (hA : σ a = some (oB 7 (sbV v ml c))) : Con l M yJ5_isLatin1_aae02 (.code yJ5_isLatin1_aae02 cJ5_isLatin1_aae02 1 (Option.some FieldType.boolean)) 1 0 0 [.ref a] σ (rI fun r σ2 => r = 1 ∧ σ2 = σ) (nX) := by
  refine g_con hfl (by decide) (lv := [(0, .ref a)]) rfl rfl (Nat.le_of_ble_eq_true rfl) (fun X hX hC hR htb => ?_)
  refine g_getsC (q := 3) hC kt_J5_18 dJ5_isLatin1_aae02_0 rfl ?_
  refine g_if_eq (tgt := 17) (q := 6) hC dJ5_isLatin1_aae02_3 (by decide) rfl (fun c_3 => ?_) (fun c_3 => ?_)
  · exact absurd c_3 (by decide)
  · refine g_aload_n (q := 7) (i := 0) hC dJ5_isLatin1_aae02_6 rfl rfl rfl ?_
    refine g_getf (q := 10) hC kg_J5_22 dJ5_isLatin1_aae02_7 hA rfl rfl ?_
    refine g_if_ne (tgt := 17) (q := 13) hC dJ5_isLatin1_aae02_10 (by decide) rfl (fun c_10 => ?_) (fun c_10 => ?_)
    · exact absurd rfl c_10
    · refine g_iconst (q := 14) (v := (1)) hC dJ5_isLatin1_aae02_13 rfl rfl ?_
      refine g_goto (tgt := 18) hC dJ5_isLatin1_aae02_14 (by decide) ?_
      exact g_zret hC hR (rfl) dJ5_isLatin1_aae02_18 (by omega) (by omega) (⟨_, rfl, rfl, rfl⟩)
set_option maxRecDepth 100000 in
set_option maxHeartbeats 4000000 in
theorem c_canEnc (l : Launch) (hfl : l.stackTraces = false) (M : gMT) (σ : gS) (w : Nat) (hw : w < 128) : Con l M yJ1_canEncode_fc78d (.code yJ1_canEncode_fc78d cJ1_canEncode_fc78d 1 (Option.some FieldType.boolean)) 1 0 0 [.int (nI w)] σ (rI fun r σ2 => r = 1 ∧ σ2 = σ) (nX) := by
  refine g_con hfl (by decide) (lv := [(0, .int (nI w))]) rfl rfl (Nat.le_of_ble_eq_true rfl) (fun X hX hC hR htb => ?_)
  refine g_iload_n (q := 1) (i := 0) hC dJ1_canEncode_fc78d_0 rfl rfl rfl ?_
  refine g_sipush (q := 4) (v := nI 255) hC dJ1_canEncode_fc78d_1 rfl rfl ?_
  refine g_icmp_gt (tgt := 11) (q := 7) hC dJ1_canEncode_fc78d_4 (by decide) rfl (fun c_4 => ?_) (fun c_4 => ?_)
  · exact absurd c_4 (nI_nlt (by omega) (by omega))
  · refine g_iconst (q := 8) (v := (1)) hC dJ1_canEncode_fc78d_7 rfl rfl ?_
    refine g_goto (tgt := 12) hC dJ1_canEncode_fc78d_8 (by decide) ?_
    exact g_zret hC hR (rfl) dJ1_canEncode_fc78d_12 (by omega) (by omega) (⟨_, rfl, rfl, rfl⟩)
def pApp (M : gMT) (σ : gS) (a v c w : Nat) (ml : Int32) (f : Nat → Int32) : gS → Prop := fun σ2 => σ2 a = some (oB 7 (sbV v ml (c + 1))) ∧ σ2 v = some (aI M 0 16 (upd f c (nI w))) ∧ ∀ b, b ≠ a → b ≠ v → σ2 b = σ b
set_option maxRecDepth 100000 in
set_option maxHeartbeats 4000000 in
theorem c_sb_app5 (l : Launch) (hfl : l.stackTraces = false) (M : gMT) (σ : gS) (a v c w : Nat) (ml : Int32) (f : Nat → Int32) (hA : σ a = some (oB 7 (sbV v ml c))) (hV : σ v = some (aI M 0 16 f)) (hc : c < 16) (hw : w < 128) : Con l M yJ5_append_3fe6f (.code yJ5_append_3fe6f cJ5_append_3fe6f 2 (Option.some (FieldType.object "java/lang/AbstractStringBuilder"))) 2 0 0 [.ref a, .int (nI w)] σ (rR fun r σ2 => r = a ∧ pApp M σ a v c w ml f σ2) (nX) := by
  refine g_con hfl (by decide) (lv := [(0, .ref a), (1, .int (nI w))]) rfl rfl (Nat.le_of_ble_eq_true rfl) (fun X hX hC hR htb => ?_)
  refine g_aload_n (q := 1) (i := 0) hC dJ5_append_3fe6f_0 rfl rfl rfl ?_
  refine g_aload_n (q := 2) (i := 0) hC dJ5_append_3fe6f_1 rfl rfl rfl ?_
  refine g_getf (q := 5) hC kg_J5_79 dJ5_append_3fe6f_2 hA rfl rfl ?_
  refine g_iconst (q := 6) (v := nI 1) hC dJ5_append_3fe6f_5 rfl rfl ?_
  refine g_iadd (q := 7) (v := (nI (c + 1))) hC dJ5_append_3fe6f_6 (nI_add _ _) rfl ?_
  refine g_cv (q := 10) (g_runV hC kv_J5_100 md_J5_ensureCapacityInternal_d00df (c_sb_ens _ hC.fl M _ a v c (c + 1) ml f hA hV (by omega)) (ci := 7) rfl hA dJ5_append_3fe6f_7 (by decide) (by decide) (by omega) (by omega) rfl rfl (Nat.le_of_ble_eq_true rfl)) rfl (fun σ e1 => ?_) (fun _ _ h9 => False.elim h9)
  subst e1
  refine g_aload_n (q := 11) (i := 0) hC dJ5_append_3fe6f_10 rfl rfl rfl ?_
  refine g_ci (q := 14) (g_runV hC kv_J5_83 md_J5_isLatin1_aae02 (c_sb_lat _ hC.fl M _ a v c ml hA) (ci := 7) rfl hA dJ5_append_3fe6f_11 (by decide) (by decide) (by omega) (by omega) rfl rfl (Nat.le_of_ble_eq_true rfl)) rfl (fun r σ ⟨e1, e2⟩ => ?_) (fun _ _ h9 => False.elim h9)
  subst e1 e2
  refine g_if_eq (tgt := 45) (q := 17) hC dJ5_append_3fe6f_14 (by decide) rfl (fun c_14 => ?_) (fun c_14 => ?_)
  · exact absurd c_14 (by decide)
  · refine g_iload_n (q := 18) (i := 1) hC dJ5_append_3fe6f_17 rfl rfl rfl ?_
    refine g_ci (q := 21) (g_runS hC ks_J5_191 md_J1_canEncode_fc78d (c_canEnc _ hC.fl M _ w hw) dJ5_append_3fe6f_18 (by decide) (by decide) (by omega) (by omega) rfl rfl (Nat.le_of_ble_eq_true rfl)) rfl (fun r σ ⟨e1, e2⟩ => ?_) (fun _ _ h9 => False.elim h9)
    subst e1 e2
    refine g_if_eq (tgt := 45) (q := 24) hC dJ5_append_3fe6f_21 (by decide) rfl (fun c_21 => ?_) (fun c_21 => ?_)
    · exact absurd c_21 (by decide)
    · refine g_aload_n (q := 25) (i := 0) hC dJ5_append_3fe6f_24 rfl rfl rfl ?_
      refine g_getf (q := 28) hC kg_J5_15 dJ5_append_3fe6f_25 hA rfl rfl ?_
      refine g_aload_n (q := 29) (i := 0) hC dJ5_append_3fe6f_28 rfl rfl rfl ?_
      refine g_dup (q := 30) hC dJ5_append_3fe6f_29 rfl rfl ?_
      refine g_getf (q := 33) hC kg_J5_79 dJ5_append_3fe6f_30 hA rfl rfl ?_
      refine g_dup_x1 (q := 34) hC dJ5_append_3fe6f_33 rfl rfl rfl ?_
      refine g_iconst (q := 35) (v := nI 1) hC dJ5_append_3fe6f_34 rfl rfl ?_
      refine g_iadd (q := 36) (v := (nI (c + 1))) hC dJ5_append_3fe6f_35 (nI_add _ _) rfl ?_
      refine g_putf (q := 39) hC kf_J5_79 dJ5_append_3fe6f_36 hA (Nat.le_of_ble_eq_true rfl) rfl rfl rfl ?_
      have hne : a ≠ v := fun z => by rw [z, hV] at hA; cases hA
      have hV2 : (gUp σ a (oB 7 (sbV v ml (c + 1)))) v = some (aI M 0 16 f) := by rw [gUp_ne _ _ (Ne.symm hne)]; exact hV
      refine g_iload_n (q := 40) (i := 1) hC dJ5_append_3fe6f_39 rfl rfl rfl ?_
      refine g_i2b (q := 41) (v := nI w) hC dJ5_append_3fe6f_40 (byte_small hw) rfl ?_
      refine g_bast (q := 42) hC dJ5_append_3fe6f_41 hV2 (vp_in_nI hc (by omega)) rfl ?_
      rw [nI_clamp (by omega), show vp_nar .byte (nI w) = nI w from byte_small hw]
      refine g_goto (tgt := 75) hC dJ5_append_3fe6f_42 (by decide) ?_
      refine g_aload_n (q := 76) (i := 0) hC dJ5_append_3fe6f_75 rfl rfl rfl ?_
      exact g_aret (o := some a) hC hR (Or.inl ⟨_, rfl⟩) dJ5_append_3fe6f_76 (by omega) (by omega) (⟨a, rfl, rfl, by rw [gUp_ne _ _ hne, gUp_self]; rfl, gUp_self _ _ _, fun b g1 g2 => by rw [gUp_ne _ _ g2, gUp_ne _ _ g1]⟩)
set_option maxRecDepth 100000 in
set_option maxHeartbeats 4000000 in
theorem c_sb_app (l : Launch) (hfl : l.stackTraces = false) (M : gMT) (σ : gS) (a v c w : Nat) (ml : Int32) (f : Nat → Int32) (hA : σ a = some (oB 7 (sbV v ml c))) (hV : σ v = some (aI M 0 16 f)) (hc : c < 16) (hw : w < 128) : Con l M yJ4_append_cf468 (.code yJ4_append_cf468 cJ4_append_cf468 2 (Option.some (FieldType.object "java/lang/StringBuilder"))) 3 0 0 [.ref a, .int (nI w)] σ (rR fun r σ2 => r = a ∧ pApp M σ a v c w ml f σ2) (nX) := by
  refine g_con hfl (by decide) (lv := [(0, .ref a), (1, .int (nI w))]) rfl rfl (Nat.le_of_ble_eq_true rfl) (fun X hX hC hR htb => ?_)
  refine g_aload_n (q := 1) (i := 0) hC dJ4_append_cf468_0 rfl rfl rfl ?_
  refine g_iload_n (q := 2) (i := 1) hC dJ4_append_cf468_1 rfl rfl rfl ?_
  refine g_cr (q := 5) (g_runSU hC ku_J4_50 md_J5_append_3fe6f (c_sb_app5 _ hC.fl M _ a v c w ml f hA hV hc hw) (ci := 7) rfl hA dJ4_append_cf468_2 (by decide) (by decide) (by omega) (by omega) rfl rfl (Nat.le_of_ble_eq_true rfl)) rfl (fun r σ2 ⟨e1, hp⟩ => ?_) (fun _ _ h9 => False.elim h9)
  subst e1
  refine g_pop (q := 6) hC dJ4_append_cf468_5 rfl rfl ?_
  refine g_aload_n (q := 7) (i := 0) hC dJ4_append_cf468_6 rfl rfl rfl ?_
  exact g_aret (o := some r) hC hR (Or.inl ⟨_, rfl⟩) dJ4_append_cf468_7 (by omega) (by omega) (⟨r, rfl, rfl, hp⟩)
set_option maxRecDepth 100000 in
set_option maxHeartbeats 4000000 in
theorem c_sb_chk (l : Launch) (hfl : l.stackTraces = false) (M : gMT) (σ : gS) (i n : Nat) (hi : i < n) (hn : n < 2 ^ 31) : Con l M yJ0_checkIndex_df160 (.code yJ0_checkIndex_df160 cJ0_checkIndex_df160 2 (Option.none : Option FieldType)) 2 0 0 [.int (nI i), .int (nI n)] σ (rV fun σ2 => σ2 = σ) (nX) := by
  refine g_con hfl (by decide) (lv := [(0, .int (nI i)), (1, .int (nI n))]) rfl rfl (Nat.le_of_ble_eq_true rfl) (fun X hX hC hR htb => ?_)
  refine g_iload_n (q := 1) (i := 0) hC dJ0_checkIndex_df160_0 rfl rfl rfl ?_
  refine g_iload_n (q := 2) (i := 1) hC dJ0_checkIndex_df160_1 rfl rfl rfl ?_
  refine g_getsF (q := 5) hC kt_J0_1053 dJ0_checkIndex_df160_2 rfl (fun o => ?_)
  refine g_ci (q := 8) (g_runS hC ks_J0_1059 md_J3_checkIndex_8e157 (c_checkI3 _ hC.fl M _ i n o hi hn) dJ0_checkIndex_df160_5 (by decide) (by decide) (by omega) (by omega) rfl rfl (Nat.le_of_ble_eq_true rfl)) rfl (fun r σ ⟨e1, e2⟩ => ?_) (fun _ _ h9 => False.elim h9)
  subst e1 e2
  refine g_pop (q := 9) hC dJ0_checkIndex_df160_8 rfl rfl ?_
  exact g_vret hC hR dJ0_checkIndex_df160_9 (by omega) (by omega) (⟨rfl, rfl⟩)
set_option maxRecDepth 100000 in
set_option maxHeartbeats 4000000 in
theorem c_sb_chr5 (l : Launch) (hfl : l.stackTraces = false) (M : gMT) (σ : gS) (a v c i w : Nat) (ml : Int32) (f : Nat → Int32) (hA : σ a = some (oB 7 (sbV v ml c))) (hV : σ v = some (aI M 0 16 f)) (hi : i < c) (hc : c ≤ 16) (hf : f i = nI w) (hw : w < 128) : Con l M yJ5_charAt_5068e (.code yJ5_charAt_5068e cJ5_charAt_5068e 5 (Option.some FieldType.char)) 3 0 0 [.ref a, .int (nI i)] σ (rI fun r σ2 => r = nI w ∧ σ2 = σ) (nX) := by
  refine g_con hfl (by decide) (lv := [(0, .ref a), (1, .int (nI i))]) rfl rfl (Nat.le_of_ble_eq_true rfl) (fun X hX hC hR htb => ?_)
  refine g_aload_n (q := 1) (i := 0) hC dJ5_charAt_5068e_0 rfl rfl rfl ?_
  refine g_getf (q := 4) hC kg_J5_22 dJ5_charAt_5068e_1 hA rfl rfl ?_
  refine g_istore_n (q := 5) (i := 2) hC dJ5_charAt_5068e_4 rfl (by decide) rfl ?_
  refine g_aload_n (q := 6) (i := 0) hC dJ5_charAt_5068e_5 rfl rfl rfl ?_
  refine g_getf (q := 9) hC kg_J5_15 dJ5_charAt_5068e_6 hA rfl rfl ?_
  refine g_astore_n (q := 10) (i := 3) hC dJ5_charAt_5068e_9 rfl (by decide) rfl ?_
  refine g_aload_n (q := 11) (i := 0) hC dJ5_charAt_5068e_10 rfl rfl rfl ?_
  refine g_getf (q := 14) hC kg_J5_79 dJ5_charAt_5068e_11 hA rfl rfl ?_
  refine g_aload_n (q := 15) (i := 3) hC dJ5_charAt_5068e_14 rfl rfl rfl ?_
  refine g_alenI (q := 16) (v := nI 16) (t := 0) hC (by decide) dJ5_charAt_5068e_15 hV rfl rfl ?_
  refine g_iload_n (q := 17) (i := 2) hC dJ5_charAt_5068e_16 rfl rfl rfl ?_
  refine g_ishr (q := 18) (v := nI 16) hC dJ5_charAt_5068e_17 (by decide) rfl ?_
  refine g_min (q := 21) hC ks_J5_138 md_J9_min_7cf53 dJ5_charAt_5068e_18 (by decide) (Nat.le_of_ble_eq_true rfl) (by omega) (by omega) rfl ?_
  refine g_top (y := nI c) ?_ ?_
  · unfold iMin
    by_cases c9 : 16 < c
    · omega
    · rw [if_neg (nI_nlt (by omega) (by omega))]
  refine g_istore (q := 23) (i := 4) hC dJ5_charAt_5068e_21 (by decide) rfl ?_
  refine g_iload_n (q := 24) (i := 1) hC dJ5_charAt_5068e_23 rfl rfl rfl ?_
  refine g_iload (q := 26) (i := 4) hC dJ5_charAt_5068e_24 rfl rfl ?_
  refine g_cv (q := 29) (g_runS hC ks_J5_144 md_J0_checkIndex_df160 (c_sb_chk _ hC.fl M _ i c hi (by omega)) dJ5_charAt_5068e_26 (by decide) (by decide) (by omega) (by omega) rfl rfl (Nat.le_of_ble_eq_true rfl)) rfl (fun σ e1 => ?_) (fun _ _ h9 => False.elim h9)
  subst e1
  refine g_iload_n (q := 30) (i := 2) hC dJ5_charAt_5068e_29 rfl rfl rfl ?_
  refine g_if_ne (tgt := 42) (q := 33) hC dJ5_charAt_5068e_30 (by decide) rfl (fun c_30 => ?_) (fun c_30 => ?_)
  · exact absurd rfl c_30
  · refine g_aload_n (q := 34) (i := 3) hC dJ5_charAt_5068e_33 rfl rfl rfl ?_
    refine g_iload_n (q := 35) (i := 1) hC dJ5_charAt_5068e_34 rfl rfl rfl ?_
    refine g_bald (q := 36) (v := nI w) hC dJ5_charAt_5068e_35 hV (vp_in_nI (by omega) (by omega)) (by rw [nI_clamp (by omega)]; exact hf) rfl ?_
    refine g_sipush (q := 39) (v := (255)) hC dJ5_charAt_5068e_36 rfl rfl ?_
    refine g_iand (q := 40) (v := nI w) hC dJ5_charAt_5068e_39 (byte_255 hw) rfl ?_
    refine g_i2c (q := 41) (v := nI w) hC dJ5_charAt_5068e_40 (char_small hw) rfl ?_
    exact g_zret hC hR ((pk_charN (by omega)).1) dJ5_charAt_5068e_41 (by omega) (by omega) (⟨_, rfl, rfl, rfl⟩)
set_option maxRecDepth 100000 in
set_option maxHeartbeats 4000000 in
theorem c_sb_chr (l : Launch) (hfl : l.stackTraces = false) (M : gMT) (σ : gS) (a v c i w : Nat) (ml : Int32) (f : Nat → Int32) (hA : σ a = some (oB 7 (sbV v ml c))) (hV : σ v = some (aI M 0 16 f)) (hi : i < c) (hc : c ≤ 16) (hf : f i = nI w) (hw : w < 128) : Con l M yJ4_charAt_5068e (.code yJ4_charAt_5068e cJ4_charAt_5068e 2 (Option.some FieldType.char)) 4 0 0 [.ref a, .int (nI i)] σ (rI fun r σ2 => r = nI w ∧ σ2 = σ) (nX) := by
  refine g_con hfl (by decide) (lv := [(0, .ref a), (1, .int (nI i))]) rfl rfl (Nat.le_of_ble_eq_true rfl) (fun X hX hC hR htb => ?_)
  refine g_aload_n (q := 1) (i := 0) hC dJ4_charAt_5068e_0 rfl rfl rfl ?_
  refine g_iload_n (q := 2) (i := 1) hC dJ4_charAt_5068e_1 rfl rfl rfl ?_
  refine g_ci (q := 5) (g_runSU hC ku_J4_329 md_J5_charAt_5068e (c_sb_chr5 _ hC.fl M _ a v c i w ml f hA hV hi hc hf hw) (ci := 7) rfl hA dJ4_charAt_5068e_2 (by decide) (by decide) (by omega) (by omega) rfl rfl (Nat.le_of_ble_eq_true rfl)) rfl (fun r σ ⟨e1, e2⟩ => ?_) (fun _ _ h9 => False.elim h9)
  subst e1 e2
  exact g_zret hC hR ((pk_charN (by omega)).1) dJ4_charAt_5068e_5 (by omega) (by omega) (⟨_, rfl, rfl, rfl⟩)
set_option maxRecDepth 100000 in
set_option maxHeartbeats 4000000 in
theorem c_sb_set5 (l : Launch) (hfl : l.stackTraces = false) (M : gMT) (σ : gS) (a v c n : Nat) (ml : Int32) (f : Nat → Int32) (hA : σ a = some (oB 7 (sbV v ml c))) (hV : σ v = some (aI M 0 16 f)) (hn : n ≤ c) (hc : c ≤ 16) : Con l M yJ5_setLength_d00df (.code yJ5_setLength_d00df cJ5_setLength_d00df 2 (Option.none : Option FieldType)) 7 0 0 [.ref a, .int (nI n)] σ (rV fun σ2 => ∃ ml2, σ2 = gUp σ a (oB 7 (sbV v ml2 n))) (nX) := by
  refine g_con hfl (by decide) (lv := [(0, .ref a), (1, .int (nI n))]) rfl rfl (Nat.le_of_ble_eq_true rfl) (fun X hX hC hR htb => ?_)
  refine g_iload_n (q := 1) (i := 1) hC dJ5_setLength_d00df_0 rfl rfl rfl ?_
  refine g_if_ge (tgt := 13) (q := 4) hC dJ5_setLength_d00df_1 (by decide) rfl (fun c_1 => ?_) (fun c_1 => ?_)
  · refine g_aload_n (q := 14) (i := 0) hC dJ5_setLength_d00df_13 rfl rfl rfl ?_
    refine g_iload_n (q := 15) (i := 1) hC dJ5_setLength_d00df_14 rfl rfl rfl ?_
    refine g_cv (q := 18) (g_runV hC kv_J5_100 md_J5_ensureCapacityInternal_d00df (c_sb_ens _ hC.fl M _ a v c n ml f hA hV (by omega)) (ci := 7) rfl hA dJ5_setLength_d00df_15 (by decide) (by decide) (by omega) (by omega) rfl rfl (Nat.le_of_ble_eq_true rfl)) rfl (fun σ e1 => ?_) (fun _ _ h9 => False.elim h9)
    subst e1
    refine g_aload_n (q := 19) (i := 0) hC dJ5_setLength_d00df_18 rfl rfl rfl ?_
    refine g_getf (q := 22) hC kg_J5_79 dJ5_setLength_d00df_19 hA rfl rfl ?_
    refine g_iload_n (q := 23) (i := 1) hC dJ5_setLength_d00df_22 rfl rfl rfl ?_
    refine g_icmp_ge (tgt := 63) (q := 26) hC dJ5_setLength_d00df_23 (by decide) rfl (fun c_23 => ?_) (fun c_23 => ?_)
    · refine g_aload_n (q := 64) (i := 0) hC dJ5_setLength_d00df_63 rfl rfl rfl ?_
      refine g_getf (q := 67) hC kg_J5_79 dJ5_setLength_d00df_64 hA rfl rfl ?_
      refine g_iload_n (q := 68) (i := 1) hC dJ5_setLength_d00df_67 rfl rfl rfl ?_
      refine g_icmp_le (tgt := 76) (q := 71) hC dJ5_setLength_d00df_68 (by decide) rfl (fun c_68 => ?_) (fun c_68 => ?_)
      · refine g_aload_n (q := 77) (i := 0) hC dJ5_setLength_d00df_76 rfl rfl rfl ?_
        refine g_iload_n (q := 78) (i := 1) hC dJ5_setLength_d00df_77 rfl rfl rfl ?_
        refine g_putf (q := 81) hC kf_J5_79 dJ5_setLength_d00df_78 hA (Nat.le_of_ble_eq_true rfl) rfl rfl rfl ?_
        exact g_vret hC hR dJ5_setLength_d00df_81 (by omega) (by omega) (⟨rfl, ml, rfl⟩)
      · refine g_aload_n (q := 72) (i := 0) hC dJ5_setLength_d00df_71 rfl rfl rfl ?_
        refine g_iconst (q := 73) (v := (1)) hC dJ5_setLength_d00df_72 rfl rfl ?_
        refine g_putf (q := 76) hC kf_J5_73 dJ5_setLength_d00df_73 hA (Nat.le_of_ble_eq_true rfl) rfl rfl rfl ?_
        refine g_aload_n (q := 77) (i := 0) hC dJ5_setLength_d00df_76 rfl rfl rfl ?_
        refine g_iload_n (q := 78) (i := 1) hC dJ5_setLength_d00df_77 rfl rfl rfl ?_
        refine g_putf2 (q := 81) hC kf_J5_79 dJ5_setLength_d00df_78 (Nat.le_of_ble_eq_true rfl) rfl rfl rfl ?_
        exact g_vret hC hR dJ5_setLength_d00df_81 (by omega) (by omega) (⟨rfl, 1, rfl⟩)
    · exact absurd (nI_le hn (by omega)) c_23
  · exact absurd (nI_pos' (by omega)) c_1
set_option maxRecDepth 100000 in
set_option maxHeartbeats 4000000 in
theorem c_sb_set (l : Launch) (hfl : l.stackTraces = false) (M : gMT) (σ : gS) (a v c n : Nat) (ml : Int32) (f : Nat → Int32) (hA : σ a = some (oB 7 (sbV v ml c))) (hV : σ v = some (aI M 0 16 f)) (hn : n ≤ c) (hc : c ≤ 16) : Con l M yJ4_setLength_d00df (.code yJ4_setLength_d00df cJ4_setLength_d00df 2 (Option.none : Option FieldType)) 8 0 0 [.ref a, .int (nI n)] σ (rV fun σ2 => ∃ ml2, σ2 = gUp σ a (oB 7 (sbV v ml2 n))) (nX) := by
  refine g_con hfl (by decide) (lv := [(0, .ref a), (1, .int (nI n))]) rfl rfl (Nat.le_of_ble_eq_true rfl) (fun X hX hC hR htb => ?_)
  refine g_aload_n (q := 1) (i := 0) hC dJ4_setLength_d00df_0 rfl rfl rfl ?_
  refine g_iload_n (q := 2) (i := 1) hC dJ4_setLength_d00df_1 rfl rfl rfl ?_
  refine g_cv (q := 5) (g_runSU hC ku_J4_333 md_J5_setLength_d00df (c_sb_set5 _ hC.fl M _ a v c n ml f hA hV hn hc) (ci := 7) rfl hA dJ4_setLength_d00df_2 (by decide) (by decide) (by omega) (by omega) rfl rfl (Nat.le_of_ble_eq_true rfl)) rfl (fun σ2 h1 => ?_) (fun _ _ h9 => False.elim h9)
  exact g_vret hC hR dJ4_setLength_d00df_5 (by omega) (by omega) (⟨rfl, h1⟩)
set_option maxRecDepth 100000 in
set_option maxHeartbeats 4000000 in
theorem c_sb_init5 (l : Launch) (hfl : l.stackTraces = false) (M : gMT) (σ : gS) (a : Nat) (m0 : Int32) (hA : σ a = some (oB 7 [.null, .int 0, .int m0, .int 0])) : Con l M yJ5_init_d00df (.code yJ5_init_d00df cJ5_init_d00df 2 (Option.none : Option FieldType)) 2 1 16 [.ref a, .int (nI 16)] σ (rV fun σ2 => ∃ v, σ v = none ∧ σ2 = gUp (gUp σ v (aI M 0 16 (fun _ => 0))) a (oB 7 (sbV v m0 0))) (nX) := by
  refine g_con hfl (by decide) (lv := [(0, .ref a), (1, .int (nI 16))]) rfl rfl (Nat.le_of_ble_eq_true rfl) (fun X hX hC hR htb => ?_)
  refine g_aload_n (q := 1) (i := 0) hC dJ5_init_d00df_0 rfl rfl rfl ?_
  refine g_objInit (q := 4) hC ko_J5_3 dJ5_init_d00df_1 (by decide) (by decide) rfl ?_
  refine g_getsC (q := 7) hC kt_J5_18 dJ5_init_d00df_4 rfl ?_
  refine g_if_eq (tgt := 25) (q := 10) hC dJ5_init_d00df_7 (by decide) rfl (fun c_7 => ?_) (fun c_7 => ?_)
  · exact absurd c_7 (by decide)
  · refine g_aload_n (q := 11) (i := 0) hC dJ5_init_d00df_10 rfl rfl rfl ?_
    refine g_iload_n (q := 12) (i := 1) hC dJ5_init_d00df_11 rfl rfl rfl ?_
    refine g_newa (q := 14) (atype := .byte) (t := 0) (ty := .byte) (len := 16) (x9 := (16, .inl (fun _ => 0))) hC ka_byte rfl rfl (fun _ => rfl) (by decide) (by decide) (by decide) dJ5_init_d00df_12 (by omega) (by omega) rfl (fun v hv => ?_)
    have hne : a ≠ v := upn_ne hA hv
    have hA2 : (gUp σ v (aI M 0 16 (fun _ => 0))) a = some (oB 7 [.null, .int 0, .int m0, .int 0]) := by rw [gUp_ne _ _ hne]; exact hA
    refine g_putf (q := 17) hC kf_J5_15 dJ5_init_d00df_14 hA2 (Nat.le_of_ble_eq_true rfl) rfl rfl rfl ?_
    refine g_aload_n (q := 18) (i := 0) hC dJ5_init_d00df_17 rfl rfl rfl ?_
    refine g_iconst (q := 19) (v := (0)) hC dJ5_init_d00df_18 rfl rfl ?_
    refine g_putf2 (q := 22) hC kf_J5_22 dJ5_init_d00df_19 (Nat.le_of_ble_eq_true rfl) rfl rfl rfl ?_
    refine g_goto (tgt := 38) hC dJ5_init_d00df_22 (by decide) ?_
    exact g_vret hC hR dJ5_init_d00df_38 (by omega) (by omega) (⟨rfl, v, hv, rfl⟩)
set_option maxRecDepth 100000 in
set_option maxHeartbeats 4000000 in
theorem c_sb_init (l : Launch) (hfl : l.stackTraces = false) (M : gMT) (σ : gS) (a : Nat) (m0 : Int32) (hA : σ a = some (oB 7 [.null, .int 0, .int m0, .int 0])) : Con l M yJ4_init_da8c8 (.code yJ4_init_da8c8 cJ4_init_da8c8 1 (Option.none : Option FieldType)) 3 1 16 [.ref a] σ (rV fun σ2 => ∃ v, σ v = none ∧ σ2 = gUp (gUp σ v (aI M 0 16 (fun _ => 0))) a (oB 7 (sbV v m0 0))) (nX) := by
  refine g_con hfl (by decide) (lv := [(0, .ref a)]) rfl rfl (Nat.le_of_ble_eq_true rfl) (fun X hX hC hR htb => ?_)
  refine g_aload_n (q := 1) (i := 0) hC dJ4_init_da8c8_0 rfl rfl rfl ?_
  refine g_bipush (q := 3) (v := nI 16) hC dJ4_init_da8c8_1 rfl rfl ?_
  refine g_cv (q := 6) (g_runI hC ki_J4_1 md_J5_init_d00df (c_sb_init5 _ hC.fl M _ a m0 hA) dJ4_init_da8c8_3 (by decide) (by decide) (by omega) (by omega) rfl rfl (Nat.le_of_ble_eq_true rfl)) rfl (fun σ2 h1 => ?_) (fun _ _ h9 => False.elim h9)
  exact g_vret hC hR dJ4_init_da8c8_6 (by omega) (by omega) (⟨rfl, h1⟩)
