/-! ===== the ledger: looking up (2) ===== -/
def dpw (ρ : gSt) (q : Nat) : Nat → Nat
  | 0 => 0
  | i + 1 => if wi ρ i q = true then max (dpw ρ q i) (dep ρ i) else dpw ρ q i
def cnw (ρ : gSt) (q : Nat) : Nat → Nat
  | 0 => 0
  | i + 1 => cnw ρ q i + (if wi ρ i q = true then 1 else 0)
theorem dpu_le (ρ : gSt) (p : Nat) : ∀ d k, dpu ρ p d k ≤ d + k := by
  intro d
  induction d with
  | zero => intro k; exact Nat.le_add_left _ _
  | succ d ih =>
    intro k
    unfold dpu
    split
    · omega
    · have := ih (k + 1)
      omega
theorem dep_le (ρ : gSt) (p : Nat) : dep ρ p ≤ 9 := dpu_le ρ p 9 0
theorem dpw_le (ρ : gSt) (q : Nat) : ∀ n, dpw ρ q n ≤ 9 := by
  intro n
  induction n with
  | zero => exact Nat.zero_le _
  | succ n ih =>
    unfold dpw
    have := dep_le ρ n
    split <;> omega
theorem iMax_nI {a b : Nat} (ha : a < 2 ^ 31) (hb : b < 2 ^ 31) : iMax (nI a) (nI b) = nI (max a b) := by
  unfold iMax
  by_cases h : a < b
  · rw [if_pos (nI_lt h hb), Nat.max_eq_right (by omega)]
  · rw [if_neg (nI_nlt (by omega) ha), Nat.max_eq_left (by omega)]
set_option maxRecDepth 100000 in
set_option maxHeartbeats 4000000 in
theorem c_L_deepest (l : Launch) (hfl : l.stackTraces = false) (M : gMT) (σ : gS) (A : gAd) (ρ : gSt) (W : gWt) (q : Nat) (hr : Raw M σ A ρ W) (hW : RW ρ) (hq : q < ρ.1 11 2) : Con l M yX4_deepestWithin (.code yX4_deepestWithin cX4_deepestWithin 5 (Option.some FieldType.int)) 4 0 0 [.ref (A 0 0), .ref (A 2 q)] σ (rI (pI σ (nI (dpw ρ q (ρ.1 10 3))))) (nX) := by
  refine g_con hfl (by decide) (lv := [(0, .ref (A 0 0)), (1, .ref (A 2 q))]) rfl rfl (Nat.le_of_ble_eq_true rfl) (fun X hX hC hR htb => ?_)
  have b2 := hW.2.1
  have loop : ∀ (d9 i : Nat), i + d9 = ρ.1 10 3 → G X M 5 (gQ X M 0 0 (rI (pI σ (nI (dpw ρ q (ρ.1 10 3))))) nX) 0 0 σ 4 [(3, .int (nI i)), (2, .int (nI (dpw ρ q i))), (0, .ref (A 0 0)), (1, .ref (A 2 q))] [] := by
    intro d9
    induction d9 with
    | zero =>
      intro i h1
      refine g_iload_n (q := 5) (i := 3) hC dX4_deepestWithin_4 rfl rfl rfl ?_
      refine g_aload_n (q := 6) (i := 0) hC dX4_deepestWithin_5 rfl rfl rfl ?_
      refine g_getf (q := 9) (v := .ref (A 5 3)) hC kg_X4_19 dX4_deepestWithin_6 (hr.led hW) rfl rfl ?_
      refine g_ci (q := 12) (g_runV hC kv_X4_99 md_Jx4a65c_size_8abf5 (c_size _ hC.fl M _ (A 5 3) _ _ _ hr.l3) (ci := 6) rfl hr.l3 dX4_deepestWithin_9 (by decide) (by decide) (by omega) (by omega) rfl rfl (Nat.le_of_ble_eq_true rfl)) rfl (fun r σ ⟨e1, e2⟩ => ?_) (fun _ _ h9 => False.elim h9)
      subst e1 e2
      refine g_icmp_ge (tgt := 53) (q := 15) hC dX4_deepestWithin_12 (by decide) rfl (fun c_12 => ?_) (fun c_12 => ?_)
      · refine g_iload_n (q := 54) (i := 2) hC dX4_deepestWithin_53 rfl rfl rfl ?_
        exact g_iret hC hR dX4_deepestWithin_54 (by omega) (by omega) (⟨_, rfl, by rw [show i = ρ.1 10 3 by omega], rfl⟩)
      · exact absurd (nI_le (by omega) (by omega)) c_12
    | succ d9 ih =>
      intro i h1
      have hd := dpw_le ρ q i
      have hd2 := dep_le ρ i
      have next : ∀ v : Nat, v = dpw ρ q (i + 1) → G X M 5 (gQ X M 0 0 (rI (pI σ (nI (dpw ρ q (ρ.1 10 3))))) nX) 0 0 σ 47 [(3, .int (nI i)), (2, .int (nI v)), (0, .ref (A 0 0)), (1, .ref (A 2 q))] [] := by
        intro v hv
        refine g_iinc (q := 50) (i := 3) (v := (nI (i + 1))) hC dX4_deepestWithin_47 rfl (nI_1 _) rfl ?_
        refine g_goto (tgt := 4) hC dX4_deepestWithin_50 (by decide) ?_
        rw [hv]
        refine g_sub (lv0 := [(3, .int (nI (i + 1))), (2, .int (nI (dpw ρ q (i + 1)))), (0, .ref (A 0 0)), (1, .ref (A 2 q))]) ⟨rfl, rfl, rfl, rfl, trivial⟩ ?_
        exact ih (i + 1) (by omega)
      refine g_iload_n (q := 5) (i := 3) hC dX4_deepestWithin_4 rfl rfl rfl ?_
      refine g_aload_n (q := 6) (i := 0) hC dX4_deepestWithin_5 rfl rfl rfl ?_
      refine g_getf (q := 9) (v := .ref (A 5 3)) hC kg_X4_19 dX4_deepestWithin_6 (hr.led hW) rfl rfl ?_
      refine g_ci (q := 12) (g_runV hC kv_X4_99 md_Jx4a65c_size_8abf5 (c_size _ hC.fl M _ (A 5 3) _ _ _ hr.l3) (ci := 6) rfl hr.l3 dX4_deepestWithin_9 (by decide) (by decide) (by omega) (by omega) rfl rfl (Nat.le_of_ble_eq_true rfl)) rfl (fun r σ ⟨e1, e2⟩ => ?_) (fun _ _ h9 => False.elim h9)
      subst e1 e2
      refine g_icmp_ge (tgt := 53) (q := 15) hC dX4_deepestWithin_12 (by decide) rfl (fun c_12 => ?_) (fun c_12 => ?_)
      · exact absurd c_12 (nI_ge (by omega) (by omega))
      · refine g_aload_n (q := 16) (i := 0) hC dX4_deepestWithin_15 rfl rfl rfl ?_
        refine g_getf (q := 19) (v := .ref (A 5 3)) hC kg_X4_19 dX4_deepestWithin_16 (hr.led hW) rfl rfl ?_
        refine g_iload_n (q := 20) (i := 3) hC dX4_deepestWithin_19 rfl rfl rfl ?_
        refine g_cr (q := 23) (g_runV hC kv_X4_186 md_Jx4a65c_get_915e3 (c_gt3 _ hC.fl hr i (by omega)) (ci := 6) rfl hr.l3 dX4_deepestWithin_20 (by decide) (by decide) (by omega) (by omega) rfl rfl (Nat.le_of_ble_eq_true rfl)) rfl (fun r σ ⟨e1, e2⟩ => ?_) (fun _ _ h9 => False.elim h9)
        subst e1 e2
        refine g_ccast (q := 26) (ci := 1) hC kc_X4_56 dX4_deepestWithin_23 rfl (hr.prj (by omega)) rfl ?_
        refine g_astore (q := 28) (i := 4) hC dX4_deepestWithin_26 (by decide) rfl ?_
        refine g_aload (q := 30) (i := 4) hC dX4_deepestWithin_28 rfl rfl ?_
        refine g_aload_n (q := 31) (i := 1) hC dX4_deepestWithin_30 rfl rfl rfl ?_
        refine g_ci (q := 34) (g_runV hC kv_X4_287 md_X1_isWithin (c_P_isWithin _ hC.fl M _ A ρ W i q hr hW (by omega) hq) (ci := 1) rfl (hr.prj (by omega)) dX4_deepestWithin_31 (by decide) (by decide) (by omega) (by omega) rfl rfl (Nat.le_of_ble_eq_true rfl)) rfl (fun r σ ⟨e1, e2⟩ => ?_) (fun _ _ h9 => False.elim h9)
        subst e1 e2
        refine g_if_eq (tgt := 47) (q := 37) hC dX4_deepestWithin_34 (by decide) rfl (fun c_34 => ?_) (fun c_34 => ?_)
        · refine g_sub (lv0 := [(3, .int (nI i)), (2, .int (nI (dpw ρ q i))), (0, .ref (A 0 0)), (1, .ref (A 2 q))]) ⟨rfl, rfl, rfl, rfl, trivial⟩ ?_
          exact next _ (by rw [dpw, if_neg (by rw [bI_0.mp c_34]; decide)])
        · refine g_iload_n (q := 38) (i := 2) hC dX4_deepestWithin_37 rfl rfl rfl ?_
          refine g_aload (q := 40) (i := 4) hC dX4_deepestWithin_38 rfl rfl ?_
          refine g_ci (q := 43) (g_runV hC kv_X4_139 md_X1_letters (c_P_letters _ hC.fl M _ A ρ W i hr hW (by omega)) (ci := 1) rfl (hr.prj (by omega)) dX4_deepestWithin_40 (by decide) (by decide) (by omega) (by omega) rfl rfl (Nat.le_of_ble_eq_true rfl)) rfl (fun r σ ⟨e1, e2⟩ => ?_) (fun _ _ h9 => False.elim h9)
          subst e1 e2
          refine g_max (q := 46) hC ks_X4_294 md_J9_max_7cf53 dX4_deepestWithin_43 (by decide) (Nat.le_of_ble_eq_true rfl) (by omega) (by omega) rfl ?_
          refine g_istore_n (q := 47) (i := 2) hC dX4_deepestWithin_46 rfl (by decide) rfl ?_
          rw [iMax_nI (by omega) (by omega)]
          refine g_sub (lv0 := [(3, .int (nI i)), (2, .int (nI (max (dpw ρ q i) (dep ρ i)))), (0, .ref (A 0 0)), (1, .ref (A 2 q))]) ⟨rfl, rfl, rfl, rfl, trivial⟩ ?_
          exact next _ (by rw [dpw, if_pos (bI_n.mp c_34)])
  refine g_iconst (q := 1) (v := nI 0) hC dX4_deepestWithin_0 rfl rfl ?_
  refine g_istore_n (q := 2) (i := 2) hC dX4_deepestWithin_1 rfl (by decide) rfl ?_
  refine g_iconst (q := 3) (v := nI 0) hC dX4_deepestWithin_2 rfl rfl ?_
  refine g_istore_n (q := 4) (i := 3) hC dX4_deepestWithin_3 rfl (by decide) rfl ?_
  refine g_sub (lv0 := [(3, .int (nI 0)), (2, .int (nI 0)), (0, .ref (A 0 0)), (1, .ref (A 2 q))]) ⟨rfl, rfl, rfl, rfl, trivial⟩ ?_
  exact loop _ 0 (Nat.zero_add _)
set_option maxRecDepth 100000 in
set_option maxHeartbeats 4000000 in
theorem c_L_projectsWithin (l : Launch) (hfl : l.stackTraces = false) (M : gMT) (σ : gS) (A : gAd) (ρ : gSt) (W : gWt) (q : Nat) (hr : Raw M σ A ρ W) (hW : RW ρ) (hq : q < ρ.1 11 2) : Con l M yX4_projectsWithin (.code yX4_projectsWithin cX4_projectsWithin 4 (Option.some FieldType.int)) 4 0 0 [.ref (A 0 0), .ref (A 2 q)] σ (rI (pI σ (nI (cnw ρ q (ρ.1 10 3))))) (nX) := by
  refine g_con hfl (by decide) (lv := [(0, .ref (A 0 0)), (1, .ref (A 2 q))]) rfl rfl (Nat.le_of_ble_eq_true rfl) (fun X hX hC hR htb => ?_)
  have b2 := hW.2.1
  have loop : ∀ (d9 i : Nat), i + d9 = ρ.1 10 3 → G X M 4 (gQ X M 0 0 (rI (pI σ (nI (cnw ρ q (ρ.1 10 3))))) nX) 0 0 σ 4 [(3, .int (nI i)), (2, .int (nI (cnw ρ q i))), (0, .ref (A 0 0)), (1, .ref (A 2 q))] [] := by
    intro d9
    induction d9 with
    | zero =>
      intro i h1
      refine g_iload_n (q := 5) (i := 3) hC dX4_projectsWithin_4 rfl rfl rfl ?_
      refine g_aload_n (q := 6) (i := 0) hC dX4_projectsWithin_5 rfl rfl rfl ?_
      refine g_getf (q := 9) (v := .ref (A 5 3)) hC kg_X4_19 dX4_projectsWithin_6 (hr.led hW) rfl rfl ?_
      refine g_ci (q := 12) (g_runV hC kv_X4_99 md_Jx4a65c_size_8abf5 (c_size _ hC.fl M _ (A 5 3) _ _ _ hr.l3) (ci := 6) rfl hr.l3 dX4_projectsWithin_9 (by decide) (by decide) (by omega) (by omega) rfl rfl (Nat.le_of_ble_eq_true rfl)) rfl (fun r σ ⟨e1, e2⟩ => ?_) (fun _ _ h9 => False.elim h9)
      subst e1 e2
      refine g_icmp_ge (tgt := 42) (q := 15) hC dX4_projectsWithin_12 (by decide) rfl (fun c_12 => ?_) (fun c_12 => ?_)
      · refine g_iload_n (q := 43) (i := 2) hC dX4_projectsWithin_42 rfl rfl rfl ?_
        exact g_iret hC hR dX4_projectsWithin_43 (by omega) (by omega) (⟨_, rfl, by rw [show i = ρ.1 10 3 by omega], rfl⟩)
      · exact absurd (nI_le (by omega) (by omega)) c_12
    | succ d9 ih =>
      intro i h1
      have next : ∀ v : Nat, v = cnw ρ q (i + 1) → G X M 4 (gQ X M 0 0 (rI (pI σ (nI (cnw ρ q (ρ.1 10 3))))) nX) 0 0 σ 36 [(3, .int (nI i)), (2, .int (nI v)), (0, .ref (A 0 0)), (1, .ref (A 2 q))] [] := by
        intro v hv
        refine g_iinc (q := 39) (i := 3) (v := (nI (i + 1))) hC dX4_projectsWithin_36 rfl (nI_1 _) rfl ?_
        refine g_goto (tgt := 4) hC dX4_projectsWithin_39 (by decide) ?_
        rw [hv]
        refine g_sub (lv0 := [(3, .int (nI (i + 1))), (2, .int (nI (cnw ρ q (i + 1)))), (0, .ref (A 0 0)), (1, .ref (A 2 q))]) ⟨rfl, rfl, rfl, rfl, trivial⟩ ?_
        exact ih (i + 1) (by omega)
      refine g_iload_n (q := 5) (i := 3) hC dX4_projectsWithin_4 rfl rfl rfl ?_
      refine g_aload_n (q := 6) (i := 0) hC dX4_projectsWithin_5 rfl rfl rfl ?_
      refine g_getf (q := 9) (v := .ref (A 5 3)) hC kg_X4_19 dX4_projectsWithin_6 (hr.led hW) rfl rfl ?_
      refine g_ci (q := 12) (g_runV hC kv_X4_99 md_Jx4a65c_size_8abf5 (c_size _ hC.fl M _ (A 5 3) _ _ _ hr.l3) (ci := 6) rfl hr.l3 dX4_projectsWithin_9 (by decide) (by decide) (by omega) (by omega) rfl rfl (Nat.le_of_ble_eq_true rfl)) rfl (fun r σ ⟨e1, e2⟩ => ?_) (fun _ _ h9 => False.elim h9)
      subst e1 e2
      refine g_icmp_ge (tgt := 42) (q := 15) hC dX4_projectsWithin_12 (by decide) rfl (fun c_12 => ?_) (fun c_12 => ?_)
      · exact absurd c_12 (nI_ge (by omega) (by omega))
      · refine g_aload_n (q := 16) (i := 0) hC dX4_projectsWithin_15 rfl rfl rfl ?_
        refine g_getf (q := 19) (v := .ref (A 5 3)) hC kg_X4_19 dX4_projectsWithin_16 (hr.led hW) rfl rfl ?_
        refine g_iload_n (q := 20) (i := 3) hC dX4_projectsWithin_19 rfl rfl rfl ?_
        refine g_cr (q := 23) (g_runV hC kv_X4_186 md_Jx4a65c_get_915e3 (c_gt3 _ hC.fl hr i (by omega)) (ci := 6) rfl hr.l3 dX4_projectsWithin_20 (by decide) (by decide) (by omega) (by omega) rfl rfl (Nat.le_of_ble_eq_true rfl)) rfl (fun r σ ⟨e1, e2⟩ => ?_) (fun _ _ h9 => False.elim h9)
        subst e1 e2
        refine g_ccast (q := 26) (ci := 1) hC kc_X4_56 dX4_projectsWithin_23 rfl (hr.prj (by omega)) rfl ?_
        refine g_aload_n (q := 27) (i := 1) hC dX4_projectsWithin_26 rfl rfl rfl ?_
        refine g_ci (q := 30) (g_runV hC kv_X4_287 md_X1_isWithin (c_P_isWithin _ hC.fl M _ A ρ W i q hr hW (by omega) hq) (ci := 1) rfl (hr.prj (by omega)) dX4_projectsWithin_27 (by decide) (by decide) (by omega) (by omega) rfl rfl (Nat.le_of_ble_eq_true rfl)) rfl (fun r σ ⟨e1, e2⟩ => ?_) (fun _ _ h9 => False.elim h9)
        subst e1 e2
        refine g_if_eq (tgt := 36) (q := 33) hC dX4_projectsWithin_30 (by decide) rfl (fun c_30 => ?_) (fun c_30 => ?_)
        · refine g_sub (lv0 := [(3, .int (nI i)), (2, .int (nI (cnw ρ q i))), (0, .ref (A 0 0)), (1, .ref (A 2 q))]) ⟨rfl, rfl, rfl, rfl, trivial⟩ ?_
          exact next _ (by rw [cnw, if_neg (by rw [bI_0.mp c_30]; decide)]; rfl)
        · refine g_iinc (q := 36) (i := 2) (v := (nI ((cnw ρ q i) + 1))) hC dX4_projectsWithin_33 rfl (nI_1 _) rfl ?_
          refine g_sub (lv0 := [(3, .int (nI i)), (2, .int (nI (cnw ρ q i + 1))), (0, .ref (A 0 0)), (1, .ref (A 2 q))]) ⟨rfl, rfl, rfl, rfl, trivial⟩ ?_
          exact next _ (by rw [cnw, if_pos (bI_n.mp c_30)])
  refine g_iconst (q := 1) (v := nI 0) hC dX4_projectsWithin_0 rfl rfl ?_
  refine g_istore_n (q := 2) (i := 2) hC dX4_projectsWithin_1 rfl (by decide) rfl ?_
  refine g_iconst (q := 3) (v := nI 0) hC dX4_projectsWithin_2 rfl rfl ?_
  refine g_istore_n (q := 4) (i := 3) hC dX4_projectsWithin_3 rfl (by decide) rfl ?_
  refine g_sub (lv0 := [(3, .int (nI 0)), (2, .int (nI 0)), (0, .ref (A 0 0)), (1, .ref (A 2 q))]) ⟨rfl, rfl, rfl, rfl, trivial⟩ ?_
  exact loop _ 0 (Nat.zero_add _)
def cmL2 (ρ : gSt) (p t : Nat) : Bool := decide (nI (dep ρ t) + (nI (dpw ρ p (ρ.1 10 3)) - nI (dep ρ p) + 1) ≤ 8) && (match cho ρ t (nI (ρ.1 2 p)) with
  | none => true
  | some q => decide (q = p))
def cmL (ρ : gSt) (p t : Nat) : Bool := (!decide (p = 0) && !wi ρ t p) && cmL2 ρ p t
set_option maxRecDepth 100000 in
set_option maxHeartbeats 4000000 in
theorem c_L_canMove (l : Launch) (hfl : l.stackTraces = false) (M : gMT) (σ : gS) (A : gAd) (ρ : gSt) (W : gWt) (p t : Nat) (hr : Raw M σ A ρ W) (hW : RW ρ) (hp : p < ρ.1 11 2) (ht : t < ρ.1 11 2) : Con l M yX4_canMove (.code yX4_canMove cX4_canMove 5 (Option.some FieldType.boolean)) 5 0 0 [.ref (A 0 0), .ref (A 2 p), .ref (A 2 t)] σ (rI (pI σ (bI (cmL ρ p t)))) (nX) := by
  refine g_con hfl (by decide) (lv := [(0, .ref (A 0 0)), (1, .ref (A 2 p)), (2, .ref (A 2 t))]) rfl rfl (Nat.le_of_ble_eq_true rfl) (fun X hX hC hR htb => ?_)
  have b2 := hW.2.1
  have no : cmL ρ p t = false → G X M 5 (gQ X M 0 0 (rI (pI σ (bI (cmL ρ p t)))) nX) 0 0 σ 16 [(0, .ref (A 0 0)), (1, .ref (A 2 p)), (2, .ref (A 2 t))] [] := by
    intro h
    refine g_iconst (q := 17) (v := (0)) hC dX4_canMove_16 rfl rfl ?_
    exact g_zret hC hR (rfl) dX4_canMove_17 (by omega) (by omega) (⟨_, rfl, by rw [h]; rfl, rfl⟩)
  refine g_aload_n (q := 1) (i := 1) hC dX4_canMove_0 rfl rfl rfl ?_
  refine g_aload_n (q := 2) (i := 0) hC dX4_canMove_1 rfl rfl rfl ?_
  refine g_getf (q := 5) (v := .ref (A 2 0)) hC kg_X4_61 dX4_canMove_2 (hr.led hW) rfl rfl ?_
  refine g_acmp_eq (tgt := 16) (q := 8) (rx := some (A 2 p)) (ry := some (A 2 0)) hC dX4_canMove_5 (by decide) rfl (fun c_5 => ?_) (fun c_5 => ?_)
  · have e : p = 0 := (hr.inj (k := 2) (by decide) hp (by omega)).mp (Option.some.inj c_5)
    exact no (by rw [cmL, decide_eq_true e]; rfl)
  · have e : ¬ p = 0 := fun z => c_5 (by rw [z])
    refine g_aload_n (q := 9) (i := 2) hC dX4_canMove_8 rfl rfl rfl ?_
    refine g_aload_n (q := 10) (i := 1) hC dX4_canMove_9 rfl rfl rfl ?_
    refine g_ci (q := 13) (g_runV hC kv_X4_287 md_X1_isWithin (c_P_isWithin _ hC.fl M _ A ρ W t p hr hW ht hp) (ci := 1) rfl (hr.prj ht) dX4_canMove_10 (by decide) (by decide) (by omega) (by omega) rfl rfl (Nat.le_of_ble_eq_true rfl)) rfl (fun r σ ⟨e1, e2⟩ => ?_) (fun _ _ h9 => False.elim h9)
    subst e1 e2
    refine g_if_eq (tgt := 18) (q := 16) hC dX4_canMove_13 (by decide) rfl (fun c_13 => ?_) (fun c_13 => ?_)
    · have hw := bI_0.mp c_13
      have eC : cmL ρ p t = cmL2 ρ p t := by rw [cmL, decide_eq_false e, hw]; rfl
      rw [eC]
      refine g_aload_n (q := 19) (i := 0) hC dX4_canMove_18 rfl rfl rfl ?_
      refine g_aload_n (q := 20) (i := 1) hC dX4_canMove_19 rfl rfl rfl ?_
      refine g_ci (q := 23) (g_runV hC kv_X4_291 md_X4_deepestWithin (c_L_deepest _ hC.fl M _ A ρ W p hr hW hp) (ci := 4) rfl (hr.led hW) dX4_canMove_20 (by decide) (by decide) (by omega) (by omega) rfl rfl (Nat.le_of_ble_eq_true rfl)) rfl (fun r σ ⟨e1, e2⟩ => ?_) (fun _ _ h9 => False.elim h9)
      subst e1 e2
      refine g_aload_n (q := 24) (i := 1) hC dX4_canMove_23 rfl rfl rfl ?_
      refine g_ci (q := 27) (g_runV hC kv_X4_139 md_X1_letters (c_P_letters _ hC.fl M _ A ρ W p hr hW hp) (ci := 1) rfl (hr.prj hp) dX4_canMove_24 (by decide) (by decide) (by omega) (by omega) rfl rfl (Nat.le_of_ble_eq_true rfl)) rfl (fun r σ ⟨e1, e2⟩ => ?_) (fun _ _ h9 => False.elim h9)
      subst e1 e2
      refine g_isub (q := 28) hC dX4_canMove_27 rfl rfl ?_
      refine g_iconst (q := 29) (v := (1)) hC dX4_canMove_28 rfl rfl ?_
      refine g_iadd (q := 30) hC dX4_canMove_29 rfl rfl ?_
      refine g_istore_n (q := 31) (i := 3) hC dX4_canMove_30 rfl (by decide) rfl ?_
      refine g_aload_n (q := 32) (i := 2) hC dX4_canMove_31 rfl rfl rfl ?_
      refine g_ci (q := 35) (g_runV hC kv_X4_139 md_X1_letters (c_P_letters _ hC.fl M _ A ρ W t hr hW ht) (ci := 1) rfl (hr.prj ht) dX4_canMove_32 (by decide) (by decide) (by omega) (by omega) rfl rfl (Nat.le_of_ble_eq_true rfl)) rfl (fun r σ ⟨e1, e2⟩ => ?_) (fun _ _ h9 => False.elim h9)
      subst e1 e2
      refine g_iload_n (q := 36) (i := 3) hC dX4_canMove_35 rfl rfl rfl ?_
      refine g_iadd (q := 37) hC dX4_canMove_36 rfl rfl ?_
      refine g_bipush (q := 39) (v := (8)) hC dX4_canMove_37 rfl rfl ?_
      refine g_icmp_le (tgt := 44) (q := 42) hC dX4_canMove_39 (by decide) rfl (fun c_39 => ?_) (fun c_39 => ?_)
      · have g1 := decide_eq_true c_39
        refine g_aload_n (q := 45) (i := 0) hC dX4_canMove_44 rfl rfl rfl ?_
        refine g_aload_n (q := 46) (i := 2) hC dX4_canMove_45 rfl rfl rfl ?_
        refine g_aload_n (q := 47) (i := 1) hC dX4_canMove_46 rfl rfl rfl ?_
        refine g_getf (q := 50) (v := .int (nI (ρ.1 2 p))) hC kg_X4_142 dX4_canMove_47 (hr.prj (by omega)) rfl rfl ?_
        refine g_cq (q := 53) (g_runV hC kv_X4_270 md_X4_childOf (c_L_childOf _ hC.fl M _ A ρ W t (nI (ρ.1 2 p)) hr hW ht) (ci := 4) rfl (hr.led hW) dX4_canMove_50 (by decide) (by decide) (by omega) (by omega) rfl rfl (Nat.le_of_ble_eq_true rfl)) rfl (fun r σ ⟨e1, e2⟩ => ?_) (fun _ _ h9 => False.elim h9)
        subst e1 e2
        cases e9 : cho ρ t (nI (ρ.1 2 p)) with
        | none =>
          refine g_astoreQ (q := 55) (i := 4) (o := none) hC dX4_canMove_53 (by decide) rfl ?_
          refine g_aloadQ (q := 57) (i := 4) (o := none) hC dX4_canMove_55 rfl rfl ?_
          refine g_ifnull (o := none) (tgt := 66) (q := 60) hC dX4_canMove_57 (by decide) rfl (fun c_57 => ?_) (fun a c_57 => ?_)
          · refine g_iconst (q := 67) (v := (1)) hC dX4_canMove_66 rfl rfl ?_
            refine g_goto (tgt := 71) hC dX4_canMove_67 (by decide) ?_
            exact g_zret hC hR (rfl) dX4_canMove_71 (by omega) (by omega) (⟨_, rfl, by rw [cmL2, g1, e9]; rfl, rfl⟩)
          · cases c_57
        | some q9 =>
          have hq9 := cho_lt e9
          refine g_astoreQ (q := 55) (i := 4) (o := (some (A 2 q9))) hC dX4_canMove_53 (by decide) rfl ?_
          refine g_aloadQ (q := 57) (i := 4) (o := (some (A 2 q9))) hC dX4_canMove_55 rfl rfl ?_
          refine g_ifnull (o := some (A 2 q9)) (tgt := 66) (q := 60) hC dX4_canMove_57 (by decide) rfl (fun c_57 => ?_) (fun a c_57 => ?_)
          · cases c_57
          · skip
            refine g_aload (q := 62) (i := 4) hC dX4_canMove_60 rfl rfl ?_
            refine g_aload_n (q := 63) (i := 1) hC dX4_canMove_62 rfl rfl rfl ?_
            refine g_acmp_ne (tgt := 70) (q := 66) (rx := some (A 2 q9)) (ry := some (A 2 p)) hC dX4_canMove_63 (by decide) rfl (fun c_63 => ?_) (fun c_63 => ?_)
            · have ne : ¬ q9 = p := fun z => c_63 (by rw [z])
              refine g_iconst (q := 71) (v := (0)) hC dX4_canMove_70 rfl rfl ?_
              exact g_zret hC hR (rfl) dX4_canMove_71 (by omega) (by omega) (⟨_, rfl, by rw [cmL2, g1, e9]; show _ = bI (true && decide (q9 = p)); rw [decide_eq_false ne]; rfl, rfl⟩)
            · have e := (hr.inj (k := 2) (by decide) (by omega) hp).mp (Option.some.inj c_63)
              refine g_iconst (q := 67) (v := (1)) hC dX4_canMove_66 rfl rfl ?_
              refine g_goto (tgt := 71) hC dX4_canMove_67 (by decide) ?_
              exact g_zret hC hR (rfl) dX4_canMove_71 (by omega) (by omega) (⟨_, rfl, by rw [cmL2, g1, e9]; show _ = bI (true && decide (q9 = p)); rw [decide_eq_true e]; rfl, rfl⟩)
      · have g1 := decide_eq_false c_39
        refine g_iconst (q := 43) (v := (0)) hC dX4_canMove_42 rfl rfl ?_
        exact g_zret hC hR (rfl) dX4_canMove_43 (by omega) (by omega) (⟨_, rfl, by rw [cmL2, g1]; rfl, rfl⟩)
    · exact no (by rw [cmL, bI_n.mp c_13]; simp)
