/-! ===== the ledger: looking up ===== -/
def inR (x : Int32) (n : Nat) : Bool := decide (0 ≤ x) && decide (x < nI n)
theorem inR_nI {x : Int32} {n : Nat} (hn : n < 2 ^ 31) (h : inR x n = true) : ∃ p, p < n ∧ x = nI p ∧ x.toNatClampNeg = p := by
  obtain ⟨h1, h2⟩ := Bool.and_eq_true_iff.mp h
  have e := nonneg_nI (of_decide_eq_true h1)
  refine ⟨x.toNatClampNeg, ?_, e, rfl⟩
  have h3 := of_decide_eq_true h2
  rw [e] at h3
  exact (nI_ltI (Int32.toNatClampNeg_lt _) hn).mp h3
theorem inR_f1 {x : Int32} {n : Nat} (h : x < 0) : inR x n = false := by
  unfold inR
  rw [decide_eq_false (Int32.not_le.mpr h)]
  rfl
theorem inR_f2 {x : Int32} {n : Nat} (h : nI n ≤ x) : inR x n = false := by
  unfold inR
  rw [decide_eq_false (p := x < nI n) (Int32.not_lt.mpr h), Bool.and_false]
theorem inR_t {x : Int32} {n : Nat} (h : ¬ x < 0) (h2 : x < nI n) : inR x n = true := by
  unfold inR
  rw [decide_eq_true (Int32.not_lt.mp h), decide_eq_true h2]
  rfl
set_option maxRecDepth 100000 in
set_option maxHeartbeats 4000000 in
theorem c_L_projectOfNumber (l : Launch) (hfl : l.stackTraces = false) (M : gMT) (σ : gS) (A : gAd) (ρ : gSt) (W : gWt) (x : Int32) (hr : Raw M σ A ρ W) (hW : RW ρ) : Con l M yX4_projectOfNumber (.code yX4_projectOfNumber cX4_projectOfNumber 2 (Option.some (FieldType.object "AllotmentLedger$Project"))) 6 1 6 [.ref (A 0 0), .int x] σ (rR fun r σ2 => (inR x (ρ.1 10 3) = true ∧ r = A 2 x.toNatClampNeg) ∧ σ2 = σ) (fun E σ2 => (E = eI ∧ inR x (ρ.1 10 3) = false) ∧ σ2 = σ) := by
  refine g_con hfl (by decide) (lv := [(0, .ref (A 0 0)), (1, .int x)]) rfl rfl (Nat.le_of_ble_eq_true rfl) (fun X hX hC hR htb => ?_)
  have b2 := hW.2.1
  have bad : inR x (ρ.1 10 3) = false → G X M 2 (gQ X M 1 6 (rR fun r σ2 => (inR x (ρ.1 10 3) = true ∧ r = A 2 x.toNatClampNeg) ∧ σ2 = σ) (fun E σ2 => (E = eI ∧ inR x (ρ.1 10 3) = false) ∧ σ2 = σ)) 0 0 σ 15 [(0, .ref (A 0 0)), (1, .int x)] [] := by
    intro h
    exact g_throwSW hC hR htb (tI (is := 268) (text := "no such project") (by decide +kernel)) dX4_projectOfNumber_15 dX4_projectOfNumber_18 dX4_projectOfNumber_19 dX4_projectOfNumber_22 dX4_projectOfNumber_25 (by decide) (Nat.le_of_ble_eq_true rfl) (by omega) (by omega) (⟨⟨rfl, h⟩, rfl⟩)
  refine g_iload_n (q := 1) (i := 1) hC dX4_projectOfNumber_0 rfl rfl rfl ?_
  refine g_if_lt (tgt := 15) (q := 4) hC dX4_projectOfNumber_1 (by decide) rfl (fun c_1 => ?_) (fun c_1 => ?_)
  · exact bad (inR_f1 c_1)
  · refine g_iload_n (q := 5) (i := 1) hC dX4_projectOfNumber_4 rfl rfl rfl ?_
    refine g_aload_n (q := 6) (i := 0) hC dX4_projectOfNumber_5 rfl rfl rfl ?_
    refine g_getf (q := 9) (v := .ref (A 5 3)) hC kg_X4_19 dX4_projectOfNumber_6 (hr.led hW) rfl rfl ?_
    refine g_ci (q := 12) (g_runV hC kv_X4_99 md_Jx4a65c_size_8abf5 (c_size _ hC.fl M _ (A 5 3) _ _ _ hr.l3) (ci := 6) rfl hr.l3 dX4_projectOfNumber_9 (by decide) (by decide) (by omega) (by omega) rfl rfl (Nat.le_of_ble_eq_true rfl)) rfl (fun r σ ⟨e1, e2⟩ => ?_) (fun _ _ h9 => False.elim h9)
    subst e1 e2
    refine g_icmp_lt (tgt := 26) (q := 15) hC dX4_projectOfNumber_12 (by decide) rfl (fun c_12 => ?_) (fun c_12 => ?_)
    · have h8 := inR_t c_1 c_12
      obtain ⟨p, hp, ex, ec⟩ := inR_nI (by omega) h8
      subst ex
      refine g_aload_n (q := 27) (i := 0) hC dX4_projectOfNumber_26 rfl rfl rfl ?_
      refine g_getf (q := 30) (v := .ref (A 5 3)) hC kg_X4_19 dX4_projectOfNumber_27 (hr.led hW) rfl rfl ?_
      refine g_iload_n (q := 31) (i := 1) hC dX4_projectOfNumber_30 rfl rfl rfl ?_
      refine g_cr (q := 34) (g_runV hC kv_X4_186 md_Jx4a65c_get_915e3 (c_gt3 _ hC.fl hr p hp) (ci := 6) rfl hr.l3 dX4_projectOfNumber_31 (by decide) (by decide) (by omega) (by omega) rfl rfl (Nat.le_of_ble_eq_true rfl)) rfl (fun r σ ⟨e1, e2⟩ => ?_) (fun _ _ h9 => False.elim h9)
      subst e1 e2
      refine g_ccast (q := 37) (ci := 1) hC kc_X4_56 dX4_projectOfNumber_34 rfl (hr.prj (by omega)) rfl ?_
      exact g_aret (o := some (A 2 p)) hC hR (Or.inl ⟨_, rfl⟩) dX4_projectOfNumber_37 (by omega) (by omega) (⟨_, rfl, ⟨h8, by rw [ec]⟩, rfl⟩)
    · exact bad (inR_f2 (Int32.not_lt.mp c_12))
def firP (f : Nat → Bool) : Nat → Nat → Option Nat
  | 0, _ => none
  | d + 1, i => if f i = true then some i else firP f d (i + 1)
theorem firP_some {f : Nat → Bool} {r : Nat} : ∀ d i, firP f d i = some r → i ≤ r ∧ r < i + d ∧ f r = true := by
  intro d
  induction d with
  | zero => intro i h; cases h
  | succ d ih =>
    intro i h
    unfold firP at h
    split at h
    · cases h
      exact ⟨by omega, by omega, by assumption⟩
    · obtain ⟨h1, h2, h3⟩ := ih (i + 1) h
      exact ⟨by omega, by omega, h3⟩
def choF (ρ : gSt) (q : Nat) (c : Int32) : Nat → Bool := fun i => decide (par ρ i = some q) && decide (nI (ρ.1 2 i) = c)
def cho (ρ : gSt) (q : Nat) (c : Int32) : Option Nat := firP (choF ρ q c) (ρ.1 10 3) 0
theorem cho_lt {ρ : gSt} {q p : Nat} {c : Int32} (h : cho ρ q c = some p) : p < ρ.1 10 3 := by
  have := firP_some _ _ h
  omega
theorem par_ref {M : gMT} {σ : gS} {A : gAd} {ρ : gSt} {W : gWt} (hr : Raw M σ A ρ W) (hW : RW ρ) {p q : Nat} (hp : p < ρ.1 11 2) (hq : q < ρ.1 11 2) : (par ρ p).map (A 2) = some (A 2 q) ↔ par ρ p = some q := by
  constructor
  · intro h
    cases hu : par ρ p with
    | none => rw [hu] at h; cases h
    | some x =>
      rw [hu] at h
      have := (hr.inj (k := 2) (by decide) (par_lt hW hp hu) hq).mp (Option.some.inj h)
      rw [this]
  · intro h
    rw [h]
    rfl
set_option maxRecDepth 100000 in
set_option maxHeartbeats 4000000 in
theorem c_L_childOf (l : Launch) (hfl : l.stackTraces = false) (M : gMT) (σ : gS) (A : gAd) (ρ : gSt) (W : gWt) (q : Nat) (c9 : Int32) (hr : Raw M σ A ρ W) (hW : RW ρ) (hq : q < ρ.1 11 2) : Con l M yX4_childOf (.code yX4_childOf cX4_childOf 5 (Option.some (FieldType.object "AllotmentLedger$Project"))) 4 0 0 [.ref (A 0 0), .ref (A 2 q), .int c9] σ (rQ fun r σ2 => r = (cho ρ q c9).map (A 2) ∧ σ2 = σ) (nX) := by
  refine g_con hfl (by decide) (lv := [(0, .ref (A 0 0)), (1, .ref (A 2 q)), (2, .int c9)]) rfl rfl (Nat.le_of_ble_eq_true rfl) (fun X hX hC hR htb => ?_)
  have b2 := hW.2.1
  have loop : ∀ (d9 i : Nat), i + d9 = ρ.1 10 3 → cho ρ q c9 = firP (choF ρ q c9) d9 i → G X M 5 (gQ X M 0 0 (rQ fun r σ2 => r = (cho ρ q c9).map (A 2) ∧ σ2 = σ) nX) 0 0 σ 2 [(3, .int (nI i)), (0, .ref (A 0 0)), (1, .ref (A 2 q)), (2, .int c9)] [] := by
    intro d9
    induction d9 with
    | zero =>
      intro i h1 h2
      refine g_iload_n (q := 3) (i := 3) hC dX4_childOf_2 rfl rfl rfl ?_
      refine g_aload_n (q := 4) (i := 0) hC dX4_childOf_3 rfl rfl rfl ?_
      refine g_getf (q := 7) (v := .ref (A 5 3)) hC kg_X4_19 dX4_childOf_4 (hr.led hW) rfl rfl ?_
      refine g_ci (q := 10) (g_runV hC kv_X4_99 md_Jx4a65c_size_8abf5 (c_size _ hC.fl M _ (A 5 3) _ _ _ hr.l3) (ci := 6) rfl hr.l3 dX4_childOf_7 (by decide) (by decide) (by omega) (by omega) rfl rfl (Nat.le_of_ble_eq_true rfl)) rfl (fun r σ ⟨e1, e2⟩ => ?_) (fun _ _ h9 => False.elim h9)
      subst e1 e2
      refine g_icmp_ge (tgt := 53) (q := 13) hC dX4_childOf_10 (by decide) rfl (fun c_10 => ?_) (fun c_10 => ?_)
      · refine g_null (q := 54) hC dX4_childOf_53 rfl ?_
        exact g_aret (o := none) hC hR (Or.inl ⟨_, rfl⟩) dX4_childOf_54 (by omega) (by omega) (⟨none, rfl, by rw [h2]; rfl, rfl⟩)
      · exact absurd (nI_le (by omega) (by omega)) c_10
    | succ d9 ih =>
      intro i h1 h2
      have next : ∀ lv9 : Value, choF ρ q c9 i = false → G X M 5 (gQ X M 0 0 (rQ fun r σ2 => r = (cho ρ q c9).map (A 2) ∧ σ2 = σ) nX) 0 0 σ 47 [(3, .int (nI i)), (0, .ref (A 0 0)), (1, .ref (A 2 q)), (2, .int c9)] [] := by
        intro lv9 hf
        refine g_iinc (q := 50) (i := 3) (v := (nI (i + 1))) hC dX4_childOf_47 rfl (nI_1 _) rfl ?_
        refine g_goto (tgt := 2) hC dX4_childOf_50 (by decide) ?_
        refine g_sub (lv0 := [(3, .int (nI (i + 1))), (0, .ref (A 0 0)), (1, .ref (A 2 q)), (2, .int c9)]) ⟨rfl, rfl, rfl, rfl, trivial⟩ ?_
        exact ih (i + 1) (by omega) (by rw [h2, firP, if_neg (by rw [hf]; decide)])
      refine g_iload_n (q := 3) (i := 3) hC dX4_childOf_2 rfl rfl rfl ?_
      refine g_aload_n (q := 4) (i := 0) hC dX4_childOf_3 rfl rfl rfl ?_
      refine g_getf (q := 7) (v := .ref (A 5 3)) hC kg_X4_19 dX4_childOf_4 (hr.led hW) rfl rfl ?_
      refine g_ci (q := 10) (g_runV hC kv_X4_99 md_Jx4a65c_size_8abf5 (c_size _ hC.fl M _ (A 5 3) _ _ _ hr.l3) (ci := 6) rfl hr.l3 dX4_childOf_7 (by decide) (by decide) (by omega) (by omega) rfl rfl (Nat.le_of_ble_eq_true rfl)) rfl (fun r σ ⟨e1, e2⟩ => ?_) (fun _ _ h9 => False.elim h9)
      subst e1 e2
      refine g_icmp_ge (tgt := 53) (q := 13) hC dX4_childOf_10 (by decide) rfl (fun c_10 => ?_) (fun c_10 => ?_)
      · exact absurd c_10 (nI_ge (by omega) (by omega))
      · refine g_aload_n (q := 14) (i := 0) hC dX4_childOf_13 rfl rfl rfl ?_
        refine g_getf (q := 17) (v := .ref (A 5 3)) hC kg_X4_19 dX4_childOf_14 (hr.led hW) rfl rfl ?_
        refine g_iload_n (q := 18) (i := 3) hC dX4_childOf_17 rfl rfl rfl ?_
        refine g_cr (q := 21) (g_runV hC kv_X4_186 md_Jx4a65c_get_915e3 (c_gt3 _ hC.fl hr i (by omega)) (ci := 6) rfl hr.l3 dX4_childOf_18 (by decide) (by decide) (by omega) (by omega) rfl rfl (Nat.le_of_ble_eq_true rfl)) rfl (fun r σ ⟨e1, e2⟩ => ?_) (fun _ _ h9 => False.elim h9)
        subst e1 e2
        refine g_ccast (q := 24) (ci := 1) hC kc_X4_56 dX4_childOf_21 rfl (hr.prj (by omega)) rfl ?_
        refine g_astore (q := 26) (i := 4) hC dX4_childOf_24 (by decide) rfl ?_
        refine g_aload (q := 28) (i := 4) hC dX4_childOf_26 rfl rfl ?_
        refine g_getf (q := 31) (v := va_rf ((par ρ i).map (A 2))) hC kg_X4_120 dX4_childOf_28 (hr.prj (by omega)) rfl rfl ?_
        refine g_aload_n (q := 32) (i := 1) hC dX4_childOf_31 rfl rfl rfl ?_
        refine g_acmp_ne (tgt := 47) (q := 35) (rx := (par ρ i).map (A 2)) (ry := some (A 2 q)) hC dX4_childOf_32 (by decide) rfl (fun c_32 => ?_) (fun c_32 => ?_)
        · refine g_sub (lv0 := [(3, .int (nI i)), (0, .ref (A 0 0)), (1, .ref (A 2 q)), (2, .int c9)]) ⟨rfl, rfl, rfl, rfl, trivial⟩ ?_
          exact next .null (by rw [choF, decide_eq_false (fun z => c_32 ((par_ref hr hW (by omega) hq).mpr z))]; rfl)
        · have hpq := (par_ref hr hW (by omega) hq).mp c_32
          refine g_aload (q := 37) (i := 4) hC dX4_childOf_35 rfl rfl ?_
          refine g_getf (q := 40) (v := .int (nI (ρ.1 2 i))) hC kg_X4_142 dX4_childOf_37 (hr.prj (by omega)) rfl rfl ?_
          refine g_iload_n (q := 41) (i := 2) hC dX4_childOf_40 rfl rfl rfl ?_
          refine g_icmp_ne (tgt := 47) (q := 44) hC dX4_childOf_41 (by decide) rfl (fun c_41 => ?_) (fun c_41 => ?_)
          · refine g_sub (lv0 := [(3, .int (nI i)), (0, .ref (A 0 0)), (1, .ref (A 2 q)), (2, .int c9)]) ⟨rfl, rfl, rfl, rfl, trivial⟩ ?_
            exact next .null (by rw [choF, decide_eq_false c_41, Bool.and_false])
          · refine g_aload (q := 46) (i := 4) hC dX4_childOf_44 rfl rfl ?_
            exact g_aret (o := some (A 2 i)) hC hR (Or.inl ⟨_, rfl⟩) dX4_childOf_46 (by omega) (by omega) (⟨some (A 2 i), rfl, by rw [h2, firP, if_pos (by rw [choF, decide_eq_true hpq, decide_eq_true c_41]; rfl)]; rfl, rfl⟩)
  refine g_iconst (q := 1) (v := nI 0) hC dX4_childOf_0 rfl rfl ?_
  refine g_istore_n (q := 2) (i := 3) hC dX4_childOf_1 rfl (by decide) rfl ?_
  refine g_sub (lv0 := [(3, .int (nI 0)), (0, .ref (A 0 0)), (1, .ref (A 2 q)), (2, .int c9)]) ⟨rfl, rfl, rfl, rfl, trivial⟩ ?_
  exact loop _ 0 (Nat.zero_add _) rfl
def pop (ρ : gSt) : Nat → Option Nat
  | 0 => some 0
  | i + 1 => (pop ρ i).bind (fun q => cho ρ q (nI (ρ.1 1 i)))
theorem pop_lt {ρ : gSt} (hW : RW ρ) : ∀ n q, pop ρ n = some q → q < ρ.1 10 3 := by
  intro n q h
  have b2 := hW.2.1
  cases n with
  | zero => cases h; omega
  | succ n =>
    unfold pop at h
    cases hp : pop ρ n with
    | none => rw [hp] at h; cases h
    | some x =>
      rw [hp] at h
      exact cho_lt h
theorem pop_n {ρ : gSt} {i : Nat} (h : pop ρ i = none) : ∀ n, i ≤ n → pop ρ n = none := by
  intro n
  induction n with
  | zero =>
    intro hn
    rw [show i = 0 by omega] at h
    exact h
  | succ n ih =>
    intro hn
    by_cases z : i = n + 1
    · rw [← z]
      exact h
    · unfold pop
      rw [ih (by omega)]
      rfl
set_option maxRecDepth 100000 in
set_option maxHeartbeats 4000000 in
theorem c_L_projectOfPath (l : Launch) (hfl : l.stackTraces = false) (M : gMT) (σ : gS) (A : gAd) (ρ : gSt) (W : gWt) (n : Nat) (hr : Raw M σ A ρ W) (hW : RW ρ) (hn : n ≤ ρ.1 0 0) : Con l M yX4_projectOfPath (.code yX4_projectOfPath cX4_projectOfPath 4 (Option.some (FieldType.object "AllotmentLedger$Project"))) 5 0 0 [.ref (A 0 0), .int (nI n)] σ (rQ fun r σ2 => r = (pop ρ n).map (A 2) ∧ σ2 = σ) (nX) := by
  refine g_con hfl (by decide) (lv := [(0, .ref (A 0 0)), (1, .int (nI n))]) rfl rfl (Nat.le_of_ble_eq_true rfl) (fun X hX hC hR htb => ?_)
  have b2 := hW.2.1
  have b5 := hW.2.2.2.2.1
  have fin : ∀ i : Nat, (pop ρ n) = pop ρ i → G X M 4 (gQ X M 0 0 (rQ fun r σ2 => r = (pop ρ n).map (A 2) ∧ σ2 = σ) nX) 0 0 σ 47 [(3, .int (nI i)), (2, va_rf ((pop ρ i).map (A 2))), (0, .ref (A 0 0)), (1, .int (nI n))] [] := by
    intro i h
    refine g_sub (lv0 := [(3, .int (nI i)), (2, va_rf ((pop ρ i).map (A 2))), (0, .ref (A 0 0)), (1, .int (nI n))]) ⟨rfl, rfl, rfl, rfl, trivial⟩ ?_
    refine g_aload_nQ (q := 48) (i := 2) (o := ((pop ρ i).map (A 2))) hC dX4_projectOfPath_47 rfl rfl rfl ?_
    exact g_aret (o := (pop ρ i).map (A 2)) hC hR (Or.inl ⟨_, rfl⟩) dX4_projectOfPath_48 (by omega) (by omega) (⟨_, rfl, by rw [h], rfl⟩)
  have loop : ∀ (d9 i : Nat), i + d9 = n → G X M 4 (gQ X M 0 0 (rQ fun r σ2 => r = (pop ρ n).map (A 2) ∧ σ2 = σ) nX) 0 0 σ 7 [(3, .int (nI i)), (2, va_rf ((pop ρ i).map (A 2))), (0, .ref (A 0 0)), (1, .int (nI n))] [] := by
    intro d9
    induction d9 with
    | zero =>
      intro i h1
      refine g_iload_n (q := 8) (i := 3) hC dX4_projectOfPath_7 rfl rfl rfl ?_
      refine g_iload_n (q := 9) (i := 1) hC dX4_projectOfPath_8 rfl rfl rfl ?_
      refine g_icmp_ge (tgt := 47) (q := 12) hC dX4_projectOfPath_9 (by decide) rfl (fun c_9 => ?_) (fun c_9 => ?_)
      · exact fin i (by rw [show i = n by omega])
      · exact absurd (nI_le (by omega) (by omega)) c_9
    | succ d9 ih =>
      intro i h1
      cases hp : pop ρ i with
      | none =>
        refine g_sub (lv0 := [(3, .int (nI i)), (2, va_rf none), (0, .ref (A 0 0)), (1, .int (nI n))]) ⟨rfl, rfl, rfl, rfl, trivial⟩ ?_
        refine g_iload_n (q := 8) (i := 3) hC dX4_projectOfPath_7 rfl rfl rfl ?_
        refine g_iload_n (q := 9) (i := 1) hC dX4_projectOfPath_8 rfl rfl rfl ?_
        refine g_icmp_ge (tgt := 47) (q := 12) hC dX4_projectOfPath_9 (by decide) rfl (fun c_9 => ?_) (fun c_9 => ?_)
        · exact absurd c_9 (nI_ge (by omega) (by omega))
        · refine g_iload_n (q := 13) (i := 3) hC dX4_projectOfPath_12 rfl rfl rfl ?_
          refine g_aload_n (q := 14) (i := 0) hC dX4_projectOfPath_13 rfl rfl rfl ?_
          refine g_getf (q := 17) (v := .ref (A 5 6)) hC kg_X4_31 dX4_projectOfPath_14 (hr.led hW) rfl rfl ?_
          refine g_ci (q := 20) (g_runV hC kv_X4_72 md_J4_length_8abf5 (c_sb_len _ hC.fl M _ (A 5 6) _ _ _ hr.sb) (ci := 7) rfl hr.sb dX4_projectOfPath_17 (by decide) (by decide) (by omega) (by omega) rfl rfl (Nat.le_of_ble_eq_true rfl)) rfl (fun r σ ⟨e1, e2⟩ => ?_) (fun _ _ h9 => False.elim h9)
          subst e1 e2
          refine g_icmp_ge (tgt := 47) (q := 23) hC dX4_projectOfPath_20 (by decide) rfl (fun c_20 => ?_) (fun c_20 => ?_)
          · exact absurd c_20 (nI_ge (by omega) (by omega))
          · refine g_aload_nQ (q := 24) (i := 2) (o := none) hC dX4_projectOfPath_23 rfl rfl rfl ?_
            refine g_ifnull (o := none) (tgt := 47) (q := 27) hC dX4_projectOfPath_24 (by decide) rfl (fun c_24 => ?_) (fun a c_24 => ?_)
            · have h := fin i (by rw [hp, pop_n hp n (by omega)])
              rw [hp] at h
              exact h
            · cases c_24
      | some q =>
        have hq := pop_lt hW _ _ hp
        have hlt := b5.2 i (by omega)
        obtain ⟨-, -, hbytes⟩ := hr.2.2.2.2.2
        refine g_sub (lv0 := [(3, .int (nI i)), (2, va_rf (some (A 2 q))), (0, .ref (A 0 0)), (1, .int (nI n))]) ⟨rfl, rfl, rfl, rfl, trivial⟩ ?_
        refine g_iload_n (q := 8) (i := 3) hC dX4_projectOfPath_7 rfl rfl rfl ?_
        refine g_iload_n (q := 9) (i := 1) hC dX4_projectOfPath_8 rfl rfl rfl ?_
        refine g_icmp_ge (tgt := 47) (q := 12) hC dX4_projectOfPath_9 (by decide) rfl (fun c_9 => ?_) (fun c_9 => ?_)
        · exact absurd c_9 (nI_ge (by omega) (by omega))
        · refine g_iload_n (q := 13) (i := 3) hC dX4_projectOfPath_12 rfl rfl rfl ?_
          refine g_aload_n (q := 14) (i := 0) hC dX4_projectOfPath_13 rfl rfl rfl ?_
          refine g_getf (q := 17) (v := .ref (A 5 6)) hC kg_X4_31 dX4_projectOfPath_14 (hr.led hW) rfl rfl ?_
          refine g_ci (q := 20) (g_runV hC kv_X4_72 md_J4_length_8abf5 (c_sb_len _ hC.fl M _ (A 5 6) _ _ _ hr.sb) (ci := 7) rfl hr.sb dX4_projectOfPath_17 (by decide) (by decide) (by omega) (by omega) rfl rfl (Nat.le_of_ble_eq_true rfl)) rfl (fun r σ ⟨e1, e2⟩ => ?_) (fun _ _ h9 => False.elim h9)
          subst e1 e2
          refine g_icmp_ge (tgt := 47) (q := 23) hC dX4_projectOfPath_20 (by decide) rfl (fun c_20 => ?_) (fun c_20 => ?_)
          · exact absurd c_20 (nI_ge (by omega) (by omega))
          · refine g_aload_nQ (q := 24) (i := 2) (o := (some (A 2 q))) hC dX4_projectOfPath_23 rfl rfl rfl ?_
            refine g_ifnull (o := some (A 2 q)) (tgt := 47) (q := 27) hC dX4_projectOfPath_24 (by decide) rfl (fun c_24 => ?_) (fun a c_24 => ?_)
            · cases c_24
            · skip
              refine g_aload_n (q := 28) (i := 0) hC dX4_projectOfPath_27 rfl rfl rfl ?_
              refine g_aload_n (q := 29) (i := 2) hC dX4_projectOfPath_28 rfl rfl rfl ?_
              refine g_aload_n (q := 30) (i := 0) hC dX4_projectOfPath_29 rfl rfl rfl ?_
              refine g_getf (q := 33) (v := .ref (A 5 6)) hC kg_X4_31 dX4_projectOfPath_30 (hr.led hW) rfl rfl ?_
              refine g_iload_n (q := 34) (i := 3) hC dX4_projectOfPath_33 rfl rfl rfl ?_
              refine g_ci (q := 37) (g_runV hC kv_X4_104 md_J4_charAt_5068e (c_sb_chr _ hC.fl M _ (A 5 6) _ _ i (ρ.1 1 i) _ _ hr.sb hr.sv (by omega) (by omega) (hbytes i (by omega)) hlt) (ci := 7) rfl hr.sb dX4_projectOfPath_34 (by decide) (by decide) (by omega) (by omega) rfl rfl (Nat.le_of_ble_eq_true rfl)) rfl (fun r σ ⟨e1, e2⟩ => ?_) (fun _ _ h9 => False.elim h9)
              subst e1 e2
              refine g_cq (q := 40) (g_runV hC kv_X4_270 md_X4_childOf (c_L_childOf _ hC.fl M _ A ρ W q (nI (ρ.1 1 i)) hr hW (by omega)) (ci := 4) rfl (hr.led hW) dX4_projectOfPath_37 (by decide) (by decide) (by omega) (by omega) rfl rfl (Nat.le_of_ble_eq_true rfl)) rfl (fun r σ ⟨e1, e2⟩ => ?_) (fun _ _ h9 => False.elim h9)
              subst e1 e2
              have ep : (pop ρ (i + 1)).map (A 2) = (cho ρ q (nI (ρ.1 1 i))).map (A 2) := by
                rw [pop, hp]
                rfl
              rw [← ep]
              refine g_astore_nQ (q := 41) (i := 2) (o := ((pop ρ (i + 1)).map (A 2))) hC dX4_projectOfPath_40 rfl (by decide) rfl ?_
              refine g_iinc (q := 44) (i := 3) (v := (nI (i + 1))) hC dX4_projectOfPath_41 rfl (nI_1 _) rfl ?_
              refine g_goto (tgt := 7) hC dX4_projectOfPath_44 (by decide) ?_
              refine g_sub (lv0 := [(3, .int (nI (i + 1))), (2, va_rf ((pop ρ (i + 1)).map (A 2))), (0, .ref (A 0 0)), (1, .int (nI n))]) ⟨rfl, rfl, rfl, rfl, trivial⟩ ?_
              exact ih (i + 1) (by omega)
  refine g_aload_n (q := 1) (i := 0) hC dX4_projectOfPath_0 rfl rfl rfl ?_
  refine g_getf (q := 4) (v := .ref (A 2 0)) hC kg_X4_61 dX4_projectOfPath_1 (hr.led hW) rfl rfl ?_
  refine g_astore_n (q := 5) (i := 2) hC dX4_projectOfPath_4 rfl (by decide) rfl ?_
  refine g_iconst (q := 6) (v := nI 0) hC dX4_projectOfPath_5 rfl rfl ?_
  refine g_istore_n (q := 7) (i := 3) hC dX4_projectOfPath_6 rfl (by decide) rfl ?_
  refine g_sub (lv0 := [(3, .int (nI 0)), (2, va_rf ((pop ρ 0).map (A 2))), (0, .ref (A 0 0)), (1, .int (nI n))]) ⟨rfl, rfl, rfl, rfl, trivial⟩ ?_
  exact loop n 0 (Nat.zero_add _)
