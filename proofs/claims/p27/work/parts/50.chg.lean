/-! ===== the ledger: what goes over the row ===== -/
theorem par_1 {ρ ρ' : gSt} (h : ρ'.1 = ρ.1) (p : Nat) : par ρ' p = par ρ p := by
  unfold par
  rw [h]
theorem upn_1 {ρ ρ' : gSt} (h : ρ'.1 = ρ.1) (p : Nat) : ∀ k, upn ρ' p k = upn ρ p k := by
  intro k
  induction k with
  | zero => rfl
  | succ k ih =>
    unfold upn
    rw [ih]
    have e : par ρ' = par ρ := funext (par_1 h)
    rw [e]
theorem RW_1 {ρ ρ' : gSt} (h : ρ'.1 = ρ.1) (hW : RW ρ) : RW ρ' := by
  have e : ∀ p k, upn ρ' p k = upn ρ p k := upn_1 h
  unfold RW
  simp only [h, e]
  exact hW
theorem rwu_1 {ρ ρ' : gSt} (h : ρ'.1 = ρ.1) (p : Nat) : ∀ d k, rwu ρ' p d k = rwu ρ p d k := by
  intro d
  induction d with
  | zero => intro k; rfl
  | succ d ih =>
    intro k
    unfold rwu
    rw [upn_1 h, ih]
theorem rowN_1 {ρ ρ' : gSt} (h : ρ'.1 = ρ.1) (f : Nat) : rowN ρ' f = rowN ρ f := by
  unfold rowN hgt
  rw [rwu_1 h, h]
theorem rowE_1 {ρ ρ' : gSt} (h : ρ'.1 = ρ.1) (f i : Nat) : rowE ρ' f i = rowE ρ f i := by
  unfold rowE
  rw [upn_1 h, h]
def anyB : Nat → (Nat → Bool) → Bool
  | 0, _ => false
  | n + 1, f => anyB n f || f n
theorem anyB_t {f : Nat → Bool} {i n : Nat} (hi : i < n) (h : f i = true) : anyB n f = true := by
  induction n with
  | zero => omega
  | succ n ih =>
    unfold anyB
    by_cases z : i = n
    · rw [← z, h, Bool.or_true]
    · rw [ih (by omega)]
      rfl
def ctL (ρ : gSt) (f a : Nat) : Bool := anyB (rowN ρ f) (fun i => decide (rowE ρ f i = a))
set_option maxRecDepth 100000 in
set_option maxHeartbeats 4000000 in
theorem c_L_countsIn (l : Launch) (hfl : l.stackTraces = false) (M : gMT) (σ : gS) (A : gAd) (ρ : gSt) (W : gWt) (f a : Nat) (hr : Raw M σ A ρ W) (hW : RW ρ) (hf : f < ρ.1 11 3) (ha : a < ρ.1 11 1) : Con l M yX4_countsIn (.code yX4_countsIn cX4_countsIn 5 (Option.some FieldType.boolean)) 9 2 25 [.ref (A 0 0), .ref (A 3 f), .ref (A 1 a)] σ (rI fun r σ2 => r = bI (ctL ρ f a) ∧ RawE M σ2 A ρ ∧ gFF σ σ2) (nX) := by
  refine g_con hfl (by decide) (lv := [(0, .ref (A 0 0)), (1, .ref (A 3 f)), (2, .ref (A 1 a))]) rfl rfl (Nat.le_of_ble_eq_true rfl) (fun X hX hC hR htb => ?_)
  have hn := rowN_le ρ f
  have loop : ∀ (σ3 : gS) (W3 : gWt), Raw M σ3 A ρ W3 → gFF σ σ3 → rowOk ρ W3 f → ∀ (d9 i : Nat), i + d9 = rowN ρ f → anyB i (fun i => decide (rowE ρ f i = a)) = false → G X M 5 (gQ X M 2 25 (rI fun r σ2 => r = bI (ctL ρ f a) ∧ RawE M σ2 A ρ ∧ gFF σ σ2) nX) 2 25 σ3 9 [(4, .int (nI i)), (3, .ref (A 5 7)), (0, .ref (A 0 0)), (1, .ref (A 3 f)), (2, .ref (A 1 a))] [] := by
    intro σ3 W3 hr3 hF hok d9
    obtain ⟨k1, k2⟩ := hok
    induction d9 with
    | zero =>
      intro i h1 h2
      refine g_iload (q := 11) (i := 4) hC dX4_countsIn_9 rfl rfl ?_
      refine g_aload_n (q := 12) (i := 3) hC dX4_countsIn_11 rfl rfl rfl ?_
      refine g_ci (q := 15) (g_runV hC kv_X4_99 md_Jx4a65c_size_8abf5 (c_size _ hC.fl M _ (A 5 7) _ _ _ hr3.l7) (ci := 6) rfl hr3.l7 dX4_countsIn_12 (by decide) (by decide) (by omega) (by omega) rfl rfl (Nat.le_of_ble_eq_true rfl)) rfl (fun r σ ⟨e1, e2⟩ => ?_) (fun _ _ h9 => False.elim h9)
      subst e1 e2
      refine g_icmp_ge (tgt := 36) (q := 18) hC dX4_countsIn_15 (by decide) rfl (fun c_15 => ?_) (fun c_15 => ?_)
      · refine g_iconst (q := 37) (v := (0)) hC dX4_countsIn_36 rfl rfl ?_
        exact g_zret hC hR (rfl) dX4_countsIn_37 (by omega) (by omega) (⟨_, rfl, by rw [ctL, ← h1]; show _ = bI (anyB i _); rw [h2]; rfl, ⟨W3, hr3⟩, hF⟩)
      · exact absurd (nI_le (show wRc W3 ≤ i by omega) (by omega)) c_15
    | succ d9 ih =>
      intro i h1 h2
      refine g_iload (q := 11) (i := 4) hC dX4_countsIn_9 rfl rfl ?_
      refine g_aload_n (q := 12) (i := 3) hC dX4_countsIn_11 rfl rfl rfl ?_
      refine g_ci (q := 15) (g_runV hC kv_X4_99 md_Jx4a65c_size_8abf5 (c_size _ hC.fl M _ (A 5 7) _ _ _ hr3.l7) (ci := 6) rfl hr3.l7 dX4_countsIn_12 (by decide) (by decide) (by omega) (by omega) rfl rfl (Nat.le_of_ble_eq_true rfl)) rfl (fun r σ ⟨e1, e2⟩ => ?_) (fun _ _ h9 => False.elim h9)
      subst e1 e2
      refine g_icmp_ge (tgt := 36) (q := 18) hC dX4_countsIn_15 (by decide) rfl (fun c_15 => ?_) (fun c_15 => ?_)
      · exact absurd c_15 (nI_ge (show i < wRc W3 by omega) (by omega))
      · refine g_aload_n (q := 19) (i := 3) hC dX4_countsIn_18 rfl rfl rfl ?_
        refine g_iload (q := 21) (i := 4) hC dX4_countsIn_19 rfl rfl ?_
        refine g_cr (q := 24) (g_runV hC kv_X4_186 md_Jx4a65c_get_915e3 (c_gt7 _ hC.fl hr3 i (by omega)) (ci := 6) rfl hr3.l7 dX4_countsIn_21 (by decide) (by decide) (by omega) (by omega) rfl rfl (Nat.le_of_ble_eq_true rfl)) rfl (fun r σ ⟨e1, e2⟩ => ?_) (fun _ _ h9 => False.elim h9)
        subst e1 e2
        rw [k2 i (by omega)]
        refine g_aload_n (q := 25) (i := 2) hC dX4_countsIn_24 rfl rfl rfl ?_
        refine g_acmp_ne (tgt := 30) (q := 28) (rx := some (A 1 (rowE ρ f i))) (ry := some (A 1 a)) hC dX4_countsIn_25 (by decide) rfl (fun c_25 => ?_) (fun c_25 => ?_)
        · have ne : ¬ rowE ρ f i = a := fun z => c_25 (by rw [z])
          refine g_iinc (q := 33) (i := 4) (v := (nI (i + 1))) hC dX4_countsIn_30 rfl (nI_1 _) rfl ?_
          refine g_goto (tgt := 9) hC dX4_countsIn_33 (by decide) ?_
          refine g_sub (lv0 := [(4, .int (nI (i + 1))), (3, .ref (A 5 7)), (0, .ref (A 0 0)), (1, .ref (A 3 f)), (2, .ref (A 1 a))]) ⟨rfl, rfl, rfl, rfl, rfl, trivial⟩ ?_
          exact ih (i + 1) (by omega) (by rw [anyB, h2, decide_eq_false ne]; rfl)
        · have e := (hr3.inj (k := 1) (by decide) (rowE_lt hW hf (by omega)) ha).mp (Option.some.inj c_25)
          refine g_iconst (q := 29) (v := (1)) hC dX4_countsIn_28 rfl rfl ?_
          exact g_zret hC hR (rfl) dX4_countsIn_29 (by omega) (by omega) (⟨_, rfl, by rw [ctL, anyB_t (i := i) (by omega) (decide_eq_true e)]; rfl, ⟨W3, hr3⟩, hF⟩)
  refine g_aload_n (q := 1) (i := 0) hC dX4_countsIn_0 rfl rfl rfl ?_
  refine g_aload_n (q := 2) (i := 1) hC dX4_countsIn_1 rfl rfl rfl ?_
  refine g_cr (q := 5) (g_runV hC kv_X4_246 md_X4_accountsOf (c_L_accountsOf _ hC.fl M _ A ρ W f hr hW hf) (ci := 4) rfl (hr.led hW) dX4_countsIn_2 (by decide) (by decide) (by omega) (by omega) rfl rfl (Nat.le_of_ble_eq_true rfl)) rfl (fun r σ3 ⟨e1, hF, W3, hr3, hok⟩ => ?_) (fun _ _ h9 => False.elim h9)
  subst e1
  refine g_astore_n (q := 6) (i := 3) hC dX4_countsIn_5 rfl (by decide) rfl ?_
  refine g_iconst (q := 7) (v := nI 0) hC dX4_countsIn_6 rfl rfl ?_
  refine g_istore (q := 9) (i := 4) hC dX4_countsIn_7 (by decide) rfl ?_
  refine g_sub (lv0 := [(4, .int (nI 0)), (3, .ref (A 5 7)), (0, .ref (A 0 0)), (1, .ref (A 3 f)), (2, .ref (A 1 a))]) ⟨rfl, rfl, rfl, rfl, rfl, trivial⟩ ?_
  exact loop σ3 W3 hr3 hF hok _ 0 (Nat.zero_add _) rfl
def barA (ρ : gSt) (a : Nat) (mb mf : Int32) : Bool := fBar (ρ.2.1 2 a) (ρ.2.1 3 a) (ρ.2.1 4 a) (ρ.2.1 5 a) (ρ.2.1 7 a) (ρ.2.1 8 a) mb mf (ρ.2.1 0 0)
def bpl (ρ : gSt) (f : Nat) (mb mf : Int32) : Option Nat := firP (fun i => barA ρ (rowE ρ f i) mb mf) (rowN ρ f) 0
set_option maxRecDepth 100000 in
set_option maxHeartbeats 4000000 in
theorem c_L_barringPlace (l : Launch) (hfl : l.stackTraces = false) (M : gMT) (σ : gS) (A : gAd) (ρ : gSt) (W : gWt) (f : Nat) (mb mf : Int32) (hr : Raw M σ A ρ W) (hW : RW ρ) (hf : f < ρ.1 11 3) : Con l M yX4_barringPlace (.code yX4_barringPlace cX4_barringPlace 6 (Option.some FieldType.int)) 9 2 25 [.ref (A 0 0), .ref (A 3 f), .int mb, .int mf] σ (rI fun r σ2 => r = oI (bpl ρ f mb mf) ∧ RawE M σ2 A ρ ∧ gFF σ σ2) (nX) := by
  refine g_con hfl (by decide) (lv := [(0, .ref (A 0 0)), (1, .ref (A 3 f)), (2, .int mb), (3, .int mf)]) rfl rfl (Nat.le_of_ble_eq_true rfl) (fun X hX hC hR htb => ?_)
  have hn := rowN_le ρ f
  have loop : ∀ (σ3 : gS) (W3 : gWt), Raw M σ3 A ρ W3 → gFF σ σ3 → rowOk ρ W3 f → ∀ (d9 i : Nat), i + d9 = rowN ρ f → bpl ρ f mb mf = firP (fun i => barA ρ (rowE ρ f i) mb mf) d9 i → G X M 6 (gQ X M 2 25 (rI fun r σ2 => r = oI (bpl ρ f mb mf) ∧ RawE M σ2 A ρ ∧ gFF σ σ2) nX) 2 25 σ3 10 [(5, .int (nI i)), (4, .ref (A 5 7)), (0, .ref (A 0 0)), (1, .ref (A 3 f)), (2, .int mb), (3, .int mf)] [] := by
    intro σ3 W3 hr3 hF hok d9
    obtain ⟨k1, k2⟩ := hok
    induction d9 with
    | zero =>
      intro i h1 h2
      refine g_iload (q := 12) (i := 5) hC dX4_barringPlace_10 rfl rfl ?_
      refine g_aload (q := 14) (i := 4) hC dX4_barringPlace_12 rfl rfl ?_
      refine g_ci (q := 17) (g_runV hC kv_X4_99 md_Jx4a65c_size_8abf5 (c_size _ hC.fl M _ (A 5 7) _ _ _ hr3.l7) (ci := 6) rfl hr3.l7 dX4_barringPlace_14 (by decide) (by decide) (by omega) (by omega) rfl rfl (Nat.le_of_ble_eq_true rfl)) rfl (fun r σ ⟨e1, e2⟩ => ?_) (fun _ _ h9 => False.elim h9)
      subst e1 e2
      refine g_icmp_ge (tgt := 51) (q := 20) hC dX4_barringPlace_17 (by decide) rfl (fun c_17 => ?_) (fun c_17 => ?_)
      · refine g_iconst (q := 52) (v := (-1)) hC dX4_barringPlace_51 rfl rfl ?_
        exact g_iret hC hR dX4_barringPlace_52 (by omega) (by omega) (⟨_, rfl, by rw [h2]; rfl, ⟨W3, hr3⟩, hF⟩)
      · exact absurd (nI_le (show wRc W3 ≤ i by omega) (by omega)) c_17
    | succ d9 ih =>
      intro i h1 h2
      have ha := rowE_lt hW hf (show i < rowN ρ f by omega)
      refine g_iload (q := 12) (i := 5) hC dX4_barringPlace_10 rfl rfl ?_
      refine g_aload (q := 14) (i := 4) hC dX4_barringPlace_12 rfl rfl ?_
      refine g_ci (q := 17) (g_runV hC kv_X4_99 md_Jx4a65c_size_8abf5 (c_size _ hC.fl M _ (A 5 7) _ _ _ hr3.l7) (ci := 6) rfl hr3.l7 dX4_barringPlace_14 (by decide) (by decide) (by omega) (by omega) rfl rfl (Nat.le_of_ble_eq_true rfl)) rfl (fun r σ ⟨e1, e2⟩ => ?_) (fun _ _ h9 => False.elim h9)
      subst e1 e2
      refine g_icmp_ge (tgt := 51) (q := 20) hC dX4_barringPlace_17 (by decide) rfl (fun c_17 => ?_) (fun c_17 => ?_)
      · exact absurd c_17 (nI_ge (show i < wRc W3 by omega) (by omega))
      · refine g_aload (q := 22) (i := 4) hC dX4_barringPlace_20 rfl rfl ?_
        refine g_iload (q := 24) (i := 5) hC dX4_barringPlace_22 rfl rfl ?_
        refine g_cr (q := 27) (g_runV hC kv_X4_186 md_Jx4a65c_get_915e3 (c_gt7 _ hC.fl hr3 i (by omega)) (ci := 6) rfl hr3.l7 dX4_barringPlace_24 (by decide) (by decide) (by omega) (by omega) rfl rfl (Nat.le_of_ble_eq_true rfl)) rfl (fun r σ ⟨e1, e2⟩ => ?_) (fun _ _ h9 => False.elim h9)
        subst e1 e2
        rw [k2 i (by omega)]
        refine g_ccast (q := 30) (ci := 0) hC kc_X4_49 dX4_barringPlace_27 rfl (hr3.acc ha) rfl ?_
        refine g_iload_n (q := 31) (i := 2) hC dX4_barringPlace_30 rfl rfl rfl ?_
        refine g_iload_n (q := 32) (i := 3) hC dX4_barringPlace_31 rfl rfl rfl ?_
        refine g_aload_n (q := 33) (i := 0) hC dX4_barringPlace_32 rfl rfl rfl ?_
        refine g_getf (q := 36) (v := .int (ρ.2.1 0 0)) hC kg_X4_38 dX4_barringPlace_33 (hr3.led hW) rfl rfl ?_
        refine g_ci (q := 39) (g_runV hC kv_X4_303 md_X0_bars (c_X0_bars _ hC.fl M _ (A 1 (rowE ρ f i)) _ _ _ _ _ _ _ _ mb mf _ (hr3.acc ha)) (ci := 0) rfl (hr3.acc ha) dX4_barringPlace_36 (by decide) (by decide) (by omega) (by omega) rfl rfl (Nat.le_of_ble_eq_true rfl)) rfl (fun r σ ⟨e1, e2⟩ => ?_) (fun _ _ h9 => False.elim h9)
        subst e1 e2
        refine g_if_eq (tgt := 45) (q := 42) hC dX4_barringPlace_39 (by decide) rfl (fun c_39 => ?_) (fun c_39 => ?_)
        · refine g_iinc (q := 48) (i := 5) (v := (nI (i + 1))) hC dX4_barringPlace_45 rfl (nI_1 _) rfl ?_
          refine g_goto (tgt := 10) hC dX4_barringPlace_48 (by decide) ?_
          refine g_sub (lv0 := [(5, .int (nI (i + 1))), (4, .ref (A 5 7)), (0, .ref (A 0 0)), (1, .ref (A 3 f)), (2, .int mb), (3, .int mf)]) ⟨rfl, rfl, rfl, rfl, rfl, rfl, trivial⟩ ?_
          exact ih (i + 1) (by omega) (by rw [h2, firP, if_neg (fun z => by rw [show barA ρ (rowE ρ f i) mb mf = false from bI_0.mp c_39] at z; cases z)])
        · refine g_iload (q := 44) (i := 5) hC dX4_barringPlace_42 rfl rfl ?_
          exact g_iret hC hR dX4_barringPlace_44 (by omega) (by omega) (⟨_, rfl, by rw [h2, firP, if_pos (show barA ρ (rowE ρ f i) mb mf = true from bI_n.mp c_39)]; rfl, ⟨W3, hr3⟩, hF⟩)
  refine g_aload_n (q := 1) (i := 0) hC dX4_barringPlace_0 rfl rfl rfl ?_
  refine g_aload_n (q := 2) (i := 1) hC dX4_barringPlace_1 rfl rfl rfl ?_
  refine g_cr (q := 5) (g_runV hC kv_X4_246 md_X4_accountsOf (c_L_accountsOf _ hC.fl M _ A ρ W f hr hW hf) (ci := 4) rfl (hr.led hW) dX4_barringPlace_2 (by decide) (by decide) (by omega) (by omega) rfl rfl (Nat.le_of_ble_eq_true rfl)) rfl (fun r σ3 ⟨e1, hF, W3, hr3, hok⟩ => ?_) (fun _ _ h9 => False.elim h9)
  subst e1
  refine g_astore (q := 7) (i := 4) hC dX4_barringPlace_5 (by decide) rfl ?_
  refine g_iconst (q := 8) (v := nI 0) hC dX4_barringPlace_7 rfl rfl ?_
  refine g_istore (q := 10) (i := 5) hC dX4_barringPlace_8 (by decide) rfl ?_
  refine g_sub (lv0 := [(5, .int (nI 0)), (4, .ref (A 5 7)), (0, .ref (A 0 0)), (1, .ref (A 3 f)), (2, .int mb), (3, .int mf)]) ⟨rfl, rfl, rfl, rfl, rfl, rfl, trivial⟩ ?_
  exact loop σ3 W3 hr3 hF hok _ 0 (Nat.zero_add _) rfl
