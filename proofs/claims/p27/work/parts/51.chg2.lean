/-! ===== the ledger: charge, take, the accounts' being over ===== -/
def addA (ρ : gSt) (a : Nat) (b m : Int32) : gSt := setA ρ a (fun c => if c = 4 then ρ.2.1 4 a + b else if c = 5 then ρ.2.1 5 a + m else ρ.2.1 c a)
def cntA (ρ : gSt) (a : Nat) (b : Int32) : gSt := setA ρ a (fun c => if c = 6 then ρ.2.1 6 a + b else ρ.2.1 c a)
def ntA (ρ : gSt) (a : Nat) : gSt := setA ρ a (fun c => if c = 7 then fO (ρ.2.1 1 a) (ρ.2.1 4 a) else if c = 8 then (if fO (ρ.2.1 1 a) (ρ.2.1 4 a) = 1 ∧ ρ.2.1 7 a = 0 then ρ.2.1 0 0 else ρ.2.1 8 a) else ρ.2.1 c a)
def chA (ρ : gSt) (a : Nat) (b m : Int32) (t : Bool) : gSt := if t = true then cntA (addA ρ a b m) a b else addA ρ a b m
theorem chA_1 (ρ : gSt) (a : Nat) (b m : Int32) (t : Bool) : (chA ρ a b m t).1 = ρ.1 := by
  unfold chA
  split <;> rfl
/-- f's charge, behind the first n accounts of its row -/
def chN (ρ : gSt) (f : Nat) (b m : Int32) : Nat → gSt
  | 0 => ρ
  | n + 1 => chA (chN ρ f b m n) (rowE ρ f n) b m (decide (f < ρ.1 0 6))
def chg (ρ : gSt) (f : Nat) (b m : Int32) : gSt := chN ρ f b m (rowN ρ f)
theorem chN_1 (ρ : gSt) (f : Nat) (b m : Int32) : ∀ n, (chN ρ f b m n).1 = ρ.1 := by
  intro n
  induction n with
  | zero => rfl
  | succ n ih =>
    unfold chN
    rw [chA_1, ih]
theorem chg_1 (ρ : gSt) (f : Nat) (b m : Int32) : (chg ρ f b m).1 = ρ.1 := chN_1 ρ f b m _
def tkN (ρ : gSt) (f : Nat) (b : Int32) : Nat → gSt
  | 0 => ρ
  | n + 1 => cntA (tkN ρ f b n) (rowE ρ f n) b
theorem tkN_1 (ρ : gSt) (f : Nat) (b : Int32) : ∀ n, (tkN ρ f b n).1 = ρ.1 := by
  intro n
  induction n with
  | zero => rfl
  | succ n ih => exact ih
def tkS (ρ : gSt) (f : Nat) : gSt := if ρ.2.2 8 f = true then ρ else tkN ρ f (bub ρ f (ρ.1 10 5)) (rowN ρ f)
theorem tkS_1 (ρ : gSt) (f : Nat) : (tkS ρ f).1 = ρ.1 := by
  unfold tkS
  split
  · rfl
  · exact tkN_1 ρ f _ _
def ntN (ρ : gSt) : Nat → gSt
  | 0 => ρ
  | n + 1 => ntA (ntN ρ n) n
theorem ntN_1 (ρ : gSt) : ∀ n, (ntN ρ n).1 = ρ.1 := by
  intro n
  induction n with
  | zero => rfl
  | succ n ih => exact ih
def ntS (ρ : gSt) : gSt := ntN ρ (9 + ρ.1 10 3)
def eP (M : gMT) (σ : gS) (A : gAd) (ρ : gSt) : gS → Prop := fun σ2 => RawE M σ2 A ρ ∧ gFF σ σ2
set_option maxRecDepth 100000 in
set_option maxHeartbeats 4000000 in
theorem c_L_charge (l : Launch) (hfl : l.stackTraces = false) (M : gMT) (σ : gS) (A : gAd) (ρ : gSt) (W : gWt) (f : Nat) (b m : Int32) (hr : Raw M σ A ρ W) (hW : RW ρ) (hf : f < ρ.1 11 3) : Con l M yX4_charge (.code yX4_charge cX4_charge 8 (Option.none : Option FieldType)) 9 2 25 [.ref (A 0 0), .ref (A 3 f), .int b, .int m] σ (rV (eP M σ A (chg ρ f b m))) (nX) := by
  refine g_con hfl (by decide) (lv := [(0, .ref (A 0 0)), (1, .ref (A 3 f)), (2, .int b), (3, .int m)]) rfl rfl (Nat.le_of_ble_eq_true rfl) (fun X hX hC hR htb => ?_)
  have hn := rowN_le ρ f
  have w6 := hW.2.2.2.2.2.1
  have w3 := hW.2.2.1
  have loop : ∀ (d9 i : Nat) (σ3 : gS) (W3 : gWt), i + d9 = rowN ρ f → Raw M σ3 A (chN ρ f b m i) W3 → gFF σ σ3 → rowOk ρ W3 f → G X M 8 (gQ X M 2 25 (rV (eP M σ A (chg ρ f b m))) nX) 2 25 σ3 28 [(6, .int (nI i)), (5, .ref (A 5 7)), (4, .int (bI (decide (f < ρ.1 0 6)))), (0, .ref (A 0 0)), (1, .ref (A 3 f)), (2, .int b), (3, .int m)] [] := by
    intro d9
    induction d9 with
    | zero =>
      intro i σ3 W3 h1 hr3 hF hok
      obtain ⟨k1, k2⟩ := hok
      refine g_iload (q := 30) (i := 6) hC dX4_charge_28 rfl rfl ?_
      refine g_aload (q := 32) (i := 5) hC dX4_charge_30 rfl rfl ?_
      refine g_ci (q := 35) (g_runV hC kv_X4_99 md_Jx4a65c_size_8abf5 (c_size _ hC.fl M _ (A 5 7) _ _ _ hr3.l7) (ci := 6) rfl hr3.l7 dX4_charge_32 (by decide) (by decide) (by omega) (by omega) rfl rfl (Nat.le_of_ble_eq_true rfl)) rfl (fun r σ3 ⟨e1, e2⟩ => ?_) (fun _ _ h9 => False.elim h9)
      subst e1 e2
      refine g_icmp_ge (tgt := 79) (q := 38) hC dX4_charge_35 (by decide) rfl (fun c_35 => ?_) (fun c_35 => ?_)
      · skip
        exact g_vret hC hR dX4_charge_79 (by omega) (by omega) (⟨rfl, ⟨W3, by rw [chg, ← h1]; exact hr3⟩, hF⟩)
      · exact absurd (nI_le (show wRc W3 ≤ i by omega) (by omega)) c_35
    | succ d9 ih =>
      intro i σ3 W3 h1 hr3 hF hok
      have hok0 := hok
      obtain ⟨k1, k2⟩ := hok
      have e11 : (chN ρ f b m i).1 = ρ.1 := chN_1 ρ f b m i
      have ha : rowE ρ f i < (chN ρ f b m i).1 11 1 := by
        rw [e11]
        exact rowE_lt hW hf (by omega)
      refine g_iload (q := 30) (i := 6) hC dX4_charge_28 rfl rfl ?_
      refine g_aload (q := 32) (i := 5) hC dX4_charge_30 rfl rfl ?_
      refine g_ci (q := 35) (g_runV hC kv_X4_99 md_Jx4a65c_size_8abf5 (c_size _ hC.fl M _ (A 5 7) _ _ _ hr3.l7) (ci := 6) rfl hr3.l7 dX4_charge_32 (by decide) (by decide) (by omega) (by omega) rfl rfl (Nat.le_of_ble_eq_true rfl)) rfl (fun r σ3 ⟨e1, e2⟩ => ?_) (fun _ _ h9 => False.elim h9)
      subst e1 e2
      refine g_icmp_ge (tgt := 79) (q := 38) hC dX4_charge_35 (by decide) rfl (fun c_35 => ?_) (fun c_35 => ?_)
      · exact absurd c_35 (nI_ge (show i < wRc W3 by omega) (by omega))
      · refine g_aload (q := 40) (i := 5) hC dX4_charge_38 rfl rfl ?_
        refine g_iload (q := 42) (i := 6) hC dX4_charge_40 rfl rfl ?_
        refine g_cr (q := 45) (g_runV hC kv_X4_186 md_Jx4a65c_get_915e3 (c_gt7 _ hC.fl hr3 i (by omega)) (ci := 6) rfl hr3.l7 dX4_charge_42 (by decide) (by decide) (by omega) (by omega) rfl rfl (Nat.le_of_ble_eq_true rfl)) rfl (fun r σ3 ⟨e1, e2⟩ => ?_) (fun _ _ h9 => False.elim h9)
        subst e1 e2
        rw [k2 i (by omega)]
        have h4 := hr3.pAcc ha (fun c => if c = 4 then (chN ρ f b m i).2.1 4 (rowE ρ f i) + b else if c = 5 then (chN ρ f b m i).2.1 5 (rowE ρ f i) + m else (chN ρ f b m i).2.1 c (rowE ρ f i))
        have hF4 : gFF σ (gUp σ3 (A 1 (rowE ρ f i)) _) := hF.trans (gFF.obj (e := oB 0 (accV ((chN ρ f b m i).2.1 1 (rowE ρ f i)) ((chN ρ f b m i).2.1 2 (rowE ρ f i)) ((chN ρ f b m i).2.1 3 (rowE ρ f i)) ((chN ρ f b m i).2.1 4 (rowE ρ f i) + b) ((chN ρ f b m i).2.1 5 (rowE ρ f i) + m) ((chN ρ f b m i).2.1 6 (rowE ρ f i)) ((chN ρ f b m i).2.1 7 (rowE ρ f i)) ((chN ρ f b m i).2.1 8 (rowE ρ f i)))) (hr3.acc ha) (by decide))
        refine g_ccast (q := 48) (ci := 0) hC kc_X4_49 dX4_charge_45 rfl (hr3.acc ha) rfl ?_
        refine g_astore (q := 50) (i := 7) hC dX4_charge_48 (by decide) rfl ?_
        refine g_aload (q := 52) (i := 7) hC dX4_charge_50 rfl rfl ?_
        refine g_iload_n (q := 53) (i := 2) hC dX4_charge_52 rfl rfl rfl ?_
        refine g_iload_n (q := 54) (i := 3) hC dX4_charge_53 rfl rfl rfl ?_
        refine g_cv (q := 57) (g_runV hC kv_X4_300 md_X0_add (c_X0_add _ hC.fl M _ (A 1 (rowE ρ f i)) _ _ _ _ _ _ _ _ b m (hr3.acc ha)) (ci := 0) rfl (hr3.acc ha) dX4_charge_54 (by decide) (by decide) (by omega) (by omega) rfl rfl (Nat.le_of_ble_eq_true rfl)) rfl (fun σ4 e2 => ?_) (fun _ _ h9 => False.elim h9)
        subst e2
        have h4 : Raw M (gUp σ3 (A 1 (rowE ρ f i)) (oB 0 (accV ((chN ρ f b m i).2.1 1 (rowE ρ f i)) ((chN ρ f b m i).2.1 2 (rowE ρ f i)) ((chN ρ f b m i).2.1 3 (rowE ρ f i)) ((chN ρ f b m i).2.1 4 (rowE ρ f i) + b) ((chN ρ f b m i).2.1 5 (rowE ρ f i) + m) ((chN ρ f b m i).2.1 6 (rowE ρ f i)) ((chN ρ f b m i).2.1 7 (rowE ρ f i)) ((chN ρ f b m i).2.1 8 (rowE ρ f i))))) A (addA (chN ρ f b m i) (rowE ρ f i) b m) W3 := h4
        generalize (gUp σ3 (A 1 (rowE ρ f i)) (oB 0 (accV ((chN ρ f b m i).2.1 1 (rowE ρ f i)) ((chN ρ f b m i).2.1 2 (rowE ρ f i)) ((chN ρ f b m i).2.1 3 (rowE ρ f i)) ((chN ρ f b m i).2.1 4 (rowE ρ f i) + b) ((chN ρ f b m i).2.1 5 (rowE ρ f i) + m) ((chN ρ f b m i).2.1 6 (rowE ρ f i)) ((chN ρ f b m i).2.1 7 (rowE ρ f i)) ((chN ρ f b m i).2.1 8 (rowE ρ f i))))) = σ4 at h4 hF4
        have hlast : ∀ (σ5 : gS), Raw M σ5 A (chN ρ f b m (i + 1)) W3 → gFF σ σ5 → G X M 8 (gQ X M 2 25 (rV (eP M σ A (chg ρ f b m))) nX) 2 25 σ5 73 [(7, .ref (A 1 (rowE ρ f i))), (6, .int (nI i)), (5, .ref (A 5 7)), (4, .int (bI (decide (f < ρ.1 0 6)))), (0, .ref (A 0 0)), (1, .ref (A 3 f)), (2, .int b), (3, .int m)] [] := by
          intro σ5 hr5 hF5
          refine g_iinc (q := 76) (i := 6) (v := (nI (i + 1))) hC dX4_charge_73 rfl (nI_1 _) rfl ?_
          refine g_goto (tgt := 28) hC dX4_charge_76 (by decide) ?_
          refine g_sub (lv0 := [(6, .int (nI (i + 1))), (5, .ref (A 5 7)), (4, .int (bI (decide (f < ρ.1 0 6)))), (0, .ref (A 0 0)), (1, .ref (A 3 f)), (2, .int b), (3, .int m)]) ⟨rfl, rfl, rfl, rfl, rfl, rfl, rfl, trivial⟩ ?_
          exact ih (i + 1) σ5 W3 (by omega) hr5 hF5 hok0
        refine g_sub (lv0 := [(7, .ref (A 1 (rowE ρ f i))), (6, .int (nI i)), (5, .ref (A 5 7)), (4, .int (bI (decide (f < ρ.1 0 6)))), (0, .ref (A 0 0)), (1, .ref (A 3 f)), (2, .int b), (3, .int m)]) ⟨rfl, rfl, rfl, rfl, rfl, rfl, rfl, rfl, trivial⟩ ?_
        refine g_iload (q := 59) (i := 4) hC dX4_charge_57 rfl rfl ?_
        refine g_if_eq (tgt := 73) (q := 62) hC dX4_charge_59 (by decide) rfl (fun c_59 => ?_) (fun c_59 => ?_)
        · exact hlast σ4 (by rw [chN, chA, if_neg (by rw [bI_0.mp c_59]; decide)]; exact h4) hF4
        · have ha4 : rowE ρ f i < (addA (chN ρ f b m i) (rowE ρ f i) b m).1 11 1 := ha
          have h5 := h4.pAcc ha4 (fun c => if c = 6 then (addA (chN ρ f b m i) (rowE ρ f i) b m).2.1 6 (rowE ρ f i) + b else (addA (chN ρ f b m i) (rowE ρ f i) b m).2.1 c (rowE ρ f i))
          refine g_aload (q := 64) (i := 7) hC dX4_charge_62 rfl rfl ?_
          refine g_dup (q := 65) hC dX4_charge_64 rfl rfl ?_
          refine g_getf (q := 68) (v := .int ((addA (chN ρ f b m i) (rowE ρ f i) b m).2.1 6 (rowE ρ f i))) hC kg_X4_253 dX4_charge_65 (h4.acc ha4) rfl rfl ?_
          refine g_iload_n (q := 69) (i := 2) hC dX4_charge_68 rfl rfl rfl ?_
          refine g_iadd (q := 70) (v := ((addA (chN ρ f b m i) (rowE ρ f i) b m).2.1 6 (rowE ρ f i) + b)) hC dX4_charge_69 rfl rfl ?_
          refine g_putf (q := 73) hC kf_X4_253 dX4_charge_70 (h4.acc ha4) (Nat.le_of_ble_eq_true rfl) rfl rfl rfl ?_
          exact hlast _ (by rw [chN, chA, if_pos (bI_n.mp c_59)]; exact h5) (hF4.trans (gFF.obj (h4.acc ha4) (by decide)))
  have st2 : ∀ v4 : Bool, v4 = decide (f < ρ.1 0 6) → G X M 8 (gQ X M 2 25 (rV (eP M σ A (chg ρ f b m))) nX) 0 0 σ 16 [(0, .ref (A 0 0)), (1, .ref (A 3 f)), (2, .int b), (3, .int m)] [.int (bI v4)] := by
    intro v4 hv
    refine g_istore (q := 18) (i := 4) hC dX4_charge_16 (by decide) rfl ?_
    refine g_aload_n (q := 19) (i := 0) hC dX4_charge_18 rfl rfl rfl ?_
    refine g_aload_n (q := 20) (i := 1) hC dX4_charge_19 rfl rfl rfl ?_
    refine g_cr (q := 23) (g_runV hC kv_X4_246 md_X4_accountsOf (c_L_accountsOf _ hC.fl M _ A ρ W f hr hW hf) (ci := 4) rfl (hr.led hW) dX4_charge_20 (by decide) (by decide) (by omega) (by omega) rfl rfl (Nat.le_of_ble_eq_true rfl)) rfl (fun r σ3 ⟨e1, hF, W3, hr3, hok⟩ => ?_) (fun _ _ h9 => False.elim h9)
    subst e1
    refine g_astore (q := 25) (i := 5) hC dX4_charge_23 (by decide) rfl ?_
    refine g_iconst (q := 26) (v := nI 0) hC dX4_charge_25 rfl rfl ?_
    refine g_istore (q := 28) (i := 6) hC dX4_charge_26 (by decide) rfl ?_
    rw [hv]
    refine g_sub (lv0 := [(6, .int (nI 0)), (5, .ref (A 5 7)), (4, .int (bI (decide (f < ρ.1 0 6)))), (0, .ref (A 0 0)), (1, .ref (A 3 f)), (2, .int b), (3, .int m)]) ⟨rfl, rfl, rfl, rfl, rfl, rfl, rfl, trivial⟩ ?_
    exact loop _ 0 σ3 W3 (Nat.zero_add _) hr3 hF hok
  refine g_aload_n (q := 1) (i := 1) hC dX4_charge_0 rfl rfl rfl ?_
  refine g_getf (q := 4) (v := .int (nI f)) hC kg_X4_169 dX4_charge_1 (hr.fil (by omega)) rfl rfl ?_
  refine g_aload_n (q := 5) (i := 0) hC dX4_charge_4 rfl rfl rfl ?_
  refine g_getf (q := 8) (v := .int (nI (ρ.1 0 6))) hC kg_X4_46 dX4_charge_5 (hr.led hW) rfl rfl ?_
  refine g_icmp_ge (tgt := 15) (q := 11) hC dX4_charge_8 (by decide) rfl (fun c_8 => ?_) (fun c_8 => ?_)
  · refine g_iconst (q := 16) (v := (0)) hC dX4_charge_15 rfl rfl ?_
    exact st2 false (decide_eq_false (fun z => absurd c_8 (nI_ge z (by omega)))).symm
  · refine g_iconst (q := 12) (v := (1)) hC dX4_charge_11 rfl rfl ?_
    refine g_goto (tgt := 16) hC dX4_charge_12 (by decide) ?_
    exact st2 true (decide_eq_true ((nI_ltI (by omega) (by omega)).mp (Int32.not_le.mp c_8))).symm
