/-! ===== the ledger: chargeFilesWithin ===== -/
theorem chA_2 (ρ : gSt) (a : Nat) (b m : Int32) (t : Bool) : (chA ρ a b m t).2.2 = ρ.2.2 := by
  unfold chA
  split <;> rfl
theorem chN_2 (ρ : gSt) (f : Nat) (b m : Int32) : ∀ n, (chN ρ f b m n).2.2 = ρ.2.2 := by
  intro n
  induction n with
  | zero => rfl
  | succ n ih =>
    unfold chN
    rw [chA_2, ih]
theorem chg_2 (ρ : gSt) (f : Nat) (b m : Int32) : (chg ρ f b m).2.2 = ρ.2.2 := chN_2 ρ f b m _
theorem wiu_1 {ρ ρ' : gSt} (h : ρ'.1 = ρ.1) (p q : Nat) : ∀ d k, wiu ρ' p q d k = wiu ρ p q d k := by
  intro d
  induction d with
  | zero => intro k; rfl
  | succ d ih =>
    intro k
    unfold wiu
    rw [upn_1 h]
    cases upn ρ p k with
    | none => rfl
    | some x =>
      show (if x = q then true else _) = (if x = q then true else _)
      rw [ih]
theorem wi_1 {ρ ρ' : gSt} (h : ρ'.1 = ρ.1) (p q : Nat) : wi ρ' p q = wi ρ p q := wiu_1 h p q 9 0
def cfw (ρ : gSt) (q : Nat) (s : Int32) : Nat → gSt
  | 0 => ρ
  | i + 1 => if (!ρ.2.2 8 i && wi ρ (ρ.1 6 i) q) = true then chg (cfw ρ q s i) i (s * bub (cfw ρ q s i) i (ρ.1 10 5)) s else cfw ρ q s i
theorem cfw_12 (ρ : gSt) (q : Nat) (s : Int32) : ∀ i, (cfw ρ q s i).1 = ρ.1 ∧ (cfw ρ q s i).2.2 = ρ.2.2 := by
  intro i
  induction i with
  | zero => exact ⟨rfl, rfl⟩
  | succ i ih =>
    unfold cfw
    split
    · rw [chg_1, chg_2]
      exact ih
    · exact ih
set_option maxRecDepth 100000 in
set_option maxHeartbeats 4000000 in
theorem c_L_chargeFilesWithin (l : Launch) (hfl : l.stackTraces = false) (M : gMT) (σ : gS) (A : gAd) (ρ : gSt) (q : Nat) (s : Int32) (hre : RawE M σ A ρ) (hW : RW ρ) (hq : q < ρ.1 11 2) : Con l M yX4_chargeFilesWithin (.code yX4_chargeFilesWithin cX4_chargeFilesWithin 5 (Option.none : Option FieldType)) 10 80 1000 [.ref (A 0 0), .ref (A 2 q), .int s] σ (rV (eP M σ A (cfw ρ q s (ρ.1 10 4)))) (nX) := by
  refine g_con hfl (by decide) (lv := [(0, .ref (A 0 0)), (1, .ref (A 2 q)), (2, .int s)]) rfl rfl (Nat.le_of_ble_eq_true rfl) (fun X hX hC hR htb => ?_)
  have w3 := hW.2.2.1
  have w8 := hW.2.2.2.2.2.2.2.1
  have loop : ∀ (d9 i : Nat) (σ3 : gS), i + d9 = ρ.1 10 4 → RawE M σ3 A (cfw ρ q s i) → gFF σ σ3 → G X M 5 (gQ X M 80 1000 (rV (eP M σ A (cfw ρ q s (ρ.1 10 4)))) nX) (2 * i) (25 * i) σ3 2 [(3, .int (nI i)), (0, .ref (A 0 0)), (1, .ref (A 2 q)), (2, .int s)] [] := by
    intro d9
    induction d9 with
    | zero =>
      intro i σ3 h1 hre3 hF
      obtain ⟨W3, hr3⟩ := hre3
      obtain ⟨e1, e2⟩ := cfw_12 ρ q s i
      have hW3 := RW_1 e1 hW
      have e10 : (cfw ρ q s i).1 10 4 = ρ.1 10 4 := by rw [e1]
      refine g_iload_n (q := 3) (i := 3) hC dX4_chargeFilesWithin_2 rfl rfl rfl ?_
      refine g_aload_n (q := 4) (i := 0) hC dX4_chargeFilesWithin_3 rfl rfl rfl ?_
      refine g_getf (q := 7) (v := .ref (A 5 4)) hC kg_X4_22 dX4_chargeFilesWithin_4 (hr3.led hW3) rfl rfl ?_
      refine g_ci (q := 10) (g_runV hC kv_X4_99 md_Jx4a65c_size_8abf5 (c_size _ hC.fl M _ (A 5 4) _ _ _ hr3.l4) (ci := 6) rfl hr3.l4 dX4_chargeFilesWithin_7 (by decide) (by decide) (by omega) (by omega) rfl rfl (Nat.le_of_ble_eq_true rfl)) rfl (fun r σ3 ⟨e3, e4⟩ => ?_) (fun _ _ h9 => False.elim h9)
      subst e3 e4
      refine g_icmp_ge (tgt := 67) (q := 13) hC dX4_chargeFilesWithin_10 (by decide) rfl (fun c_10 => ?_) (fun c_10 => ?_)
      · skip
        exact g_vret hC hR dX4_chargeFilesWithin_67 (by omega) (by omega) (⟨rfl, ⟨W3, by rw [← h1]; exact hr3⟩, hF⟩)
      · exact absurd (nI_le (by omega) (by omega)) c_10
    | succ d9 ih =>
      intro i σ3 h1 hre3 hF
      obtain ⟨W3, hr3⟩ := hre3
      obtain ⟨e1, e2⟩ := cfw_12 ρ q s i
      have hW3 := RW_1 e1 hW
      have e10 : (cfw ρ q s i).1 10 4 = ρ.1 10 4 := by rw [e1]
      have e11 : (cfw ρ q s i).1 11 3 = ρ.1 11 3 := by rw [e1]
      have e12 : (cfw ρ q s i).1 11 2 = ρ.1 11 2 := by rw [e1]
      have e6 : (cfw ρ q s i).1 6 i = ρ.1 6 i := by rw [e1]
      have hh := (w8 i (by omega)).2.2
      have next : ∀ (σ4 : gS), RawE M σ4 A (cfw ρ q s (i + 1)) → gFF σ σ4 → G X M 5 (gQ X M 80 1000 (rV (eP M σ A (cfw ρ q s (ρ.1 10 4)))) nX) (2 * i + 2) (25 * i + 25) σ4 61 [(3, .int (nI i)), (0, .ref (A 0 0)), (1, .ref (A 2 q)), (2, .int s)] [] := by
        intro σ4 hr4 hF4
        refine g_iinc (q := 64) (i := 3) (v := (nI (i + 1))) hC dX4_chargeFilesWithin_61 rfl (nI_1 _) rfl ?_
        refine g_goto (tgt := 2) hC dX4_chargeFilesWithin_64 (by decide) ?_
        refine g_sub (lv0 := [(3, .int (nI (i + 1))), (0, .ref (A 0 0)), (1, .ref (A 2 q)), (2, .int s)]) ⟨rfl, rfl, rfl, rfl, trivial⟩ ?_
        have key := ih (i + 1) σ4 (by omega) hr4 hF4
        rw [show 2 * (i + 1) = 2 * i + 2 by omega, show 25 * (i + 1) = 25 * i + 25 by omega] at key
        exact key
      refine g_iload_n (q := 3) (i := 3) hC dX4_chargeFilesWithin_2 rfl rfl rfl ?_
      refine g_aload_n (q := 4) (i := 0) hC dX4_chargeFilesWithin_3 rfl rfl rfl ?_
      refine g_getf (q := 7) (v := .ref (A 5 4)) hC kg_X4_22 dX4_chargeFilesWithin_4 (hr3.led hW3) rfl rfl ?_
      refine g_ci (q := 10) (g_runV hC kv_X4_99 md_Jx4a65c_size_8abf5 (c_size _ hC.fl M _ (A 5 4) _ _ _ hr3.l4) (ci := 6) rfl hr3.l4 dX4_chargeFilesWithin_7 (by decide) (by decide) (by omega) (by omega) rfl rfl (Nat.le_of_ble_eq_true rfl)) rfl (fun r σ3 ⟨e3, e4⟩ => ?_) (fun _ _ h9 => False.elim h9)
      subst e3 e4
      refine g_icmp_ge (tgt := 67) (q := 13) hC dX4_chargeFilesWithin_10 (by decide) rfl (fun c_10 => ?_) (fun c_10 => ?_)
      · exact absurd c_10 (nI_ge (by omega) (by omega))
      · refine g_aload_n (q := 14) (i := 0) hC dX4_chargeFilesWithin_13 rfl rfl rfl ?_
        refine g_getf (q := 17) (v := .ref (A 5 4)) hC kg_X4_22 dX4_chargeFilesWithin_14 (hr3.led hW3) rfl rfl ?_
        refine g_iload_n (q := 18) (i := 3) hC dX4_chargeFilesWithin_17 rfl rfl rfl ?_
        refine g_cr (q := 21) (g_runV hC kv_X4_186 md_Jx4a65c_get_915e3 (c_gt4 _ hC.fl hr3 i (by omega)) (ci := 6) rfl hr3.l4 dX4_chargeFilesWithin_18 (by decide) (by decide) (by omega) (by omega) rfl rfl (Nat.le_of_ble_eq_true rfl)) rfl (fun r σ3 ⟨e3, e4⟩ => ?_) (fun _ _ h9 => False.elim h9)
        subst e3 e4
        refine g_ccast (q := 24) (ci := 3) hC kc_X4_152 dX4_chargeFilesWithin_21 rfl (hr3.fil (by omega)) rfl ?_
        refine g_astore (q := 26) (i := 4) hC dX4_chargeFilesWithin_24 (by decide) rfl ?_
        refine g_aload (q := 28) (i := 4) hC dX4_chargeFilesWithin_26 rfl rfl ?_
        refine g_getf (q := 31) (v := .int (bI ((cfw ρ q s i).2.2 8 i))) hC kg_X4_183 dX4_chargeFilesWithin_28 (hr3.fil (by omega)) rfl rfl ?_
        refine g_if_ne (tgt := 61) (q := 34) hC dX4_chargeFilesWithin_31 (by decide) rfl (fun c_31 => ?_) (fun c_31 => ?_)
        · have hd : ρ.2.2 8 i = true := by
            have h := bI_n.mp c_31
            rw [e2] at h
            exact h
          refine g_sub (lv0 := [(3, .int (nI i)), (0, .ref (A 0 0)), (1, .ref (A 2 q)), (2, .int s)]) ⟨rfl, rfl, rfl, rfl, trivial⟩ ?_
          exact g_widen (by omega) (by omega) (next σ3 (by rw [cfw, if_neg (by rw [hd]; simp)]; exact ⟨W3, hr3⟩) hF)
        · have hd : ρ.2.2 8 i = false := by
            have h := bI_0.mp c_31
            rw [e2] at h
            exact h
          refine g_aload (q := 36) (i := 4) hC dX4_chargeFilesWithin_34 rfl rfl ?_
          refine g_getf (q := 39) (v := .ref (A 2 ((cfw ρ q s i).1 6 i))) hC kg_X4_199 dX4_chargeFilesWithin_36 (hr3.fil (by omega)) rfl rfl ?_
          refine g_aload_n (q := 40) (i := 1) hC dX4_chargeFilesWithin_39 rfl rfl rfl ?_
          refine g_ci (q := 43) (g_runV hC kv_X4_287 md_X1_isWithin (c_P_isWithin _ hC.fl M _ A (cfw ρ q s i) W3 ((cfw ρ q s i).1 6 i) q hr3 hW3 (by omega) (by omega)) (ci := 1) rfl (hr3.prj (by omega)) dX4_chargeFilesWithin_40 (by decide) (by decide) (by omega) (by omega) rfl rfl (Nat.le_of_ble_eq_true rfl)) rfl (fun r σ3 ⟨e3, e4⟩ => ?_) (fun _ _ h9 => False.elim h9)
          subst e3 e4
          rw [wi_1 e1, e6]
          refine g_if_eq (tgt := 61) (q := 46) hC dX4_chargeFilesWithin_43 (by decide) rfl (fun c_43 => ?_) (fun c_43 => ?_)
          · refine g_sub (lv0 := [(3, .int (nI i)), (0, .ref (A 0 0)), (1, .ref (A 2 q)), (2, .int s)]) ⟨rfl, rfl, rfl, rfl, trivial⟩ ?_
            exact g_widen (by omega) (by omega) (next σ3 (by rw [cfw, if_neg (by rw [bI_0.mp c_43, Bool.and_false]; decide)]; exact ⟨W3, hr3⟩) hF)
          · refine g_aload_n (q := 47) (i := 0) hC dX4_chargeFilesWithin_46 rfl rfl rfl ?_
            refine g_aload (q := 49) (i := 4) hC dX4_chargeFilesWithin_47 rfl rfl ?_
            refine g_iload_n (q := 50) (i := 2) hC dX4_chargeFilesWithin_49 rfl rfl rfl ?_
            refine g_aload_n (q := 51) (i := 0) hC dX4_chargeFilesWithin_50 rfl rfl rfl ?_
            refine g_aload (q := 53) (i := 4) hC dX4_chargeFilesWithin_51 rfl rfl ?_
            refine g_ci (q := 56) (g_runV hC kv_X4_179 md_X4_blocksUsedBy (c_L_blocksUsedBy _ hC.fl M _ A (cfw ρ q s i) W3 i hr3 hW3 (by omega)) (ci := 4) rfl (hr3.led hW3) dX4_chargeFilesWithin_53 (by decide) (by decide) (by omega) (by omega) rfl rfl (Nat.le_of_ble_eq_true rfl)) rfl (fun r σ3 ⟨e3, e4⟩ => ?_) (fun _ _ h9 => False.elim h9)
            subst e3 e4
            refine g_imul (q := 57) hC dX4_chargeFilesWithin_56 rfl rfl ?_
            refine g_iload_n (q := 58) (i := 2) hC dX4_chargeFilesWithin_57 rfl rfl rfl ?_
            refine g_cv (q := 61) (g_runV hC kv_X4_165 md_X4_charge (c_L_charge _ hC.fl M _ A (cfw ρ q s i) W3 i _ s hr3 hW3 (by omega)) (ci := 4) rfl (hr3.led hW3) dX4_chargeFilesWithin_58 (by decide) (by decide) (by omega) (by omega) rfl rfl (Nat.le_of_ble_eq_true rfl)) rfl (fun σ4 ⟨hr4, hF4⟩ => ?_) (fun _ _ h9 => False.elim h9)
            refine g_sub (lv0 := [(3, .int (nI i)), (0, .ref (A 0 0)), (1, .ref (A 2 q)), (2, .int s)]) ⟨rfl, rfl, rfl, rfl, trivial⟩ ?_
            exact next σ4 (by rw [cfw, if_pos (by rw [hd, bI_n.mp c_43]; rfl)]; rw [e1] at hr4; exact hr4) (hF.trans hF4)
  refine g_iconst (q := 1) (v := nI 0) hC dX4_chargeFilesWithin_0 rfl rfl ?_
  refine g_istore_n (q := 2) (i := 3) hC dX4_chargeFilesWithin_1 rfl (by decide) rfl ?_
  refine g_sub (lv0 := [(3, .int (nI 0)), (0, .ref (A 0 0)), (1, .ref (A 2 q)), (2, .int s)]) ⟨rfl, rfl, rfl, rfl, trivial⟩ ?_
  exact loop _ 0 σ (Nat.zero_add _) hre gFF.rf
