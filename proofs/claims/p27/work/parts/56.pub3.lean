/-! ===== the ledger's calls (3): letterAt, room, usedByFiles ===== -/
theorem dpu_some (ρ : gSt) (p : Nat) : ∀ d k, (∃ q, upn ρ p k = some q) → ∀ j, k ≤ j → j ≤ dpu ρ p d k → ∃ q, upn ρ p j = some q := by
  intro d
  induction d with
  | zero =>
    intro k hk j h1 h2
    have h2 : j ≤ k := h2
    rw [show j = k by omega]
    exact hk
  | succ d ih =>
    intro k hk j h1 h2
    unfold dpu at h2
    cases hu : upn ρ p (k + 1) with
    | none =>
      rw [hu] at h2
      have h2 : j ≤ k := h2
      rw [show j = k by omega]
      exact hk
    | some q =>
      rw [hu] at h2
      by_cases z : j = k
      · rw [z]
        exact hk
      · exact ih (k + 1) ⟨q, hu⟩ j (by omega) h2
theorem dep_some (ρ : gSt) (p j : Nat) (h : j ≤ dep ρ p) : ∃ q, upn ρ p j = some q := dpu_some ρ p 9 0 ⟨p, rfl⟩ j (Nat.zero_le _) h
def lo_letterAt (ρ : gSt) (x pl : Int32) : lRes := if inR x (ρ.1 10 3) = false ∨ pl < 0 then (eI, 0, ρ) else ("", if nI (dep ρ x.toNatClampNeg) - 1 < pl then 32 else nI (ρ.1 2 ((upn ρ x.toNatClampNeg (dep ρ x.toNatClampNeg - 1 - pl.toNatClampNeg)).getD 0)), ρ)
set_option maxRecDepth 100000 in
set_option maxHeartbeats 4000000 in
theorem c_L_letterAt (l : Launch) (hfl : l.stackTraces = false) (M : gMT) (σ : gS) (A : gAd) (ρ : gSt) (W : gWt) (x pl : Int32) (hr : Raw M σ A ρ W) (hW : RW ρ) : Con l M yX4_letterAt (.code yX4_letterAt cX4_letterAt 6 (Option.some FieldType.char)) 12 2 12 [.ref (A 0 0), .int x, .int pl] σ (rI (lP M σ A (lo_letterAt ρ x pl))) (lX σ (lo_letterAt ρ x pl)) := by
  refine g_con hfl (by decide) (lv := [(0, .ref (A 0 0)), (1, .int x), (2, .int pl)]) rfl rfl (Nat.le_of_ble_eq_true rfl) (fun X hX hC hR htb => ?_)
  have b2 := hW.2.1
  have b7 := hW.2.2.2.2.2.2.1
  refine g_aload_n (q := 1) (i := 0) hC dX4_letterAt_0 rfl rfl rfl ?_
  refine g_iload_n (q := 2) (i := 1) hC dX4_letterAt_1 rfl rfl rfl ?_
  refine g_cr (q := 5) (g_runV hC kv_X4_111 md_X4_projectOfNumber (c_L_projectOfNumber _ hC.fl M _ A ρ W x hr hW) (ci := 4) rfl (hr.led hW) dX4_letterAt_2 (by decide) (by decide) (by omega) (by omega) rfl rfl (Nat.le_of_ble_eq_true rfl)) rfl (fun r σ ⟨⟨hx, e1⟩, e2⟩ => ?_) (fun E σ2 h9 => by obtain ⟨⟨rfl, h8⟩, rfl⟩ := h9; exact g_out hR htb (by omega) (by omega) (lX_of (by rw [lo_letterAt, if_pos (Or.inl h8)]) eI_n))
  subst e1 e2
  obtain ⟨p, hp, ex, ec⟩ := inR_nI (by omega) hx
  rw [ec]
  have hd := dep_le ρ p
  refine g_astore_n (q := 6) (i := 3) hC dX4_letterAt_5 rfl (by decide) rfl ?_
  refine g_iload_n (q := 7) (i := 2) hC dX4_letterAt_6 rfl rfl rfl ?_
  refine g_if_ge (tgt := 20) (q := 10) hC dX4_letterAt_7 (by decide) rfl (fun c_7 => ?_) (fun c_7 => ?_)
  · have hpl := Int32.not_lt.mpr c_7
    have eT : lo_letterAt ρ x pl = ("", if nI (dep ρ p) - 1 < pl then 32 else nI (ρ.1 2 ((upn ρ p (dep ρ p - 1 - pl.toNatClampNeg)).getD 0)), ρ) := by
      rw [lo_letterAt, if_neg (fun z => z.elim (fun y => by rw [hx] at y; cases y) hpl), ec]
    rw [eT]
    refine g_aload_n (q := 21) (i := 3) hC dX4_letterAt_20 rfl rfl rfl ?_
    refine g_ci (q := 24) (g_runV hC kv_X4_139 md_X1_letters (c_P_letters _ hC.fl M _ A ρ W p hr hW (by omega)) (ci := 1) rfl (hr.prj (by omega)) dX4_letterAt_21 (by decide) (by decide) (by omega) (by omega) rfl rfl (Nat.le_of_ble_eq_true rfl)) rfl (fun r σ ⟨e1, e2⟩ => ?_) (fun _ _ h9 => False.elim h9)
    subst e1 e2
    refine g_iconst (q := 25) (v := (1)) hC dX4_letterAt_24 rfl rfl ?_
    refine g_isub (q := 26) hC dX4_letterAt_25 rfl rfl ?_
    refine g_istore (q := 28) (i := 4) hC dX4_letterAt_26 (by decide) rfl ?_
    refine g_iload_n (q := 29) (i := 2) hC dX4_letterAt_28 rfl rfl rfl ?_
    refine g_iload (q := 31) (i := 4) hC dX4_letterAt_29 rfl rfl ?_
    refine g_icmp_le (tgt := 37) (q := 34) hC dX4_letterAt_31 (by decide) rfl (fun c_31 => ?_) (fun c_31 => ?_)
    · have hpl2 : ¬ nI (dep ρ p) - 1 < pl := Int32.not_lt.mpr c_31
      rw [if_neg hpl2]
      have ej := nonneg_nI c_7
      have hlt : pl.toNatClampNeg < 2 ^ 31 := Int32.toNatClampNeg_lt _
      generalize hj : pl.toNatClampNeg = j at *
      subst ej
      have hd1 : 1 ≤ dep ρ p := by
        rcases Nat.eq_zero_or_pos (dep ρ p) with z | z
        · rw [z] at c_31
          have h6 := Int32.le_iff_toInt_le.mp c_31
          rw [nI_toInt hlt] at h6
          have : (nI 0 - 1).toInt = -1 := by decide
          omega
        · exact z
      have ed : nI (dep ρ p) - 1 = nI (dep ρ p - 1) := pk_sub (b := 1) hd1
      rw [ed] at c_31 ⊢
      have hjd : j ≤ dep ρ p - 1 := (nI_leI hlt (by omega)).mp c_31
      have fin : ∀ (q : Nat) (lv : List (Nat × Value)), q < ρ.1 11 2 → upn ρ p (dep ρ p - 1 - j) = some q → gL lv 3 = some (.ref (A 2 q)) → G X M 6 (gQ X M 2 12 (rI (lP M σ A ("", nI (ρ.1 2 ((upn ρ p (dep ρ p - 1 - j)).getD 0)), ρ))) (lX σ ("", nI (ρ.1 2 ((upn ρ p (dep ρ p - 1 - j)).getD 0)), ρ))) (0 + 1 + 0) (0 + 6 + 0) σ 65 lv [] := by
        intro q lv hq hu g3
        refine g_aload_n (q := 66) (i := 3) hC dX4_letterAt_65 rfl g3 rfl ?_
        refine g_getf (q := 69) (v := .int (nI (ρ.1 2 q))) hC kg_X4_142 dX4_letterAt_66 (hr.prj (by omega)) rfl rfl ?_
        exact g_zret hC hR ((pk_charN (by have := (b7 q hq).1; omega)).1) dX4_letterAt_69 (by omega) (by omega) (⟨_, rfl, lP_same hr (by rw [hu]; rfl)⟩)
      have loop : ∀ (d9 t q : Nat), j + d9 + t = dep ρ p - 1 → upn ρ p t = some q → G X M 6 (gQ X M 2 12 (rI (lP M σ A ("", nI (ρ.1 2 ((upn ρ p (dep ρ p - 1 - j)).getD 0)), ρ))) (lX σ ("", nI (ρ.1 2 ((upn ρ p (dep ρ p - 1 - j)).getD 0)), ρ))) (0 + 1 + 0) (0 + 6 + 0) σ 41 [(5, .int (nI (j + d9))), (3, .ref (A 2 q)), (2, .int (nI j))] [] := by
        intro d9
        induction d9 with
        | zero =>
          intro t q h1 hu
          have hq := upn_lt hW (by omega) _ _ hu
          refine g_iload (q := 43) (i := 5) hC dX4_letterAt_41 rfl rfl ?_
          refine g_iload_n (q := 44) (i := 2) hC dX4_letterAt_43 rfl rfl rfl ?_
          refine g_icmp_le (tgt := 65) (q := 47) hC dX4_letterAt_44 (by decide) rfl (fun c_44 => ?_) (fun c_44 => ?_)
          · exact fin q _ hq (by rw [show dep ρ p - 1 - j = t by omega]; exact hu) rfl
          · exact absurd (nI_le (by omega) (by omega)) c_44
        | succ d9 ih =>
          intro t q h1 hu
          have hq := upn_lt hW (by omega) _ _ hu
          obtain ⟨q', hu'⟩ := dep_some ρ p (t + 1) (by omega)
          have hpar : par ρ q = some q' := by rw [← upn_s ρ p t hu]; exact hu'
          refine g_sub (lv0 := [(5, .int (nI (j + d9 + 1))), (3, .ref (A 2 q)), (2, .int (nI j))]) ⟨rfl, rfl, rfl, trivial⟩ ?_
          refine g_iload (q := 43) (i := 5) hC dX4_letterAt_41 rfl rfl ?_
          refine g_iload_n (q := 44) (i := 2) hC dX4_letterAt_43 rfl rfl rfl ?_
          refine g_icmp_le (tgt := 65) (q := 47) hC dX4_letterAt_44 (by decide) rfl (fun c_44 => ?_) (fun c_44 => ?_)
          · exact absurd c_44 (nI_ge (by omega) (by omega))
          · refine g_aload_n (q := 48) (i := 3) hC dX4_letterAt_47 rfl rfl rfl ?_
            refine g_getf (q := 51) (v := va_rf ((par ρ q).map (A 2))) hC kg_X4_120 dX4_letterAt_48 (hr.prj (by omega)) rfl rfl ?_
            rw [hpar]
            refine g_ifnull (o := some (A 2 q')) (tgt := 65) (q := 54) hC dX4_letterAt_51 (by decide) rfl (fun c_51 => ?_) (fun a c_51 => ?_)
            · cases c_51
            · refine g_aload_n (q := 55) (i := 3) hC dX4_letterAt_54 rfl rfl rfl ?_
              refine g_getf (q := 58) (v := va_rf ((par ρ q).map (A 2))) hC kg_X4_120 dX4_letterAt_55 (hr.prj (by omega)) rfl rfl ?_
              rw [hpar]
              refine g_astore_n (q := 59) (i := 3) hC dX4_letterAt_58 rfl (by decide) rfl ?_
              refine g_iinc (q := 62) (i := 5) (v := (nI (j + d9))) hC dX4_letterAt_59 rfl (pk_m1 _) rfl ?_
              refine g_goto (tgt := 41) hC dX4_letterAt_62 (by decide) ?_
              refine g_sub (lv0 := [(5, .int (nI (j + d9))), (3, .ref (A 2 q')), (2, .int (nI j))]) ⟨rfl, rfl, rfl, trivial⟩ ?_
              exact ih (t + 1) q' (by omega) hu'
      refine g_iload (q := 39) (i := 4) hC dX4_letterAt_37 rfl rfl ?_
      refine g_istore (q := 41) (i := 5) hC dX4_letterAt_39 (by decide) rfl ?_
      refine g_sub (lv0 := [(5, .int (nI (dep ρ p - 1))), (3, .ref (A 2 p)), (2, .int (nI j))]) ⟨rfl, rfl, rfl, trivial⟩ ?_
      have key := loop (dep ρ p - 1 - j) 0 p (by omega) rfl
      rw [show j + (dep ρ p - 1 - j) = dep ρ p - 1 by omega] at key
      exact key
    · have hpl2 : nI (dep ρ p) - 1 < pl := Int32.not_le.mp c_31
      refine g_bipush (q := 36) (v := (32)) hC dX4_letterAt_34 rfl rfl ?_
      exact g_zret hC hR (rfl) dX4_letterAt_36 (by omega) (by omega) (⟨_, rfl, lP_same hr (by rw [if_pos hpl2])⟩)
  · exact g_throwS hC hR htb (tI (is := 136) (text := "the place is below 0") (by decide +kernel)) dX4_letterAt_10 dX4_letterAt_13 dX4_letterAt_14 dX4_letterAt_16 dX4_letterAt_19 (by decide) (Nat.le_of_ble_eq_true rfl) (by omega) (by omega) (lX_of (by rw [lo_letterAt, if_pos (Or.inr (Int32.not_le.mp c_7))]) eI_n)
def lfA (ρ : gSt) (a : Nat) : Int32 := fLeft (ρ.2.1 2 a) (ρ.2.1 4 a) (ρ.2.1 7 a) (ρ.2.1 8 a) (ρ.2.1 0 0)
def rmU (m l : Int32) : Int32 := if ¬ l = -1 ∧ (m = -1 ∨ l < m) then l else m
def rmN (ρ : gSt) (f : Nat) : Nat → Int32
  | 0 => -1
  | i + 1 => rmU (rmN ρ f i) (lfA ρ (rowE ρ f i))
def lo_room (ρ : gSt) (x : Int32) : lRes := if lvf ρ x = false then (eI, 0, ρ) else ("", rmN ρ x.toNatClampNeg (rowN ρ x.toNatClampNeg), ρ)
set_option maxRecDepth 100000 in
set_option maxHeartbeats 4000000 in
theorem c_L_room (l : Launch) (hfl : l.stackTraces = false) (M : gMT) (σ : gS) (A : gAd) (ρ : gSt) (W : gWt) (x : Int32) (hr : Raw M σ A ρ W) (hW : RW ρ) : Con l M yX4_room (.code yX4_room cX4_room 6 (Option.some FieldType.int)) 12 3 31 [.ref (A 0 0), .int x] σ (rI (lP M σ A (lo_room ρ x))) (lX σ (lo_room ρ x)) := by
  refine g_con hfl (by decide) (lv := [(0, .ref (A 0 0)), (1, .int x)]) rfl rfl (Nat.le_of_ble_eq_true rfl) (fun X hX hC hR htb => ?_)
  have w3 := hW.2.2.1
  refine g_aload_n (q := 1) (i := 0) hC dX4_room_0 rfl rfl rfl ?_
  refine g_aload_n (q := 2) (i := 0) hC dX4_room_1 rfl rfl rfl ?_
  refine g_iload_n (q := 3) (i := 1) hC dX4_room_2 rfl rfl rfl ?_
  refine g_cr (q := 6) (g_runV hC kv_X4_170 md_X4_liveFile (c_L_liveFile _ hC.fl M _ A ρ W x hr hW) (ci := 4) rfl (hr.led hW) dX4_room_3 (by decide) (by decide) (by omega) (by omega) rfl rfl (Nat.le_of_ble_eq_true rfl)) rfl (fun r σ ⟨⟨hx, e1⟩, e2⟩ => ?_) (fun E σ2 h9 => by obtain ⟨⟨rfl, h8⟩, rfl⟩ := h9; exact g_out hR htb (by omega) (by omega) (lX_of (by rw [lo_room, if_pos h8]) eI_n))
  subst e1 e2
  obtain ⟨f, hf, ex, ec, -⟩ := lvf_nI hW hx
  have eT : lo_room ρ x = ("", rmN ρ f (rowN ρ f), ρ) := by rw [lo_room, if_neg (by rw [hx]; decide), ec]
  rw [eT, ec]
  have hn := rowN_le ρ f
  have loop : ∀ (σ3 : gS) (W3 : gWt), Raw M σ3 A ρ W3 → gFF σ σ3 → rowOk ρ W3 f → ∀ (d9 i : Nat), i + d9 = rowN ρ f → G X M 6 (gQ X M 3 31 (rI (lP M σ A ("", rmN ρ f (rowN ρ f), ρ))) (lX σ ("", rmN ρ f (rowN ρ f), ρ))) (0 + 1 + 2) (0 + 6 + 25) σ3 15 [(4, .int (nI i)), (3, .int (rmN ρ f i)), (2, .ref (A 5 7)), (0, .ref (A 0 0))] [] := by
    intro σ3 W3 hr3 hF hok d9
    obtain ⟨k1, k2⟩ := hok
    induction d9 with
    | zero =>
      intro i h1
      refine g_iload (q := 17) (i := 4) hC dX4_room_15 rfl rfl ?_
      refine g_aload_n (q := 18) (i := 2) hC dX4_room_17 rfl rfl rfl ?_
      refine g_ci (q := 21) (g_runV hC kv_X4_99 md_Jx4a65c_size_8abf5 (c_size _ hC.fl M _ (A 5 7) _ _ _ hr3.l7) (ci := 6) rfl hr3.l7 dX4_room_18 (by decide) (by decide) (by omega) (by omega) rfl rfl (Nat.le_of_ble_eq_true rfl)) rfl (fun r σ3 ⟨e1, e2⟩ => ?_) (fun _ _ h9 => False.elim h9)
      subst e1 e2
      refine g_icmp_ge (tgt := 68) (q := 24) hC dX4_room_21 (by decide) rfl (fun c_21 => ?_) (fun c_21 => ?_)
      · refine g_iload_n (q := 69) (i := 3) hC dX4_room_68 rfl rfl rfl ?_
        exact g_iret hC hR dX4_room_69 (by omega) (by omega) (⟨_, rfl, by rw [← h1]; exact ⟨rfl, rfl, ⟨A, rfl, W3, hr3⟩, hF⟩⟩)
      · exact absurd (nI_le (show wRc W3 ≤ i by omega) (by omega)) c_21
    | succ d9 ih =>
      intro i h1
      have ha := rowE_lt hW (show f < ρ.1 11 3 by omega) (show i < rowN ρ f by omega)
      have next : ∀ v : Int32, v = rmN ρ f (i + 1) → G X M 6 (gQ X M 3 31 (rI (lP M σ A ("", rmN ρ f (rowN ρ f), ρ))) (lX σ ("", rmN ρ f (rowN ρ f), ρ))) (0 + 1 + 2) (0 + 6 + 25) σ3 62 [(4, .int (nI i)), (3, .int v), (2, .ref (A 5 7)), (0, .ref (A 0 0))] [] := by
        intro v hv
        refine g_iinc (q := 65) (i := 4) (v := (nI (i + 1))) hC dX4_room_62 rfl (nI_1 _) rfl ?_
        refine g_goto (tgt := 15) hC dX4_room_65 (by decide) ?_
        rw [hv]
        refine g_sub (lv0 := [(4, .int (nI (i + 1))), (3, .int (rmN ρ f (i + 1))), (2, .ref (A 5 7)), (0, .ref (A 0 0))]) ⟨rfl, rfl, rfl, rfl, trivial⟩ ?_
        exact ih (i + 1) (by omega)
      refine g_iload (q := 17) (i := 4) hC dX4_room_15 rfl rfl ?_
      refine g_aload_n (q := 18) (i := 2) hC dX4_room_17 rfl rfl rfl ?_
      refine g_ci (q := 21) (g_runV hC kv_X4_99 md_Jx4a65c_size_8abf5 (c_size _ hC.fl M _ (A 5 7) _ _ _ hr3.l7) (ci := 6) rfl hr3.l7 dX4_room_18 (by decide) (by decide) (by omega) (by omega) rfl rfl (Nat.le_of_ble_eq_true rfl)) rfl (fun r σ3 ⟨e1, e2⟩ => ?_) (fun _ _ h9 => False.elim h9)
      subst e1 e2
      refine g_icmp_ge (tgt := 68) (q := 24) hC dX4_room_21 (by decide) rfl (fun c_21 => ?_) (fun c_21 => ?_)
      · exact absurd c_21 (nI_ge (show i < wRc W3 by omega) (by omega))
      · refine g_aload_n (q := 25) (i := 2) hC dX4_room_24 rfl rfl rfl ?_
        refine g_iload (q := 27) (i := 4) hC dX4_room_25 rfl rfl ?_
        refine g_cr (q := 30) (g_runV hC kv_X4_186 md_Jx4a65c_get_915e3 (c_gt7 _ hC.fl hr3 i (by omega)) (ci := 6) rfl hr3.l7 dX4_room_27 (by decide) (by decide) (by omega) (by omega) rfl rfl (Nat.le_of_ble_eq_true rfl)) rfl (fun r σ3 ⟨e1, e2⟩ => ?_) (fun _ _ h9 => False.elim h9)
        subst e1 e2
        rw [k2 i (by omega)]
        refine g_ccast (q := 33) (ci := 0) hC kc_X4_49 dX4_room_30 rfl (hr3.acc ha) rfl ?_
        refine g_aload_n (q := 34) (i := 0) hC dX4_room_33 rfl rfl rfl ?_
        refine g_getf (q := 37) (v := .int (ρ.2.1 0 0)) hC kg_X4_38 dX4_room_34 (hr3.led hW) rfl rfl ?_
        refine g_ci (q := 40) (g_runV hC kv_X4_250 md_X0_blocksLeft (c_X0_blocksLeft _ hC.fl M _ (A 1 (rowE ρ f i)) _ _ _ _ _ _ _ _ _ (hr3.acc ha)) (ci := 0) rfl (hr3.acc ha) dX4_room_37 (by decide) (by decide) (by omega) (by omega) rfl rfl (Nat.le_of_ble_eq_true rfl)) rfl (fun r σ3 ⟨e1, e2⟩ => ?_) (fun _ _ h9 => False.elim h9)
        subst e1 e2
        refine g_istore (q := 42) (i := 5) hC dX4_room_40 (by decide) rfl ?_
        refine g_iload (q := 44) (i := 5) hC dX4_room_42 rfl rfl ?_
        refine g_iconst (q := 45) (v := (-1)) hC dX4_room_44 rfl rfl ?_
        refine g_icmp_eq (tgt := 62) (q := 48) hC dX4_room_45 (by decide) rfl (fun c_45 => ?_) (fun c_45 => ?_)
        · refine g_sub (lv0 := [(4, .int (nI i)), (3, .int (rmN ρ f i)), (2, .ref (A 5 7)), (0, .ref (A 0 0))]) ⟨rfl, rfl, rfl, rfl, trivial⟩ ?_
          exact next _ (by rw [rmN, rmU, if_neg (fun z => z.1 c_45)])
        · refine g_iload_n (q := 49) (i := 3) hC dX4_room_48 rfl rfl rfl ?_
          refine g_iconst (q := 50) (v := (-1)) hC dX4_room_49 rfl rfl ?_
          refine g_icmp_eq (tgt := 59) (q := 53) hC dX4_room_50 (by decide) rfl (fun c_50 => ?_) (fun c_50 => ?_)
          · refine g_iload (q := 61) (i := 5) hC dX4_room_59 rfl rfl ?_
            refine g_istore_n (q := 62) (i := 3) hC dX4_room_61 rfl (by decide) rfl ?_
            refine g_sub (lv0 := [(4, .int (nI i)), (3, .int (lfA ρ (rowE ρ f i))), (2, .ref (A 5 7)), (0, .ref (A 0 0))]) ⟨rfl, rfl, rfl, rfl, trivial⟩ ?_
            exact next _ (by rw [rmN, rmU, if_pos ⟨c_45, Or.inl c_50⟩])
          · refine g_iload (q := 55) (i := 5) hC dX4_room_53 rfl rfl ?_
            refine g_iload_n (q := 56) (i := 3) hC dX4_room_55 rfl rfl rfl ?_
            refine g_icmp_ge (tgt := 62) (q := 59) hC dX4_room_56 (by decide) rfl (fun c_56 => ?_) (fun c_56 => ?_)
            · refine g_sub (lv0 := [(4, .int (nI i)), (3, .int (rmN ρ f i)), (2, .ref (A 5 7)), (0, .ref (A 0 0))]) ⟨rfl, rfl, rfl, rfl, trivial⟩ ?_
              exact next _ (by rw [rmN, rmU, if_neg (fun z => z.2.elim c_50 (Int32.not_lt.mpr c_56))])
            · refine g_iload (q := 61) (i := 5) hC dX4_room_59 rfl rfl ?_
              refine g_istore_n (q := 62) (i := 3) hC dX4_room_61 rfl (by decide) rfl ?_
              refine g_sub (lv0 := [(4, .int (nI i)), (3, .int (lfA ρ (rowE ρ f i))), (2, .ref (A 5 7)), (0, .ref (A 0 0))]) ⟨rfl, rfl, rfl, rfl, trivial⟩ ?_
              exact next _ (by rw [rmN, rmU, if_pos ⟨c_45, Or.inr (Int32.not_le.mp c_56)⟩])
  refine g_cr (q := 9) (g_runV hC kv_X4_246 md_X4_accountsOf (c_L_accountsOf _ hC.fl M _ A ρ W f hr hW (by omega)) (ci := 4) rfl (hr.led hW) dX4_room_6 (by decide) (by decide) (by omega) (by omega) rfl rfl (Nat.le_of_ble_eq_true rfl)) rfl (fun r σ3 ⟨e1, hF, W3, hr3, hok⟩ => ?_) (fun _ _ h9 => False.elim h9)
  subst e1
  refine g_astore_n (q := 10) (i := 2) hC dX4_room_9 rfl (by decide) rfl ?_
  refine g_iconst (q := 11) (v := (-1)) hC dX4_room_10 rfl rfl ?_
  refine g_istore_n (q := 12) (i := 3) hC dX4_room_11 rfl (by decide) rfl ?_
  refine g_iconst (q := 13) (v := nI 0) hC dX4_room_12 rfl rfl ?_
  refine g_istore (q := 15) (i := 4) hC dX4_room_13 (by decide) rfl ?_
  refine g_sub (lv0 := [(4, .int (nI 0)), (3, .int (-1)), (2, .ref (A 5 7)), (0, .ref (A 0 0))]) ⟨rfl, rfl, rfl, rfl, trivial⟩ ?_
  exact loop σ3 W3 hr3 hF hok _ 0 (Nat.zero_add _)
