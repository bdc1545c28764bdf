/-! ===== the ledger's calls (7): delete, moveFile ===== -/
def clL (ρ : gSt) (f n : Nat) : gSt := (ρ.1, ρ.2.1, fun c i => if c = 11 ∧ i < n ∧ ρ.1 7 i = f then false else ρ.2.2 c i)
theorem clL_0 (ρ : gSt) (f : Nat) : clL ρ f 0 = ρ := by
  have e : (fun c i => if c = 11 ∧ i < 0 ∧ ρ.1 7 i = f then false else ρ.2.2 c i) = ρ.2.2 := by
    funext c i
    exact if_neg (fun z => absurd z.2.1 (Nat.not_lt_zero _))
  unfold clL
  rw [e]
theorem clL_y (ρ : gSt) (f k : Nat) (h : ρ.1 7 k = f) : sB (clL ρ f k) 11 k false = clL ρ f (k + 1) := by
  have e : up2 (clL ρ f k).2.2 11 k false = (clL ρ f (k + 1)).2.2 := by
    funext c i
    unfold clL up2
    dsimp only
    by_cases h1 : c = 11 ∧ i = k
    · rw [if_pos h1, if_pos ⟨h1.1, by omega, by rw [h1.2]; exact h⟩]
    · rw [if_neg h1]
      by_cases h2 : c = 11 ∧ i < k ∧ ρ.1 7 i = f
      · rw [if_pos h2, if_pos ⟨h2.1, by omega, h2.2.2⟩]
      · rw [if_neg h2, if_neg (fun z => ?_)]
        by_cases y : i = k
        · exact h1 ⟨z.1, y⟩
        · exact h2 ⟨z.1, by omega, z.2.2⟩
  unfold sB
  rw [e]
  rfl
theorem clL_n (ρ : gSt) (f k : Nat) (h : ¬ ρ.1 7 k = f) : clL ρ f k = clL ρ f (k + 1) := by
  have e : (clL ρ f k).2.2 = (clL ρ f (k + 1)).2.2 := by
    funext c i
    unfold clL
    dsimp only
    by_cases h2 : c = 11 ∧ i < k ∧ ρ.1 7 i = f
    · rw [if_pos h2, if_pos ⟨h2.1, by omega, h2.2.2⟩]
    · rw [if_neg h2, if_neg (fun z => ?_)]
      by_cases y : i = k
      · rw [y] at z
        exact h z.2.2
      · exact h2 ⟨z.1, by omega, z.2.2⟩
  exact Prod.ext rfl (Prod.ext rfl e)
def dlL (ρ : gSt) (f : Nat) : gSt := clL (sB (chg ρ f (-(bub ρ f (ρ.1 10 5))) (-1)) 8 f true) f (ρ.1 10 5)
def lo_delete (ρ : gSt) (x : Int32) : lRes := if lvf ρ x = false then (eI, 0, ρ) else ("", bub ρ x.toNatClampNeg (ρ.1 10 5), ntS (dlL ρ x.toNatClampNeg))
set_option maxRecDepth 100000 in
set_option maxHeartbeats 4000000 in
theorem c_L_delete (l : Launch) (hfl : l.stackTraces = false) (M : gMT) (σ : gS) (A : gAd) (ρ : gSt) (W : gWt) (x : Int32) (hr : Raw M σ A ρ W) (hW : RW ρ) : Con l M yX4_delete (.code yX4_delete cX4_delete 6 (Option.some FieldType.int)) 12 3 31 [.ref (A 0 0), .int x] σ (rI (lP M σ A (lo_delete ρ x))) (lX σ (lo_delete ρ x)) := by
  refine g_con hfl (by decide) (lv := [(0, .ref (A 0 0)), (1, .int x)]) rfl rfl (Nat.le_of_ble_eq_true rfl) (fun X hX hC hR htb => ?_)
  have w3 := hW.2.2.1
  have w4 := hW.2.2.2.1
  have w9 := hW.2.2.2.2.2.2.2.2
  refine g_aload_n (q := 1) (i := 0) hC dX4_delete_0 rfl rfl rfl ?_
  refine g_iload_n (q := 2) (i := 1) hC dX4_delete_1 rfl rfl rfl ?_
  refine g_cr (q := 5) (g_runV hC kv_X4_170 md_X4_liveFile (c_L_liveFile _ hC.fl M _ A ρ W x hr hW) (ci := 4) rfl (hr.led hW) dX4_delete_2 (by decide) (by decide) (by omega) (by omega) rfl rfl (Nat.le_of_ble_eq_true rfl)) rfl (fun r σ ⟨⟨hx, e1⟩, e2⟩ => ?_) (fun E σ2 h9 => by obtain ⟨⟨rfl, h8⟩, rfl⟩ := h9; exact g_out hR htb (by omega) (by omega) (lX_of (by rw [lo_delete, if_pos h8]) eI_n))
  subst e1 e2
  obtain ⟨f, hf, ex, ec, -⟩ := lvf_nI hW hx
  have eT : lo_delete ρ x = ("", bub ρ f (ρ.1 10 5), ntS (dlL ρ f)) := by rw [lo_delete, if_neg (by rw [hx]; decide), ec]
  rw [eT, ec]
  generalize hu : bub ρ f (ρ.1 10 5) = u
  have e21 : (sB (chg ρ f (-u) (-1)) 8 f true).1 = ρ.1 := chg_1 _ _ _ _
  have loop : ∀ (d9 i : Nat) (σ3 : gS) (W3 : gWt), i + d9 = ρ.1 10 5 → Raw M σ3 A (clL (sB (chg ρ f (-u) (-1)) 8 f true) f i) W3 → gFF σ σ3 → G X M 6 (gQ X M 3 31 (rI (lP M σ A ("", u, ntS (dlL ρ f)))) (lX σ ("", u, ntS (dlL ρ f)))) (0 + 1 + 0 + 2) (0 + 6 + 0 + 25) σ3 28 [(4, .int (nI i)), (3, .int u), (2, .ref (A 3 f)), (0, .ref (A 0 0))] [] := by
    intro d9
    induction d9 with
    | zero =>
      intro i σ3 W3 h1 hr3 hF
      have hW3 : RW (clL (sB (chg ρ f (-u) (-1)) 8 f true) f i) := RW_1 e21 hW
      have e10 : (clL (sB (chg ρ f (-u) (-1)) 8 f true) f i).1 10 5 = ρ.1 10 5 := by show (sB (chg ρ f (-u) (-1)) 8 f true).1 10 5 = _; rw [e21]
      refine g_iload (q := 30) (i := 4) hC dX4_delete_28 rfl rfl ?_
      refine g_aload_n (q := 31) (i := 0) hC dX4_delete_30 rfl rfl rfl ?_
      refine g_getf (q := 34) (v := .ref (A 5 5)) hC kg_X4_25 dX4_delete_31 (hr3.led hW3) rfl rfl ?_
      refine g_ci (q := 37) (g_runV hC kv_X4_99 md_Jx4a65c_size_8abf5 (c_size _ hC.fl M _ (A 5 5) _ _ _ hr3.l5) (ci := 6) rfl hr3.l5 dX4_delete_34 (by decide) (by decide) (by omega) (by omega) rfl rfl (Nat.le_of_ble_eq_true rfl)) rfl (fun r σ3 ⟨e1, e2⟩ => ?_) (fun _ _ h9 => False.elim h9)
      subst e1 e2
      refine g_icmp_ge (tgt := 75) (q := 40) hC dX4_delete_37 (by decide) rfl (fun c_37 => ?_) (fun c_37 => ?_)
      · refine g_aload_n (q := 76) (i := 0) hC dX4_delete_75 rfl rfl rfl ?_
        refine g_cv (q := 79) (g_runV hC kv_X4_127 md_X4_noteOverAccounts (c_L_noteOver _ hC.fl M _ A _ W3 hr3 hW3) (ci := 4) rfl (hr3.led hW3) dX4_delete_76 (by decide) (by decide) (by omega) (by omega) rfl rfl (Nat.le_of_ble_eq_true rfl)) rfl (fun σ7 ⟨⟨W7, hr7⟩, hF7⟩ => ?_) (fun _ _ h9 => False.elim h9)
        refine g_iload_n (q := 80) (i := 3) hC dX4_delete_79 rfl rfl rfl ?_
        exact g_iret hC hR dX4_delete_80 (by omega) (by omega) (⟨_, rfl, rfl, rfl, ⟨A, rfl, W7, by rw [dlL, hu, ← h1]; exact hr7⟩, hF.trans hF7⟩)
      · exact absurd (nI_le (by omega) (by omega)) c_37
    | succ d9 ih =>
      intro i σ3 W3 h1 hr3 hF
      have hW3 : RW (clL (sB (chg ρ f (-u) (-1)) 8 f true) f i) := RW_1 e21 hW
      have e10 : (clL (sB (chg ρ f (-u) (-1)) 8 f true) f i).1 10 5 = ρ.1 10 5 := by show (sB (chg ρ f (-u) (-1)) 8 f true).1 10 5 = _; rw [e21]
      have e114 : (clL (sB (chg ρ f (-u) (-1)) 8 f true) f i).1 11 4 = ρ.1 11 4 := by show (sB (chg ρ f (-u) (-1)) 8 f true).1 11 4 = _; rw [e21]
      have e113 : (clL (sB (chg ρ f (-u) (-1)) 8 f true) f i).1 11 3 = ρ.1 11 3 := by show (sB (chg ρ f (-u) (-1)) 8 f true).1 11 3 = _; rw [e21]
      have e7 : (clL (sB (chg ρ f (-u) (-1)) 8 f true) f i).1 7 i = ρ.1 7 i := by show (sB (chg ρ f (-u) (-1)) 8 f true).1 7 i = _; rw [e21]
      have e7' : (sB (chg ρ f (-u) (-1)) 8 f true).1 7 i = ρ.1 7 i := by rw [e21]
      have hfi := w9 i (by omega)
      have next : ∀ (σ4 : gS), Raw M σ4 A (clL (sB (chg ρ f (-u) (-1)) 8 f true) f (i + 1)) W3 → gFF σ σ4 → G X M 6 (gQ X M 3 31 (rI (lP M σ A ("", u, ntS (dlL ρ f)))) (lX σ ("", u, ntS (dlL ρ f)))) (0 + 1 + 0 + 2) (0 + 6 + 0 + 25) σ4 69 [(4, .int (nI i)), (3, .int u), (2, .ref (A 3 f)), (0, .ref (A 0 0))] [] := by
        intro σ4 hr4 hF4
        refine g_iinc (q := 72) (i := 4) (v := (nI (i + 1))) hC dX4_delete_69 rfl (nI_1 _) rfl ?_
        refine g_goto (tgt := 28) hC dX4_delete_72 (by decide) ?_
        refine g_sub (lv0 := [(4, .int (nI (i + 1))), (3, .int u), (2, .ref (A 3 f)), (0, .ref (A 0 0))]) ⟨rfl, rfl, rfl, rfl, trivial⟩ ?_
        exact ih (i + 1) σ4 W3 (by omega) hr4 hF4
      refine g_iload (q := 30) (i := 4) hC dX4_delete_28 rfl rfl ?_
      refine g_aload_n (q := 31) (i := 0) hC dX4_delete_30 rfl rfl rfl ?_
      refine g_getf (q := 34) (v := .ref (A 5 5)) hC kg_X4_25 dX4_delete_31 (hr3.led hW3) rfl rfl ?_
      refine g_ci (q := 37) (g_runV hC kv_X4_99 md_Jx4a65c_size_8abf5 (c_size _ hC.fl M _ (A 5 5) _ _ _ hr3.l5) (ci := 6) rfl hr3.l5 dX4_delete_34 (by decide) (by decide) (by omega) (by omega) rfl rfl (Nat.le_of_ble_eq_true rfl)) rfl (fun r σ3 ⟨e1, e2⟩ => ?_) (fun _ _ h9 => False.elim h9)
      subst e1 e2
      refine g_icmp_ge (tgt := 75) (q := 40) hC dX4_delete_37 (by decide) rfl (fun c_37 => ?_) (fun c_37 => ?_)
      · exact absurd c_37 (nI_ge (by omega) (by omega))
      · refine g_aload_n (q := 41) (i := 0) hC dX4_delete_40 rfl rfl rfl ?_
        refine g_getf (q := 44) (v := .ref (A 5 5)) hC kg_X4_25 dX4_delete_41 (hr3.led hW3) rfl rfl ?_
        refine g_iload (q := 46) (i := 4) hC dX4_delete_44 rfl rfl ?_
        refine g_cr (q := 49) (g_runV hC kv_X4_186 md_Jx4a65c_get_915e3 (c_gt5 _ hC.fl hr3 i (by omega)) (ci := 6) rfl hr3.l5 dX4_delete_46 (by decide) (by decide) (by omega) (by omega) rfl rfl (Nat.le_of_ble_eq_true rfl)) rfl (fun r σ3 ⟨e1, e2⟩ => ?_) (fun _ _ h9 => False.elim h9)
        subst e1 e2
        refine g_ccast (q := 52) (ci := 2) hC kc_X4_190 dX4_delete_49 rfl (hr3.rsv (by omega)) rfl ?_
        refine g_astore (q := 54) (i := 5) hC dX4_delete_52 (by decide) rfl ?_
        refine g_aload (q := 56) (i := 5) hC dX4_delete_54 rfl rfl ?_
        refine g_getf (q := 59) (v := .ref (A 3 ((clL (sB (chg ρ f (-u) (-1)) 8 f true) f i).1 7 i))) hC kg_X4_192 dX4_delete_56 (hr3.rsv (by omega)) rfl rfl ?_
        rw [e7]
        refine g_aload_n (q := 60) (i := 2) hC dX4_delete_59 rfl rfl rfl ?_
        refine g_acmp_ne (tgt := 69) (q := 63) (rx := some (A 3 (ρ.1 7 i))) (ry := some (A 3 f)) hC dX4_delete_60 (by decide) rfl (fun c_60 => ?_) (fun c_60 => ?_)
        · have ne : ¬ ρ.1 7 i = f := fun z => c_60 (by rw [z])
          refine g_sub (lv0 := [(4, .int (nI i)), (3, .int u), (2, .ref (A 3 f)), (0, .ref (A 0 0))]) ⟨rfl, rfl, rfl, rfl, trivial⟩ ?_
          exact next σ3 (by rw [← clL_n _ _ _ (by rw [e7']; exact ne)]; exact hr3) hF
        · have e := (hr3.inj (k := 3) (by decide) (by omega) (by omega)).mp (Option.some.inj c_60)
          have h5 := hr3.pOpn (r := i) (by omega) false
          rw [clL_y _ _ _ (by rw [e7']; exact e)] at h5
          refine g_aload (q := 65) (i := 5) hC dX4_delete_63 rfl rfl ?_
          refine g_iconst (q := 66) (v := (0)) hC dX4_delete_65 rfl rfl ?_
          refine g_putf (q := 69) hC kf_X4_196 dX4_delete_66 (hr3.rsv (by omega)) (Nat.le_of_ble_eq_true rfl) rfl rfl rfl ?_
          refine g_sub (lv0 := [(4, .int (nI i)), (3, .int u), (2, .ref (A 3 f)), (0, .ref (A 0 0))]) ⟨rfl, rfl, rfl, rfl, trivial⟩ ?_
          exact next _ h5 (hF.trans (gFF.obj (hr3.rsv (by omega)) (by decide)))
  refine g_astore_n (q := 6) (i := 2) hC dX4_delete_5 rfl (by decide) rfl ?_
  refine g_aload_n (q := 7) (i := 0) hC dX4_delete_6 rfl rfl rfl ?_
  refine g_aload_n (q := 8) (i := 2) hC dX4_delete_7 rfl rfl rfl ?_
  refine g_ci (q := 11) (g_runV hC kv_X4_179 md_X4_blocksUsedBy (c_L_blocksUsedBy _ hC.fl M _ A ρ W f hr hW (by omega)) (ci := 4) rfl (hr.led hW) dX4_delete_8 (by decide) (by decide) (by omega) (by omega) rfl rfl (Nat.le_of_ble_eq_true rfl)) rfl (fun r σ ⟨e1, e2⟩ => ?_) (fun _ _ h9 => False.elim h9)
  subst e1 e2
  rw [hu]
  refine g_istore_n (q := 12) (i := 3) hC dX4_delete_11 rfl (by decide) rfl ?_
  refine g_aload_n (q := 13) (i := 0) hC dX4_delete_12 rfl rfl rfl ?_
  refine g_aload_n (q := 14) (i := 2) hC dX4_delete_13 rfl rfl rfl ?_
  refine g_iload_n (q := 15) (i := 3) hC dX4_delete_14 rfl rfl rfl ?_
  refine g_ineg (q := 16) hC dX4_delete_15 rfl rfl ?_
  refine g_iconst (q := 17) (v := (-1)) hC dX4_delete_16 rfl rfl ?_
  refine g_cv (q := 20) (g_runV hC kv_X4_165 md_X4_charge (c_L_charge _ hC.fl M _ A ρ W f (-u) (-1) hr hW (by omega)) (ci := 4) rfl (hr.led hW) dX4_delete_17 (by decide) (by decide) (by omega) (by omega) rfl rfl (Nat.le_of_ble_eq_true rfl)) rfl (fun σ6 ⟨⟨W6, hr6⟩, hF6⟩ => ?_) (fun _ _ h9 => False.elim h9)
  have e61 : (chg ρ f (-u) (-1)).1 = ρ.1 := chg_1 _ _ _ _
  have hf6 : f < (chg ρ f (-u) (-1)).1 11 3 := by rw [e61]; omega
  have h7 := hr6.pDel hf6 true
  refine g_aload_n (q := 21) (i := 2) hC dX4_delete_20 rfl rfl rfl ?_
  refine g_iconst (q := 22) (v := (1)) hC dX4_delete_21 rfl rfl ?_
  refine g_putf (q := 25) hC kf_X4_183 dX4_delete_22 (hr6.fil hf6) (Nat.le_of_ble_eq_true rfl) rfl rfl rfl ?_
  refine g_iconst (q := 26) (v := nI 0) hC dX4_delete_25 rfl rfl ?_
  refine g_istore (q := 28) (i := 4) hC dX4_delete_26 (by decide) rfl ?_
  refine g_sub (lv0 := [(4, .int (nI 0)), (3, .int u), (2, .ref (A 3 f)), (0, .ref (A 0 0))]) ⟨rfl, rfl, rfl, rfl, trivial⟩ ?_
  exact loop _ 0 _ W6 (Nat.zero_add _) (by rw [clL_0]; exact h7) (hF6.trans (gFF.obj (hr6.fil hf6) (by decide)))
theorem sN_W6h {ρ : gSt} (hW : RW ρ) {f p : Nat} (hp : p < ρ.1 11 2) : RW (sN ρ 6 f p) := by
  have hu : ∀ p' k, upn (sN ρ 6 f p) p' k = upn ρ p' k := by
    intro p' k
    induction k with
    | zero => rfl
    | succ k ih =>
      unfold upn
      rw [ih]
      rfl
  obtain ⟨w1, w2, w3, w4, w5, w6, w7, w8, w9⟩ := hW
  refine ⟨w1, w2, w3, w4, w5, w6, fun p' hp' => ?_, fun g hg => ?_, w9⟩
  · obtain ⟨h1, h2, h3⟩ := w7 p' hp'
    exact ⟨h1, h2, (hu p' 9).trans h3⟩
  · obtain ⟨h1, h2, h3⟩ := w8 g hg
    refine ⟨h1, h2, ?_⟩
    show up2 ρ.1 6 f p 6 g < ρ.1 11 2
    by_cases z : g = f
    · subst z
      rw [up2_self]
      exact hp
    · rw [up2_ne _ _ (Or.inr z)]
      exact h3
def mfL (ρ : gSt) (f q : Nat) : gSt := chg (sN (chg ρ f (-(bub ρ f (ρ.1 10 5))) (-1)) 6 f q) f (bub ρ f (ρ.1 10 5)) 1
def lo_moveFile (ρ : gSt) (x y : Int32) : lRes := if lvf ρ x = false then (eI, 0, ρ) else if inR y (ρ.1 10 3) = false then (eI, 0, ρ) else ("", nI (ρ.1 6 x.toNatClampNeg), ntS (mfL ρ x.toNatClampNeg y.toNatClampNeg))
set_option maxRecDepth 100000 in
set_option maxHeartbeats 4000000 in
theorem c_L_moveFile (l : Launch) (hfl : l.stackTraces = false) (M : gMT) (σ : gS) (A : gAd) (ρ : gSt) (W : gWt) (x y : Int32) (hr : Raw M σ A ρ W) (hW : RW ρ) : Con l M yX4_moveFile (.code yX4_moveFile cX4_moveFile 7 (Option.some FieldType.int)) 12 6 62 [.ref (A 0 0), .int x, .int y] σ (rI (lP M σ A (lo_moveFile ρ x y))) (lX σ (lo_moveFile ρ x y)) := by
  refine g_con hfl (by decide) (lv := [(0, .ref (A 0 0)), (1, .int x), (2, .int y)]) rfl rfl (Nat.le_of_ble_eq_true rfl) (fun X hX hC hR htb => ?_)
  have w2 := hW.2.1
  have w3 := hW.2.2.1
  have w8 := hW.2.2.2.2.2.2.2.1
  refine g_aload_n (q := 1) (i := 0) hC dX4_moveFile_0 rfl rfl rfl ?_
  refine g_iload_n (q := 2) (i := 1) hC dX4_moveFile_1 rfl rfl rfl ?_
  refine g_cr (q := 5) (g_runV hC kv_X4_170 md_X4_liveFile (c_L_liveFile _ hC.fl M _ A ρ W x hr hW) (ci := 4) rfl (hr.led hW) dX4_moveFile_2 (by decide) (by decide) (by omega) (by omega) rfl rfl (Nat.le_of_ble_eq_true rfl)) rfl (fun r σ ⟨⟨hx, e1⟩, e2⟩ => ?_) (fun E σ2 h9 => by obtain ⟨⟨rfl, h8⟩, rfl⟩ := h9; exact g_out hR htb (by omega) (by omega) (lX_of (by rw [lo_moveFile, if_pos h8]) eI_n))
  subst e1 e2
  refine g_astore_n (q := 6) (i := 3) hC dX4_moveFile_5 rfl (by decide) rfl ?_
  refine g_aload_n (q := 7) (i := 0) hC dX4_moveFile_6 rfl rfl rfl ?_
  refine g_iload_n (q := 8) (i := 2) hC dX4_moveFile_7 rfl rfl rfl ?_
  refine g_cr (q := 11) (g_runV hC kv_X4_111 md_X4_projectOfNumber (c_L_projectOfNumber _ hC.fl M _ A ρ W y hr hW) (ci := 4) rfl (hr.led hW) dX4_moveFile_8 (by decide) (by decide) (by omega) (by omega) rfl rfl (Nat.le_of_ble_eq_true rfl)) rfl (fun r σ ⟨⟨hy, e1⟩, e2⟩ => ?_) (fun E σ2 h9 => by obtain ⟨⟨rfl, h8⟩, rfl⟩ := h9; exact g_out hR htb (by omega) (by omega) (lX_of (by rw [lo_moveFile, if_neg (by rw [hx]; decide), if_pos h8]) eI_n))
  subst e1 e2
  obtain ⟨f, hf, ex, ec, -⟩ := lvf_nI hW hx
  obtain ⟨q, hq, ey, ed⟩ := inR_nI (by omega) hy
  have eT : lo_moveFile ρ x y = ("", nI (ρ.1 6 f), ntS (mfL ρ f q)) := by rw [lo_moveFile, if_neg (by rw [hx]; decide), if_neg (by rw [hy]; decide), ec, ed]
  rw [eT, ec, ed]
  generalize hu : bub ρ f (ρ.1 10 5) = u
  have hh := (w8 f (by omega)).2.2
  refine g_astore (q := 13) (i := 4) hC dX4_moveFile_11 (by decide) rfl ?_
  refine g_aload_n (q := 14) (i := 3) hC dX4_moveFile_13 rfl rfl rfl ?_
  refine g_getf (q := 17) (v := .ref (A 2 (ρ.1 6 f))) hC kg_X4_199 dX4_moveFile_14 (hr.fil (by omega)) rfl rfl ?_
  refine g_astore (q := 19) (i := 5) hC dX4_moveFile_17 (by decide) rfl ?_
  refine g_aload_n (q := 20) (i := 0) hC dX4_moveFile_19 rfl rfl rfl ?_
  refine g_aload_n (q := 21) (i := 3) hC dX4_moveFile_20 rfl rfl rfl ?_
  refine g_ci (q := 24) (g_runV hC kv_X4_179 md_X4_blocksUsedBy (c_L_blocksUsedBy _ hC.fl M _ A ρ W f hr hW (by omega)) (ci := 4) rfl (hr.led hW) dX4_moveFile_21 (by decide) (by decide) (by omega) (by omega) rfl rfl (Nat.le_of_ble_eq_true rfl)) rfl (fun r σ ⟨e1, e2⟩ => ?_) (fun _ _ h9 => False.elim h9)
  subst e1 e2
  rw [hu]
  refine g_istore (q := 26) (i := 6) hC dX4_moveFile_24 (by decide) rfl ?_
  refine g_aload_n (q := 27) (i := 0) hC dX4_moveFile_26 rfl rfl rfl ?_
  refine g_aload_n (q := 28) (i := 3) hC dX4_moveFile_27 rfl rfl rfl ?_
  refine g_iload (q := 30) (i := 6) hC dX4_moveFile_28 rfl rfl ?_
  refine g_ineg (q := 31) hC dX4_moveFile_30 rfl rfl ?_
  refine g_iconst (q := 32) (v := (-1)) hC dX4_moveFile_31 rfl rfl ?_
  refine g_cv (q := 35) (g_runV hC kv_X4_165 md_X4_charge (c_L_charge _ hC.fl M _ A ρ W f (-u) (-1) hr hW (by omega)) (ci := 4) rfl (hr.led hW) dX4_moveFile_32 (by decide) (by decide) (by omega) (by omega) rfl rfl (Nat.le_of_ble_eq_true rfl)) rfl (fun σ6 ⟨⟨W6, hr6⟩, hF6⟩ => ?_) (fun _ _ h9 => False.elim h9)
  have e61 : (chg ρ f (-u) (-1)).1 = ρ.1 := chg_1 _ _ _ _
  have hW6 := RW_1 e61 hW
  have hf6 : f < (chg ρ f (-u) (-1)).1 11 3 := by rw [e61]; omega
  have h7 := hr6.pHom hf6 q
  have hF7 := hF6.trans (gFF.obj (e := oB 3 ((filF A (chg ρ f (-u) (-1)) f).set 3 (.ref (A 2 q)))) (hr6.fil hf6) (by decide))
  have hW7 : RW (sN (chg ρ f (-u) (-1)) 6 f q) := sN_W6h hW6 (by rw [e61]; omega)
  refine g_aload_n (q := 36) (i := 3) hC dX4_moveFile_35 rfl rfl rfl ?_
  refine g_aload (q := 38) (i := 4) hC dX4_moveFile_36 rfl rfl ?_
  refine g_putf (q := 41) hC kf_X4_199 dX4_moveFile_38 (hr6.fil hf6) (Nat.le_of_ble_eq_true rfl) rfl rfl rfl ?_
  generalize gUp σ6 (A 3 f) (oB 3 ((filF A (chg ρ f (-u) (-1)) f).set 3 (.ref (A 2 q)))) = σ7 at h7 hF7
  refine g_aload_n (q := 42) (i := 0) hC dX4_moveFile_41 rfl rfl rfl ?_
  refine g_aload_n (q := 43) (i := 3) hC dX4_moveFile_42 rfl rfl rfl ?_
  refine g_iload (q := 45) (i := 6) hC dX4_moveFile_43 rfl rfl ?_
  refine g_iconst (q := 46) (v := (1)) hC dX4_moveFile_45 rfl rfl ?_
  refine g_cv (q := 49) (g_runV hC kv_X4_165 md_X4_charge (c_L_charge _ hC.fl M _ A _ W6 f u 1 h7 hW7 hf6) (ci := 4) rfl (h7.led hW7) dX4_moveFile_46 (by decide) (by decide) (by omega) (by omega) rfl rfl (Nat.le_of_ble_eq_true rfl)) rfl (fun σ8 ⟨⟨W8, hr8⟩, hF8⟩ => ?_) (fun _ _ h9 => False.elim h9)
  have hr8 : Raw M σ8 A (mfL ρ f q) W8 := by
    rw [mfL, hu]
    exact hr8
  have e81 : (mfL ρ f q).1 = (sN (chg ρ f (-u) (-1)) 6 f q).1 := by
    rw [mfL, hu]
    exact chg_1 _ _ _ _
  have hW8 : RW (mfL ρ f q) := RW_1 e81 hW7
  refine g_aload_n (q := 50) (i := 0) hC dX4_moveFile_49 rfl rfl rfl ?_
  refine g_cv (q := 53) (g_runV hC kv_X4_127 md_X4_noteOverAccounts (c_L_noteOver _ hC.fl M _ A _ W8 hr8 hW8) (ci := 4) rfl (hr8.led hW8) dX4_moveFile_50 (by decide) (by decide) (by omega) (by omega) rfl rfl (Nat.le_of_ble_eq_true rfl)) rfl (fun σ9 ⟨⟨W9, hr9⟩, hF9⟩ => ?_) (fun _ _ h9 => False.elim h9)
  have hl9 := hr9.prj (p := ρ.1 6 f) (by rw [ntS_1, e81]; show _ < (chg ρ f (-u) (-1)).1 11 2; rw [e61]; exact hh)
  refine g_aload (q := 55) (i := 5) hC dX4_moveFile_53 rfl rfl ?_
  refine g_getf (q := 58) hC kg_X4_108 dX4_moveFile_55 hl9 rfl rfl ?_
  exact g_iret hC hR dX4_moveFile_58 (by omega) (by omega) (⟨_, rfl, rfl, rfl, ⟨A, rfl, W9, hr9⟩, ((hF7.trans hF8).trans hF9)⟩)
