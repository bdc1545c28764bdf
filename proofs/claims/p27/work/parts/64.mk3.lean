/-! ===== the ledger's calls (10): reserve ===== -/
section NR
variable {M : gMT} {σ σ2 : gS} {A : gAd} {ρ : gSt} {W : gWt}
theorem Raw.newR (h : Raw M σ A ρ W) (hW : RW ρ) {n y f : Nat} {b : Int32} (hn : ρ.1 11 4 = n) (hy : σ y = none) : Raw M (gUp σ y (oB 2 [.ref (A 3 f), .int b, .int 1])) (aN A 4 n y) (rN ρ n f b) W ∧ gFF σ (gUp σ y (oB 2 [.ref (A 3 f), .int b, .int 1])) := by
  have hA : ∀ k i, k ≤ 4 → i < ρ.1 11 k → aN A 4 n y k i = A k i := fun k i hk hi => aN_o A (by
    by_cases z : k = 4
    · subst z
      exact Or.inr (by omega)
    · exact Or.inl z)
  refine h.newO (A' := aN A 4 n y) (ρ' := rN ρ n f b) (k := 4) (n := n) (re := wRe W) (by decide) hn hy (l := [.ref (A 3 f), .int b, .int 1]) ?_ (aN_s _ _ _ _) hA (fun j => aN_o A (Or.inl (by decide))) (fun k i hk hi => ?_) (fun j => ?_) ?_ (fun k' hk' hne => ?_) rfl (fun i => rfl) (fun j i hj hi => ?_)
  · show _ = rsvF _ _ n
    unfold rsvF
    have e4 : (rN ρ n f b).1 7 n = f := by simp [rN, sN, sI, sB, up2]
    have e9 : (rN ρ n f b).2.1 10 n = b := by simp [rN, sN, sI, sB, up2]
    have e8 : (rN ρ n f b).2.2 11 n = true := by simp [rN, sN, sI, sB, up2]
    rw [e4, e9, e8, aN_o A (Or.inl (by decide))]
    rfl
  · rcases k5 hk with rfl | rfl | rfl | rfl | rfl
    · exact ledF_eq (fun j => aN_o A (Or.inl (by decide))) (aN_o A (Or.inl (by decide))) (by simp [rN, sN, sI, sB, up2]) (by simp [rN, sN, sI, sB, up2]) (by simp [rN, sN, sI, sB, up2])
    · exact accW_eq (fun c h1 h2 => by simp only [rN, sN, sI, sB, up2]; rw [if_neg (by omega)])
    · exact prjF_eq hW hi (aN_o A (Or.inl (by decide))) (fun q _ => aN_o A (Or.inl (by decide))) (by simp [rN, sN, sI, sB, up2]) (by simp [rN, sN, sI, sB, up2])
    · exact filF_eq hW hi (fun q _ => aN_o A (Or.inl (by decide))) (fun q _ => aN_o A (Or.inl (by decide))) (by simp [rN, sN, sI, sB, up2]) (by simp [rN, sN, sI, sB, up2]) (by simp [rN, sN, sI, sB, up2]) (by simp [rN, sN, sI, sB, up2]) (by simp [rN, sN, sI, sB, up2])
    · have hne : i ≠ n := by omega
      exact rsvF_eq hW hi (fun f hf => aN_o A (Or.inl (by decide))) (by simp [rN, sN, sI, sB, up2, hne]) (by simp [rN, sN, sI, sB, up2, hne]) (by simp [rN, sN, sI, sB, up2, hne])
  · simp [rN, sN, sI, sB, up2]
  · simp [rN, sN, sI, sB, up2]
  · simp [rN, sN, sI, sB, up2, hne]
  · exact elA_lt hW (fun a => aN_o A (Or.inl (by decide))) (fun k i hk _ hi => hA k i hk hi) hj hi
theorem rN_W (hW : RW ρ) {n f : Nat} {b : Int32} (hn : ρ.1 11 4 = n) (h30 : n < 30) (hf : f < ρ.1 11 3) : RW (rN ρ n f b) := by
  obtain ⟨w1, w2, w3, ⟨w4, w4'⟩, w5, w6, w7, w8, w9⟩ := hW
  have e : ∀ c i, c ≠ 11 → c ≠ 7 → (rN ρ n f b).1 c i = ρ.1 c i := fun c i h1 h2 => by simp [rN, sN, sI, sB, up2, h1, h2]
  have e11 : ∀ i, i ≠ 4 → (rN ρ n f b).1 11 i = ρ.1 11 i := fun i h => by simp [rN, sN, sI, sB, up2, h]
  have e114 : (rN ρ n f b).1 11 4 = n + 1 := by simp [rN, sN, sI, sB, up2]
  have hup : ∀ p' k, upn (rN ρ n f b) p' k = upn ρ p' k := fun p' k => upn_c (fun q => e 3 q (by decide) (by decide)) p' k
  refine ⟨⟨by rw [e11 0 (by decide)]; exact w1.1, by rw [e11 1 (by decide), e11 2 (by decide)]; exact w1.2.1, w1.2.2⟩, ⟨w2.1, by rw [e11 2 (by decide)]; exact w2.2⟩, ⟨by rw [e11 3 (by decide)]; exact w3.1, by rw [e11 3 (by decide)]; exact w3.2⟩, ⟨?_, ?_⟩, w5, w6, fun p' hp' => ?_, fun f' hf' => ?_, fun r hr => ?_⟩
  · rw [e114]
    show ρ.1 10 5 ≤ _
    omega
  · rw [e114]
    omega
  · rw [e11 2 (by decide)] at hp' ⊢
    rw [hup]
    exact w7 p' hp'
  · rw [e11 3 (by decide)] at hf'
    rw [e11 2 (by decide)]
    exact w8 f' hf'
  · rw [e114] at hr
    rw [e11 3 (by decide)]
    by_cases z : r = n
    · subst z
      have e7 : (rN ρ r f b).1 7 r = f := by simp [rN, sN, sI, sB, up2]
      rw [e7]
      exact hf
    · have e7 : (rN ρ n f b).1 7 r = ρ.1 7 r := by simp [rN, sN, sI, sB, up2, z]
      rw [e7]
      exact w9 r (by omega)
end NR
def lo_reserve (ρ : gSt) (x b : Int32) : lRes := if lvf ρ x = false then (eI, 0, ρ) else if b < 1 ∨ 1000 < b then (eA, 0, ρ) else if 30 ≤ ρ.1 10 5 then (eS, 0, ρ) else lb2 ρ (bpl ρ x.toNatClampNeg b 0) (nI (ρ.1 10 5), ntS (chg (sN (rN ρ (ρ.1 10 5) x.toNatClampNeg b) 10 5 (ρ.1 10 5 + 1)) x.toNatClampNeg b 0))
set_option maxRecDepth 100000 in
set_option maxHeartbeats 4000000 in
theorem c_L_reserve (l : Launch) (hfl : l.stackTraces = false) (M : gMT) (σ : gS) (A : gAd) (ρ : gSt) (W : gWt) (x b : Int32) (hr : Raw M σ A ρ W) (hW : RW ρ) (hE : RE ρ) : Con l M yX4_reserve (.code yX4_reserve cX4_reserve 5 (Option.some FieldType.int)) 12 40 1000 [.ref (A 0 0), .int x, .int b] σ (rI (lP M σ A (lo_reserve ρ x b))) (lX σ (lo_reserve ρ x b)) := by
  refine g_con hfl (by decide) (lv := [(0, .ref (A 0 0)), (1, .int x), (2, .int b)]) rfl rfl (Nat.le_of_ble_eq_true rfl) (fun X hX hC hR htb => ?_)
  have w4 := hW.2.2.2.1
  have w3 := hW.2.2.1
  have e45 := hE.1.2.2
  refine g_aload_n (q := 1) (i := 0) hC dX4_reserve_0 rfl rfl rfl ?_
  refine g_iload_n (q := 2) (i := 1) hC dX4_reserve_1 rfl rfl rfl ?_
  refine g_cr (q := 5) (g_runV hC kv_X4_170 md_X4_liveFile (c_L_liveFile _ hC.fl M _ A ρ W x hr hW) (ci := 4) rfl (hr.led hW) dX4_reserve_2 (by decide) (by decide) (by omega) (by omega) rfl rfl (Nat.le_of_ble_eq_true rfl)) rfl (fun r σ ⟨⟨hx, e1⟩, e2⟩ => ?_) (fun E σ2 h9 => by obtain ⟨⟨rfl, h8⟩, rfl⟩ := h9; exact g_out hR htb (by omega) (by omega) (lX_of (by rw [lo_reserve, if_pos h8]) eI_n))
  subst e1 e2
  obtain ⟨f, hf, ex, ec, -⟩ := lvf_nI hW hx
  have eT : lo_reserve ρ x b = (if b < 1 ∨ 1000 < b then (eA, 0, ρ) else if 30 ≤ ρ.1 10 5 then (eS, 0, ρ) else lb2 ρ (bpl ρ f b 0) (nI (ρ.1 10 5), ntS (chg (sN (rN ρ (ρ.1 10 5) f b) 10 5 (ρ.1 10 5 + 1)) f b 0))) := by rw [lo_reserve, if_neg (by rw [hx]; decide), ec]
  rw [eT, ec]
  generalize eT2 : (if b < 1 ∨ 1000 < b then (eA, 0, ρ) else if 30 ≤ ρ.1 10 5 then (eS, 0, ρ) else lb2 ρ (bpl ρ f b 0) (nI (ρ.1 10 5), ntS (chg (sN (rN ρ (ρ.1 10 5) f b) 10 5 (ρ.1 10 5 + 1)) f b 0)) : lRes) = T at *
  have bad : (b < 1 ∨ 1000 < b) → G X M 5 (gQ X M 40 1000 (rI (lP M σ A T)) (lX σ T)) (0 + 1) (0 + 6) σ 18 [(3, .ref (A 3 f)), (0, .ref (A 0 0)), (1, .int x), (2, .int b)] [] := by
    intro hb
    exact g_throwS hC hR htb (tA (is := 177) (text := "blocks is out of range") (by decide +kernel)) dX4_reserve_18 dX4_reserve_21 dX4_reserve_22 dX4_reserve_24 dX4_reserve_27 (by decide) (Nat.le_of_ble_eq_true rfl) (by omega) (by omega) (lX_of (by rw [← eT2, if_pos hb]) eA_n)
  refine g_astore_n (q := 6) (i := 3) hC dX4_reserve_5 rfl (by decide) rfl ?_
  refine g_iload_n (q := 7) (i := 2) hC dX4_reserve_6 rfl rfl rfl ?_
  refine g_iconst (q := 8) (v := (1)) hC dX4_reserve_7 rfl rfl ?_
  refine g_icmp_lt (tgt := 18) (q := 11) hC dX4_reserve_8 (by decide) rfl (fun c_8 => ?_) (fun c_8 => ?_)
  · exact bad (Or.inl c_8)
  · refine g_iload_n (q := 12) (i := 2) hC dX4_reserve_11 rfl rfl rfl ?_
    refine g_sipush (q := 15) (v := (1000)) hC dX4_reserve_12 rfl rfl ?_
    refine g_icmp_le (tgt := 28) (q := 18) hC dX4_reserve_15 (by decide) rfl (fun c_15 => ?_) (fun c_15 => ?_)
    · have ok : ¬ (b < 1 ∨ 1000 < b) := fun z => z.elim c_8 (Int32.not_lt.mpr c_15)
      rw [if_neg ok] at eT2
      refine g_aload_n (q := 29) (i := 0) hC dX4_reserve_28 rfl rfl rfl ?_
      refine g_getf (q := 32) (v := .ref (A 5 5)) hC kg_X4_25 dX4_reserve_29 (hr.led hW) rfl rfl ?_
      refine g_ci (q := 35) (g_runV hC kv_X4_99 md_Jx4a65c_size_8abf5 (c_size _ hC.fl M _ (A 5 5) _ _ _ hr.l5) (ci := 6) rfl hr.l5 dX4_reserve_32 (by decide) (by decide) (by omega) (by omega) rfl rfl (Nat.le_of_ble_eq_true rfl)) rfl (fun r σ ⟨e1, e2⟩ => ?_) (fun _ _ h9 => False.elim h9)
      subst e1 e2
      refine g_bipush (q := 37) (v := nI 30) hC dX4_reserve_35 rfl rfl ?_
      refine g_icmp_lt (tgt := 50) (q := 40) hC dX4_reserve_37 (by decide) rfl (fun c_37 => ?_) (fun c_37 => ?_)
      · have h30 : ρ.1 10 5 < 30 := Nat.lt_of_not_le (fun z => absurd c_37 (Int32.not_lt.mpr (nI_le z (by omega))))
        rw [if_neg (by omega)] at eT2
        subst eT2
        refine g_aload_n (q := 51) (i := 0) hC dX4_reserve_50 rfl rfl rfl ?_
        refine g_aload_n (q := 52) (i := 3) hC dX4_reserve_51 rfl rfl rfl ?_
        refine g_iload_n (q := 53) (i := 2) hC dX4_reserve_52 rfl rfl rfl ?_
        refine g_iconst (q := 54) (v := (0)) hC dX4_reserve_53 rfl rfl ?_
        refine g_ci (q := 57) (g_runV hC kv_X4_157 md_X4_barringPlace (c_L_barringPlace _ hC.fl M _ A ρ W f b 0 hr hW (by omega)) (ci := 4) rfl (hr.led hW) dX4_reserve_54 (by decide) (by decide) (by omega) (by omega) rfl rfl (Nat.le_of_ble_eq_true rfl)) rfl (fun r σ1 ⟨e1, hre1, hF1⟩ => ?_) (fun _ _ h9 => False.elim h9)
        subst e1
        obtain ⟨W1, hr1⟩ := hre1
        refine g_istore (q := 59) (i := 4) hC dX4_reserve_57 (by decide) rfl ?_
        refine g_iload (q := 61) (i := 4) hC dX4_reserve_59 rfl rfl ?_
        refine g_iconst (q := 62) (v := (-1)) hC dX4_reserve_61 rfl rfl ?_
        refine g_icmp_eq (tgt := 71) (q := 65) hC dX4_reserve_62 (by decide) rfl (fun c_62 => ?_) (fun c_62 => ?_)
        · have e9 := bpl_n.mp c_62
          refine g_aload_n (q := 72) (i := 0) hC dX4_reserve_71 rfl rfl rfl ?_
          refine g_getf (q := 75) (v := .ref (A 5 5)) hC kg_X4_25 dX4_reserve_72 (hr1.led hW) rfl rfl ?_
          refine g_new (q := 78) (ty := tyX2) (fs := [.null, .int 0, .int 0]) hC kn_X4_190 tyX2_ok dX4_reserve_75 (fun j hj => by
            have h : j = 0 ∨ j = 1 ∨ j = 2 := by omega
            rcases h with rfl | rfl | rfl <;> rfl) (by omega) (by omega) rfl (fun z hz => ?_)
          have hF := hr1.newR hW (f := f) (b := b) e45 hz
          have hWF := rN_W hW (f := f) (b := b) e45 h30 (by omega)
          refine g_dup (q := 79) hC dX4_reserve_78 rfl rfl ?_
          refine g_aload_n (q := 80) (i := 3) hC dX4_reserve_79 rfl rfl rfl ?_
          refine g_iload_n (q := 81) (i := 2) hC dX4_reserve_80 rfl rfl rfl ?_
          refine g_cv (q := 84) (g_runI hC ki_X4_204 md_X2_init (c_R_init _ hC.fl M _ z (A 3 f) b (gUp_self _ _ _)) dX4_reserve_81 (by decide) (by decide) (by omega) (by omega) rfl rfl (Nat.le_of_ble_eq_true rfl)) rfl (fun σ4 e4 => ?_) (fun _ _ h9 => False.elim h9)
          rw [gUp_up] at e4
          subst e4
          have eA0 : aN A 4 (ρ.1 10 5) z 0 0 = A 0 0 := aN_o A (Or.inl (by decide))
          have eA5 : aN A 4 (ρ.1 10 5) z 5 5 = A 5 5 := aN_o A (Or.inl (by decide))
          have eA3 : aN A 4 (ρ.1 10 5) z 3 f = A 3 f := aN_o A (Or.inl (by decide))
          have eA4 : aN A 4 (ρ.1 10 5) z 4 (ρ.1 10 5) = z := aN_s _ _ _ _
          generalize eA9 : aN A 4 (ρ.1 10 5) z = A' at *
          obtain ⟨hF1', hF2'⟩ := hF
          rw [← eA0, ← eA3, ← eA4, ← eA5]
          rw [← eA4, ← eA3] at hF1' hF2'
          generalize gUp σ1 (A' 4 (ρ.1 10 5)) (oB 2 [.ref (A' 3 f), .int b, .int 1]) = σ5 at hF1' hF2'
          have hn5 : ρ.1 10 5 < (rN ρ (ρ.1 10 5) f b).1 11 4 := by simp [rN, sN, sI, sB, up2]
          have hl5 : σ5 (A' 5 5) = some (oB 6 (lV (wMd W1 5) (wDd W1 5) (ρ.1 10 5))) := hF1'.l5
          have hLR := hF1'.2.2.1 5 ⟨by decide, by decide, by decide⟩
          have hc5 : cntL (rN ρ (ρ.1 10 5) f b) W1 5 = ρ.1 10 5 := rfl
          have hle5 : ρ.1 10 5 ≤ wN W1 5 := hLR.2.2.1
          refine g_addG (q := 87) (ms9 := 60) hC hl5 hLR.2.1 hle5 hLR.2.2.2.1.1 (by omega) ?_ (hF1'.els hWF (j := 5) ⟨by decide, by decide, by decide⟩ (fun z => absurd z (by decide))) (hF1'.gobj (k := 4) (by decide) (by decide) hn5) dX4_reserve_84 (by omega) (by omega) (by omega) (Nat.le_of_ble_eq_true rfl) rfl (fun σ7 d2 n2 hg => ?_)
          · unfold gGrow
            split <;> omega
          · have hW7 : RW (sN (rN ρ (ρ.1 10 5) f b) 10 5 (ρ.1 10 5 + 1)) := sN_10_5 hWF hn5
            obtain ⟨⟨W7, hr7⟩, hF7⟩ := hF1'.addL (ρ' := sN (rN ρ (ρ.1 10 5) f b) 10 5 (ρ.1 10 5 + 1)) (j := 5) ⟨by decide, by decide, by decide⟩ hg (by rw [hc5]; omega) (by decide) rfl (fun k i hk hi => cel_10 (A := A') (ρ := rN ρ (ρ.1 10 5) f b) (ρ' := sN (rN ρ (ρ.1 10 5) f b) 10 5 (ρ.1 10 5 + 1)) (j := 5) (v := ρ.1 10 5 + 1) rfl rfl k i hk) (fun k => rfl) (fun j' hj' => up2_ne _ _ (Or.inr hj')) (up2_self (rN ρ (ρ.1 10 5) f b).1 10 5 (ρ.1 10 5 + 1)) rfl (fun i => rfl)
            have e73 : (sN (rN ρ (ρ.1 10 5) f b) 10 5 (ρ.1 10 5 + 1)).1 11 3 = ρ.1 11 3 := by simp [rN, sN, sI, sB, up2]
            have e75 : (sN (rN ρ (ρ.1 10 5) f b) 10 5 (ρ.1 10 5 + 1)).1 10 5 = ρ.1 10 5 + 1 := by simp [rN, sN, sI, sB, up2]
            generalize e7 : sN (rN ρ (ρ.1 10 5) f b) 10 5 (ρ.1 10 5 + 1) = ρ7 at *
            refine g_pop (q := 88) hC dX4_reserve_87 rfl rfl ?_
            refine g_aload_n (q := 89) (i := 0) hC dX4_reserve_88 rfl rfl rfl ?_
            refine g_aload_n (q := 90) (i := 3) hC dX4_reserve_89 rfl rfl rfl ?_
            refine g_iload_n (q := 91) (i := 2) hC dX4_reserve_90 rfl rfl rfl ?_
            refine g_iconst (q := 92) (v := (0)) hC dX4_reserve_91 rfl rfl ?_
            refine g_cv (q := 95) (g_runV hC kv_X4_165 md_X4_charge (c_L_charge _ hC.fl M _ A' ρ7 W7 f b 0 hr7 hW7 (by omega)) (ci := 4) rfl (hr7.led hW7) dX4_reserve_92 (by decide) (by decide) (by omega) (by omega) rfl rfl (Nat.le_of_ble_eq_true rfl)) rfl (fun σ8 ⟨⟨W8, hr8⟩, hF8⟩ => ?_) (fun _ _ h9 => False.elim h9)
            have hW8 := RW_1 (chg_1 ρ7 f b 0) hW7
            refine g_aload_n (q := 96) (i := 0) hC dX4_reserve_95 rfl rfl rfl ?_
            refine g_cv (q := 99) (g_runV hC kv_X4_127 md_X4_noteOverAccounts (c_L_noteOver _ hC.fl M _ A' _ W8 hr8 hW8) (ci := 4) rfl (hr8.led hW8) dX4_reserve_96 (by decide) (by decide) (by omega) (by omega) rfl rfl (Nat.le_of_ble_eq_true rfl)) rfl (fun σ9 ⟨⟨W9, hr9⟩, hF9⟩ => ?_) (fun _ _ h9 => False.elim h9)
            have e95 : (ntS (chg ρ7 f b 0)).1 10 5 = ρ.1 10 5 + 1 := by rw [ntS_1, chg_1]; exact e75
            have hW9 : RW (ntS (chg ρ7 f b 0)) := RW_1 (ntS_1 _) hW8
            refine g_aload_n (q := 100) (i := 0) hC dX4_reserve_99 rfl rfl rfl ?_
            refine g_getf (q := 103) (v := .ref (A' 5 5)) hC kg_X4_25 dX4_reserve_100 (hr9.led hW9) rfl rfl ?_
            refine g_ci (q := 106) (g_runV hC kv_X4_99 md_Jx4a65c_size_8abf5 (c_size _ hC.fl M _ (A' 5 5) _ _ _ hr9.l5) (ci := 6) rfl hr9.l5 dX4_reserve_103 (by decide) (by decide) (by omega) (by omega) rfl rfl (Nat.le_of_ble_eq_true rfl)) rfl (fun r σ3 ⟨e1, e2⟩ => ?_) (fun _ _ h9 => False.elim h9)
            subst e2
            rw [e95] at e1
            subst e1
            refine g_iconst (q := 107) (v := nI 1) hC dX4_reserve_106 rfl rfl ?_
            refine g_isub (q := 108) (v := (nI ((ρ.1 10 5 + 1) - 1))) hC dX4_reserve_107 (pk_sub (by omega)) rfl ?_
            exact g_iret hC hR dX4_reserve_108 (by omega) (by omega) (⟨_, rfl, by rw [e9]; exact ⟨rfl, rfl, ⟨A', eA0, W9, hr9⟩, (((hF1.trans hF2').trans hF7).trans hF8).trans hF9⟩⟩)
        · cases e9 : bpl ρ f b 0 with
          | none => exact absurd (by rw [e9]; rfl) c_62
          | some j =>
            refine g_iload (q := 67) (i := 4) hC dX4_reserve_65 rfl rfl ?_
            refine g_ci (q := 70) (g_runS hC ks_X4_161 md_X4_barredAnswer (c_L_barred _ hC.fl M _ (nI j)) dX4_reserve_67 (by decide) (by decide) (by omega) (by omega) rfl rfl (Nat.le_of_ble_eq_true rfl)) rfl (fun r σ1 ⟨e1, e2⟩ => ?_) (fun _ _ h9 => False.elim h9)
            subst e1 e2
            exact g_iret hC hR dX4_reserve_70 (by omega) (by omega) (⟨_, rfl, rfl, rfl, ⟨A, rfl, W1, hr1⟩, hF1⟩)
      · have h30 : 30 ≤ ρ.1 10 5 := Nat.le_of_not_lt (fun z => c_37 (nI_lt z (by decide)))
        rw [if_pos h30] at eT2
        exact g_throwS hC hR htb (tS (is := 202) (text := "there are all the reservations that can be") (by decide +kernel)) dX4_reserve_40 dX4_reserve_43 dX4_reserve_44 dX4_reserve_46 dX4_reserve_49 (by decide) (Nat.le_of_ble_eq_true rfl) (by omega) (by omega) (lX_of (by rw [← eT2]) eS_n)
    · exact bad (Or.inr (Int32.not_le.mp c_15))
