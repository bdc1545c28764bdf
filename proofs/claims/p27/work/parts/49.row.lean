/-! ===== the ledger: the row of accounts in which a file counts ===== -/
def rwu (ρ : gSt) (p : Nat) : Nat → Nat → Nat
  | 0, k => k
  | d + 1, k => match upn ρ p k with
    | none => k
    | some _ => rwu ρ p d (k + 1)
/-- how many projects there are from p up -/
def hgt (ρ : gSt) (p : Nat) : Nat := rwu ρ p 9 0
def rowN (ρ : gSt) (f : Nat) : Nat := 2 + hgt ρ (ρ.1 6 f)
def rowE (ρ : gSt) (f i : Nat) : Nat := if i = 0 then ρ.1 4 f else if i = 1 then ρ.1 5 f else 9 + (upn ρ (ρ.1 6 f) (i - 2)).getD 0
theorem rwu_le (ρ : gSt) (p : Nat) : ∀ d k, rwu ρ p d k ≤ d + k ∧ k ≤ rwu ρ p d k := by
  intro d
  induction d with
  | zero => intro k; exact ⟨Nat.le_add_left _ _, Nat.le_refl _⟩
  | succ d ih =>
    intro k
    unfold rwu
    split
    · omega
    · have := ih (k + 1)
      omega
theorem rwu_some (ρ : gSt) (p : Nat) : ∀ d k j, k ≤ j → j < rwu ρ p d k → ∃ q, upn ρ p j = some q := by
  intro d
  induction d with
  | zero =>
    intro k j h1 h2
    have h2 : j < k := h2
    omega
  | succ d ih =>
    intro k j h1 h2
    unfold rwu at h2
    split at h2
    · omega
    · by_cases z : j = k
      · rw [z]
        exact ⟨_, by assumption⟩
      · exact ih (k + 1) j (by omega) h2
theorem hgt_le (ρ : gSt) (p : Nat) : hgt ρ p ≤ 9 := (rwu_le ρ p 9 0).1
theorem rowN_le (ρ : gSt) (f : Nat) : rowN ρ f ≤ 11 := by
  have := hgt_le ρ (ρ.1 6 f)
  unfold rowN
  omega
theorem rowE_lt {ρ : gSt} (hW : RW ρ) {f : Nat} (hf : f < ρ.1 11 3) {i : Nat} (hi : i < rowN ρ f) : rowE ρ f i < ρ.1 11 1 := by
  obtain ⟨h1, h2, h3⟩ := hW.2.2.2.2.2.2.2.1 f hf
  have h4 := hW.1.2.1
  unfold rowE
  split
  · omega
  · split
    · omega
    · unfold rowN at hi
      obtain ⟨q, hq⟩ := rwu_some ρ (ρ.1 6 f) 9 0 (i - 2) (Nat.zero_le _) (by unfold hgt at hi; omega)
      rw [hq]
      have := upn_lt hW h3 _ _ hq
      show 9 + q < _
      omega
/-- how often, and by how many places, the row can grow yet -/
def rwC (n : Nat) : Nat := if n = 0 then 2 else if n ≤ 10 then 1 else 0
def rwS (n : Nat) : Nat := if n = 0 then 25 else if n ≤ 10 then 15 else 0
theorem rwC_le (n : Nat) : rwC n ≤ 2 := by
  unfold rwC
  split
  · omega
  · split <;> omega
theorem rwS_le (n : Nat) : rwS n ≤ 25 := by
  unfold rwS
  split
  · omega
  · split <;> omega
/-- the row as accountsOf lays it -/
def rowOk (ρ : gSt) (W : gWt) (f : Nat) : Prop := wRc W = rowN ρ f ∧ ∀ i, i < rowN ρ f → wRe W i = rowE ρ f i
def aosP (M : gMT) (σ : gS) (A : gAd) (ρ : gSt) (f : Nat) : Nat → gS → Prop := fun r σ2 => r = A 5 7 ∧ gFF σ σ2 ∧ ∃ W, Raw M σ2 A ρ W ∧ rowOk ρ W f
section GAR
variable {X : gX} {M : gMT} {own : String} {cc : ByteArray} {nL d mc ms : Nat} {Q : State → Prop} {k n9 : Nat} {σ : gS} {pc q : Nat} {lv : List (Nat × Value)} {st st0 rest : List Value}
theorem g_addR (hC : gOk X M RX4 cc nL d mc ms) {A : gAd} {ρ : gSt} {W : gWt} {a kc ns : Nat} (hr : Raw M σ A ρ W) (hW : RW ρ) (ha : a < ρ.1 11 1) (hrow : ∀ i, i < wRc W → wRe W i < ρ.1 11 1) (hc : wRc W ≤ 10) (hdg : decode cc pc = .ok (.invokevirtual 52, 3)) (hd : 7 < d) (hk : k + rwC (wN W 7) ≤ kc) (hs : n9 + rwS (wN W 7) ≤ ns) (hkc : kc ≤ mc) (hns : ns ≤ ms) (hcat : (rest.map fun v => v.category).sum ≤ 8) (hq : pc + 3 = q)
    (kk : ∀ (σ2 : gS) (W' : gWt) (k2 n2 : Nat), k2 + rwC (wN W' 7) ≤ kc → n2 + rwS (wN W' 7) ≤ ns → Raw M σ2 A ρ W' → gFF σ σ2 → wRc W' = wRc W + 1 → (∀ i, i < wRc W → wRe W' i = wRe W i) → wRe W' (wRc W) = a → G X M nL Q k2 n2 σ2 q lv (.int 1 :: rest)) : G X M nL Q k n9 σ pc lv (.ref (A 1 a) :: .ref (A 5 7) :: rest) := by
  obtain ⟨l1, l2, l3, l4, l5⟩ := hr.2.2.1 7 ⟨by decide, by decide, by decide⟩
  have l3 : wRc W ≤ wN W 7 := l3
  have l4' := l4.1
  have he := hr.gobj (k := 1) (by decide) (by decide) ha
  by_cases z : wRc W < wN W 7
  · have hD2 : σ (wDd W 7) = some (aQ M (wN W 7) (wF W 7)) := by
      rcases l2 with ⟨-, h⟩ | ⟨h, -⟩
      · exact h
      · omega
    refine g_ci (q := q) (g_runV hC kv_X4_52 md_Jx4a65c_add_9ea2d (c_addr _ hC.fl M _ (A 5 7) (wN W 7) (wDd W 7) (wRc W) (A 1 a) (wMd W 7) (wF W 7) hr.l7 hD2 z (by omega) he) (ci := 6) rfl hr.l7 hdg hd (by decide) (by omega) (by omega) rfl rfl hcat) hq (fun r σ2 h => ?_) (fun _ _ h9 => False.elim h9)
    obtain ⟨rfl, h⟩ := h
    obtain ⟨⟨W', h1, h2, h3, h4, h6⟩, h5⟩ := hr.addR h (by omega) rfl
    exact kk σ2 W' _ _ (by rw [h6]; exact hk) (by rw [h6]; exact hs) h1 h5 h2 h3 h4
  · have e9 : wN W 7 = wRc W := by omega
    have hC1 : rwC (wRc W) = 1 + rwC (gGrow (wRc W)) ∧ rwS (wRc W) = gGrow (wRc W) + rwS (gGrow (wRc W)) := by
      have h0 : wRc W = 0 ∨ wRc W = 10 := by
        have := l4.2
        omega
      rcases h0 with h0 | h0 <;> rw [h0] <;> exact ⟨by decide, by decide⟩
    rw [e9] at hk hs l2
    refine g_ci (q := q) (g_runV hC kv_X4_52 md_Jx4a65c_add_9ea2d (c_addg _ hC.fl M _ (gGrow (wRc W)) (A 5 7) (wDd W 7) (wRc W) (A 1 a) (wMd W 7) (wF W 7) hr.l7 l2 (by omega) (Nat.le_refl _) (hr.els (j := 7) hW ⟨by decide, by decide, by decide⟩ (fun _ => hrow)) he) (ci := 6) rfl hr.l7 hdg hd (by decide) (by omega) (by omega) rfl rfl hcat) hq (fun r σ2 h => ?_) (fun _ _ h9 => False.elim h9)
    obtain ⟨rfl, d2, h⟩ := h
    obtain ⟨⟨W', h1, h2, h3, h4, h6⟩, h5⟩ := hr.addR (n2 := gGrow (wRc W)) (d2 := d2) (by rw [e9]; exact h) (by omega) rfl
    exact kk σ2 W' _ _ (by rw [h6]; omega) (by rw [h6]; omega) h1 h5 h2 h3 h4
end GAR
set_option maxRecDepth 100000 in
set_option maxHeartbeats 4000000 in
theorem c_L_accountsOf (l : Launch) (hfl : l.stackTraces = false) (M : gMT) (σ : gS) (A : gAd) (ρ : gSt) (W : gWt) (f : Nat) (hr : Raw M σ A ρ W) (hW : RW ρ) (hf : f < ρ.1 11 3) : Con l M yX4_accountsOf (.code yX4_accountsOf cX4_accountsOf 3 (Option.some (FieldType.object "java/util/ArrayList"))) 8 2 25 [.ref (A 0 0), .ref (A 3 f)] σ (rR (aosP M σ A ρ f)) (nX) := by
  refine g_con hfl (by decide) (lv := [(0, .ref (A 0 0)), (1, .ref (A 3 f))]) rfl rfl (Nat.le_of_ble_eq_true rfl) (fun X hX hC hR htb => ?_)
  obtain ⟨f1, ⟨f2, f3⟩, f4⟩ := hW.2.2.2.2.2.2.2.1 f hf
  have hw1 := hW.1.2.1
  have h9 := (hW.2.2.2.2.2.2.1 _ f4).2.2
  have fin : ∀ (kx nx k : Nat), kx ≤ 2 → nx ≤ 25 → ∀ (σ3 : gS) (W3 : gWt) (lv : List (Nat × Value)), k ≤ 9 → Raw M σ3 A ρ W3 → gFF σ σ3 → wRc W3 = 2 + k → (∀ i, i < 2 + k → wRe W3 i = rowE ρ f i) → hgt ρ (ρ.1 6 f) = k → gL lv 0 = some (.ref (A 0 0)) → G X M 3 (gQ X M 2 25 (rR (aosP M σ A ρ f)) nX) kx nx σ3 60 lv [] := by
    intro kx nx k hkx hnx σ3 W3 lv hk hr3 hF h1 h2 h3 g0
    refine g_aload_n (q := 61) (i := 0) hC dX4_accountsOf_60 rfl g0 rfl ?_
    refine g_getf (q := 64) (v := .ref (A 5 7)) hC kg_X4_35 dX4_accountsOf_61 (hr3.led hW) rfl rfl ?_
    have e : rowN ρ f = 2 + k := by rw [rowN, h3]
    exact g_aret (o := some (A 5 7)) hC hR (Or.inl ⟨_, rfl⟩) dX4_accountsOf_64 (by omega) (by omega) (⟨_, rfl, rfl, hF, W3, hr3, h1.trans e.symm, fun i hi => h2 i (by omega)⟩)
  have loop : ∀ (d9 kx nx k : Nat) (σ3 : gS) (W3 : gWt), kx + rwC (wN W3 7) ≤ 2 → nx + rwS (wN W3 7) ≤ 25 → k + d9 = 9 → hgt ρ (ρ.1 6 f) = rwu ρ (ρ.1 6 f) d9 k → Raw M σ3 A ρ W3 → gFF σ σ3 → wRc W3 = 2 + k → (∀ i, i < 2 + k → wRe W3 i = rowE ρ f i) → (∀ i, i < 2 + k → wRe W3 i < ρ.1 11 1) → G X M 3 (gQ X M 2 25 (rR (aosP M σ A ρ f)) nX) kx nx σ3 36 [(2, va_rf ((upn ρ (ρ.1 6 f) k).map (A 2))), (0, .ref (A 0 0)), (1, .ref (A 3 f))] [] := by
    intro d9
    induction d9 with
    | zero =>
      intro kx nx k σ3 W3 hkx hnx h1 h2 hr3 hF hc hre hlt
      have hu : upn ρ (ρ.1 6 f) k = none := upn_n ρ _ h9 _ (by omega)
      rw [hu]
      refine g_sub (lv0 := [(2, va_rf none), (0, .ref (A 0 0)), (1, .ref (A 3 f))]) ⟨rfl, rfl, rfl, trivial⟩ ?_
      refine g_aload_nQ (q := 37) (i := 2) (o := none) hC dX4_accountsOf_36 rfl rfl rfl ?_
      refine g_ifnull (o := none) (tgt := 60) (q := 40) hC dX4_accountsOf_37 (by decide) rfl (fun c_37 => ?_) (fun a c_37 => ?_)
      · exact fin kx nx k (by omega) (by omega) σ3 W3 _ (by omega) hr3 hF hc hre (by rw [h2]; rfl) rfl
      · cases c_37
    | succ d9 ih =>
      intro kx nx k σ3 W3 hkx hnx h1 h2 hr3 hF hc hre hlt
      cases hu : upn ρ (ρ.1 6 f) k with
      | none =>
        refine g_sub (lv0 := [(2, va_rf none), (0, .ref (A 0 0)), (1, .ref (A 3 f))]) ⟨rfl, rfl, rfl, trivial⟩ ?_
        refine g_aload_nQ (q := 37) (i := 2) (o := none) hC dX4_accountsOf_36 rfl rfl rfl ?_
        refine g_ifnull (o := none) (tgt := 60) (q := 40) hC dX4_accountsOf_37 (by decide) rfl (fun c_37 => ?_) (fun a c_37 => ?_)
        · exact fin kx nx k (by omega) (by omega) σ3 W3 _ (by omega) hr3 hF hc hre (by rw [h2, rwu, hu]) rfl
        · cases c_37
      | some q =>
        have hq := upn_lt hW f4 _ _ hu
        refine g_sub (lv0 := [(2, va_rf (some (A 2 q))), (0, .ref (A 0 0)), (1, .ref (A 3 f))]) ⟨rfl, rfl, rfl, trivial⟩ ?_
        refine g_aload_nQ (q := 37) (i := 2) (o := (some (A 2 q))) hC dX4_accountsOf_36 rfl rfl rfl ?_
        refine g_ifnull (o := some (A 2 q)) (tgt := 60) (q := 40) hC dX4_accountsOf_37 (by decide) rfl (fun c_37 => ?_) (fun a c_37 => ?_)
        · cases c_37
        · skip
          refine g_aload_n (q := 41) (i := 0) hC dX4_accountsOf_40 rfl rfl rfl ?_
          refine g_getf (q := 44) (v := .ref (A 5 7)) hC kg_X4_35 dX4_accountsOf_41 (hr3.led hW) rfl rfl ?_
          refine g_aload_n (q := 45) (i := 2) hC dX4_accountsOf_44 rfl rfl rfl ?_
          refine g_getf (q := 48) (v := .ref (A 1 (9 + q))) hC kg_X4_256 dX4_accountsOf_45 (hr3.prj (by omega)) rfl rfl ?_
          refine g_addR (q := 51) hC hr3 hW (by omega) (fun i hi => hlt i (by omega)) (by omega) dX4_accountsOf_48 (by decide) hkx hnx (Nat.le_refl 2) (Nat.le_refl 25) (Nat.le_of_ble_eq_true rfl) rfl (fun σ4 W4 kx4 nx4 hkx4 hnx4 hr4 hF4 hc4 hre4 hre5 => ?_)
          refine g_pop (q := 52) hC dX4_accountsOf_51 rfl rfl ?_
          refine g_aload_n (q := 53) (i := 2) hC dX4_accountsOf_52 rfl rfl rfl ?_
          refine g_getf (q := 56) (v := va_rf ((par ρ q).map (A 2))) hC kg_X4_120 dX4_accountsOf_53 (hr4.prj (by omega)) rfl rfl ?_
          refine g_astore_nQ (q := 57) (i := 2) (o := ((par ρ q).map (A 2))) hC dX4_accountsOf_56 rfl (by decide) rfl ?_
          refine g_goto (tgt := 36) hC dX4_accountsOf_57 (by decide) ?_
          rw [← upn_s ρ _ k hu]
          refine g_sub (lv0 := [(2, va_rf ((upn ρ (ρ.1 6 f) (k + 1)).map (A 2))), (0, .ref (A 0 0)), (1, .ref (A 3 f))]) ⟨rfl, rfl, rfl, trivial⟩ ?_
          have eE : rowE ρ f (2 + k) = 9 + q := by
            unfold rowE
            rw [if_neg (by omega), if_neg (by omega), show 2 + k - 2 = k by omega, hu]
            rfl
          rw [hc] at hc4 hre4 hre5
          have key := ih kx4 nx4 (k + 1) σ4 W4 hkx4 hnx4 (by omega) (by rw [h2, rwu, hu]) hr4 (hF.trans hF4) (by rw [hc4]; omega) (fun i hi => by
            by_cases z : i = 2 + k
            · rw [z, hre5, eE]
            · rw [hre4 i (by omega)]
              exact hre i (by omega)) (fun i hi => by
            by_cases z : i = 2 + k
            · rw [z, hre5]
              omega
            · rw [hre4 i (by omega)]
              exact hlt i (by omega))
          exact key
  refine g_aload_n (q := 1) (i := 0) hC dX4_accountsOf_0 rfl rfl rfl ?_
  refine g_getf (q := 4) (v := .ref (A 5 7)) hC kg_X4_35 dX4_accountsOf_1 (hr.led hW) rfl rfl ?_
  refine g_cv (q := 7) (g_runV hC kv_X4_278 md_Jx4a65c_clear_da8c8 (c_clear _ hC.fl M _ (A 5 7) _ _ _ _ _ hr.l7 (hr.2.2.1 7 ⟨by decide, by decide, by decide⟩).2.1 (hr.2.2.1 7 ⟨by decide, by decide, by decide⟩).2.2.1 (by have := (hr.2.2.1 7 ⟨by decide, by decide, by decide⟩).2.2.2.1.1; omega)) (ci := 6) rfl hr.l7 dX4_accountsOf_4 (by decide) (by decide) (by omega) (by omega) rfl rfl (Nat.le_of_ble_eq_true rfl)) rfl (fun σ1 hcl => ?_) (fun _ _ h9 => False.elim h9)
  obtain ⟨⟨W1, hr1, hc1, -⟩, hF1⟩ := hr.clr hcl
  refine g_aload_n (q := 8) (i := 0) hC dX4_accountsOf_7 rfl rfl rfl ?_
  refine g_getf (q := 11) (v := .ref (A 5 7)) hC kg_X4_35 dX4_accountsOf_8 (hr1.led hW) rfl rfl ?_
  refine g_aload_n (q := 12) (i := 1) hC dX4_accountsOf_11 rfl rfl rfl ?_
  refine g_getf (q := 15) (v := .ref (A 1 (ρ.1 4 f))) hC kg_X4_281 dX4_accountsOf_12 (hr1.fil (by omega)) rfl rfl ?_
  refine g_addR (q := 18) hC hr1 hW (by omega) (fun i hi => by omega) (by omega) dX4_accountsOf_15 (by decide) (by have := rwC_le (wN W1 7); omega) (by have := rwS_le (wN W1 7); omega) (Nat.le_refl 2) (Nat.le_refl 25) (Nat.le_of_ble_eq_true rfl) rfl (fun σ2 W2 kx2 nx2 hkx2 hnx2 hr2 hF2 hc2 _ hre2 => ?_)
  rw [hc1] at hc2 hre2
  refine g_pop (q := 19) hC dX4_accountsOf_18 rfl rfl ?_
  refine g_aload_n (q := 20) (i := 0) hC dX4_accountsOf_19 rfl rfl rfl ?_
  refine g_getf (q := 23) (v := .ref (A 5 7)) hC kg_X4_35 dX4_accountsOf_20 (hr2.led hW) rfl rfl ?_
  refine g_aload_n (q := 24) (i := 1) hC dX4_accountsOf_23 rfl rfl rfl ?_
  refine g_getf (q := 27) (v := .ref (A 1 (ρ.1 5 f))) hC kg_X4_284 dX4_accountsOf_24 (hr2.fil (by omega)) rfl rfl ?_
  refine g_addR (q := 30) hC hr2 hW (by omega) (fun i hi => by rw [show i = 0 by omega, hre2]; omega) (by omega) dX4_accountsOf_27 (by decide) hkx2 hnx2 (Nat.le_refl 2) (Nat.le_refl 25) (Nat.le_of_ble_eq_true rfl) rfl (fun σ3 W3 kx3 nx3 hkx3 hnx3 hr3 hF3 hc3 hre3 hre3' => ?_)
  rw [hc2] at hc3 hre3 hre3'
  refine g_pop (q := 31) hC dX4_accountsOf_30 rfl rfl ?_
  refine g_aload_n (q := 32) (i := 1) hC dX4_accountsOf_31 rfl rfl rfl ?_
  refine g_getf (q := 35) (v := .ref (A 2 (ρ.1 6 f))) hC kg_X4_199 dX4_accountsOf_32 (hr3.fil (by omega)) rfl rfl ?_
  refine g_astore_n (q := 36) (i := 2) hC dX4_accountsOf_35 rfl (by decide) rfl ?_
  refine g_sub (lv0 := [(2, va_rf ((upn ρ (ρ.1 6 f) 0).map (A 2))), (0, .ref (A 0 0)), (1, .ref (A 3 f))]) ⟨rfl, rfl, rfl, trivial⟩ ?_
  have hrow : ∀ i, i < 2 → wRe W3 i = rowE ρ f i := by
    intro i hi
    by_cases z : i = 0
    · rw [z, hre3 0 (by omega), hre2]
      rfl
    · have z1 : i = 1 := by omega
      rw [z1, hre3']
      rfl
  exact loop 9 kx3 nx3 0 σ3 W3 hkx3 hnx3 (by omega) rfl hr3 ((hF1.trans hF2).trans hF3) (by omega) hrow (fun i hi => by
    rw [hrow i hi]
    unfold rowE
    split
    · omega
    · rw [if_pos (by omega)]
      omega)
