/-! ===== the law's loop: the script's rows, the joint state ===== -/
section LW
variable {X : gX} {M : gMT} {own : String} {cc : ByteArray} {nL d mc ms : Nat} {Q : State → Prop} {k n9 : Nat} {σ σ2 σ3 : gS} {pc q : Nat} {lv : List (Nat × Value)} {st : List Value}
theorem g_sld (hC : gOk X M own cc nL d mc ms) {b L : Nat} {sc : Nat → Int32} (hX : va_X b L sc (xs X) (xs X).heap) (hbl : b < (xs X).heap.size) (hbA : ¬ gA M b) {i v : Int32} (hdg : decode cc pc = .ok (.iaload, 1)) (hin : vp_in i L) (hv : sc i.toNatClampNeg = v) (hq : pc + 1 = q) (kk : G X M nL Q k n9 σ q lv (.int v :: st)) : G X M nL Q k n9 σ pc lv (.int i :: .ref b :: st) := by
  subst hq
  subst hv
  exact fun H locs ls hP hS hl => va_sld hC.x hC.b hX hbl hbA hS hin hdg (kk H locs ls hP hS hl)
theorem g_slen (hC : gOk X M own cc nL d mc ms) {b L : Nat} {sc : Nat → Int32} (hX : va_X b L sc (xs X) (xs X).heap) (hbl : b < (xs X).heap.size) (hbA : ¬ gA M b) (hdg : decode cc pc = .ok (.arraylength, 1)) (hq : pc + 1 = q) (kk : G X M nL Q k n9 σ q lv (.int (nI L) :: st)) : G X M nL Q k n9 σ pc lv (.ref b :: st) := by
  subst hq
  exact fun H locs ls hP hS hl => va_slen hC.x hC.b hX hbl hbA hS hdg (kk H locs ls hP hS hl)
theorem g_tsIn (hC : gOk X M own cc nL d mc ms) {dflt lo hi : Int} {offs : Array Int} {len : Nat} {x : Int32} {off : Int} {tgt : Nat} (hdg : decode cc pc = .ok (.tableswitch dflt lo hi offs, len)) (h1 : ¬ x.toInt < lo) (h2 : ¬ hi < x.toInt) (ho : offs[(x.toInt - lo).toNat]? = some off) (ht : (pc : Int) + off = (tgt : Int)) (kk : G X M nL Q k n9 σ tgt lv st) : G X M nL Q k n9 σ pc lv (.int x :: st) := fun H locs ls hP hS hl => lv_tableIn hC.x hC.b hdg h1 h2 ho ht (kk H locs ls hP hS hl)
theorem g_tsOut (hC : gOk X M own cc nL d mc ms) {dflt lo hi : Int} {offs : Array Int} {len : Nat} {x : Int32} {tgt : Nat} (hdg : decode cc pc = .ok (.tableswitch dflt lo hi offs, len)) (h : x.toInt < lo ∨ hi < x.toInt) (ht : (pc : Int) + dflt = (tgt : Int)) (kk : G X M nL Q k n9 σ tgt lv st) : G X M nL Q k n9 σ pc lv (.int x :: st) := fun H locs ls hP hS hl => lv_tableOut hC.x hC.b hdg h ht (kk H locs ls hP hS hl)
def LC (X : gX) (M : gMT) (b L : Nat) (sc : Nat → Int32) : Prop := gOk X M RL code 7 1000 601024 7293034 ∧ va_X b L sc (xs X) (xs X).heap ∧ b < (xs X).heap.size ∧ ¬ gA M b ∧ L ≤ 3072
/-- behind n calls -/
def Jn (M : gMT) (a0 m o n : Nat) (σ : gS) : Prop := ∃ (A : gAd) (ρ : gSt) (W : gWt) (ad : Nat → Nat) (rf : Int32) (S : gSt) (f : Nat → Int64), A 0 0 = a0 ∧ Raw M σ A ρ W ∧ Mod0 M σ m ad rf S ∧ σ o = some (aL M 1 f) ∧ Rel n ρ S ∧ Rz S
def nxt (X : gX) (M : gMT) (Q : State → Prop) (b a0 m o n : Nat) : Prop := ∀ (k n9 : Nat) (σ : gS), k ≤ 500 + 900 * (n + 1) → n9 ≤ 5000 + 13400 * (n + 1) → Jn M a0 m o (n + 1) σ → G X M 7 Q k n9 σ 1462 [(4, .int (nI (6 * n))), (3, .ref o), (2, .ref m), (1, .ref a0), (0, .ref b)] []
variable {a0 m o n : Nat} {A : gAd} {ρ : gSt} {W : gWt} {ad : Nat → Nat} {rf : Int32} {S : gSt} {f : Nat → Int64} {cd : String → Int32} {L : lRes} {T : Int32 × Int32 × gSt} {r : Int32}
theorem jE (hr : Raw M σ A ρ W) (hA : A 0 0 = a0) (h0 : Mod0 M σ m ad rf S) (ho : σ o = some (aL M 1 f)) (hw : wP M σ A o cd ρ L r σ2) : ∃ A' W' f', Raw M σ2 A' (if L.1 = "" then L.2.2 else ρ) W' ∧ A' 0 0 = a0 ∧ Mod0 M σ2 m ad rf S ∧ σ2 o = some (aL M 1 f') ∧ (L.1 = "" → r = 0 ∧ f' 0 = L.2.1.toInt64) ∧ (L.1 ≠ "" → r = cd L.1) := by
  rcases hw with ⟨h1, h2, σ1, g, ⟨⟨A', hA', W', hr'⟩, hF⟩, h4, h5⟩ | ⟨h1, h2, h3⟩
  · have ho1 : σ1 o = some (aL M 1 f) := hF _ _ ho trivial
    subst h4
    exact ⟨A', W', g, by rw [if_pos h1]; exact hr'.out ho1, hA'.trans hA, (h0.frame hF).out ho1, gUp_self _ _ _, fun _ => ⟨h2, h5⟩, fun h => absurd h1 h⟩
  · subst h3
    exact ⟨A, W, f, by rw [if_neg h1]; exact hr, hA, h0, ho, fun h => absurd h h1, fun _ => h2⟩
theorem jF (h : Mt cd n ρ L T) (hz : Rz S) (hk : kz S T.2.2) (hr : Raw M σ2 A (if L.1 = "" then L.2.2 else ρ) W) (hA : A 0 0 = a0) (h0 : Mod0 M σ2 m ad rf S) (ho : σ2 o = some (aL M 1 f)) (hM : Mod M (rest0 σ2 m ad) σ3 m ad T.1 T.2.2) : Jn M a0 m o (n + 1) σ3 ∧ σ3 o = some (aL M 1 f) := by
  obtain ⟨k1, k2⟩ := h0.keep hM
  have ho3 := k2 _ _ _ ho
  refine ⟨?_, ho3⟩
  rcases h with ⟨e1, e2, e3, e4⟩ | ⟨e1, e2, e3⟩
  · rw [if_pos e1] at hr
    exact ⟨A, L.2.2, W, ad, T.1, T.2.2, f, hA, hr.mono k1, hM.mod0, ho3, e4, hz.k hk⟩
  · rw [if_neg e1] at hr
    exact ⟨A, ρ, W, ad, T.1, T.2.2, f, hA, hr.mono k1, hM.mod0, ho3, e3, hz.k hk⟩
theorem jr (h : Mt cd n ρ L T) (h1 : L.1 = "" → r = 0) (h2 : L.1 ≠ "" → r = cd L.1) : T.1 = r := by
  rcases h with ⟨e1, e2, -⟩ | ⟨e1, e2, -⟩
  · rw [e2, h1 e1]
  · rw [e2, h2 e1]
theorem ja (h : Mt cd n ρ L T) (h1 : L.1 = "" → r = 0 ∧ f 0 = L.2.1.toInt64) (h2 : L.1 ≠ "" → r = cd L.1) (h0 : r = 0) (hcd : ∀ E, cd E ≠ 0) : f 0 = T.2.1.toInt64 := by
  rcases h with ⟨e1, e2, e3, -⟩ | ⟨e1, e2, -⟩
  · rw [(h1 e1).2, e3]
  · exact absurd ((h2 e1).symm.trans h0) (hcd _)
theorem cdf_n {a i s : Int32} (ha : a ≠ 0) (hi : i ≠ 0) (hs : s ≠ 0) (E : String) : cdf a i s E ≠ 0 := by
  unfold cdf
  split
  · exact ha
  · split
    · exact hi
    · exact hs
/-- the direct calls -/
theorem jD (hA : A 0 0 = a0) (h0 : Mod0 M σ m ad rf S) (ho : σ o = some (aL M 1 f)) (hw : lP M σ A L r σ2) : ∃ A' W', Raw M σ2 A' (if L.1 = "" then L.2.2 else ρ) W' ∧ A' 0 0 = a0 ∧ Mod0 M σ2 m ad rf S ∧ σ2 o = some (aL M 1 f) ∧ L.1 = "" ∧ r = L.2.1 := by
  obtain ⟨h1, h2, ⟨A', hA', W', hr'⟩, hF⟩ := hw
  exact ⟨A', W', by rw [if_pos h1]; exact hr', hA'.trans hA, h0.frame hF, hF _ _ ho trivial, h1, h2⟩
theorem jd (h : Mt cd n ρ L T) (h1 : L.1 = "") : L.2.1 = T.2.1 := by
  rcases h with ⟨e1, e2, e3, -⟩ | ⟨e1, -⟩
  · exact e3
  · exact absurd h1 e1
theorem jL (h : Mt cd n ρ L T) (hz : Rz S) (hk : kz S T.2.2) : True := trivial
/-- setLimits: no answer -/
theorem jS (hr : Raw M σ A ρ W) (hA : A 0 0 = a0) (h0 : Mod0 M σ m ad rf S) (ho : σ o = some (aL M 1 f)) (hw : (L.1 = "" ∧ r = 0 ∧ (∃ A', A' 0 0 = A 0 0 ∧ RawE M σ2 A' L.2.2) ∧ gFF σ σ2) ∨ (L.1 ≠ "" ∧ r = cd L.1 ∧ σ2 = σ)) : ∃ A' W', Raw M σ2 A' (if L.1 = "" then L.2.2 else ρ) W' ∧ A' 0 0 = a0 ∧ Mod0 M σ2 m ad rf S ∧ σ2 o = some (aL M 1 f) ∧ (L.1 = "" → r = 0) ∧ (L.1 ≠ "" → r = cd L.1) := by
  rcases hw with ⟨h1, h2, ⟨A', hA', W', hr'⟩, hF⟩ | ⟨h1, h2, h3⟩
  · exact ⟨A', W', by rw [if_pos h1]; exact hr', hA'.trans hA, h0.frame hF, hF _ _ ho trivial, fun _ => h2, fun h => absurd h1 h⟩
  · subst h3
    exact ⟨A, W, by rw [if_neg h1]; exact hr, hA, h0, ho, fun h => absurd h h1, fun _ => h2⟩
end LW
