/-! ===== rows of the walk ===== -/
section GR
variable {X : gX} {M : gMT} {own : String} {cc : ByteArray} {nL d mc ms : Nat} {Q : State → Prop} {k n : Nat} {σ : gS} {pc q : Nat} {lv : List (Nat × Value)} {st : List Value}
theorem g_iconst (hC : gOk X M own cc nL d mc ms) {z : Int} {v : Int32} (hdg : decode cc pc = .ok (.iconst z, 1)) (hv : Int32.ofInt z = v) (hq : pc + 1 = q) (kk : G X M nL Q k n σ q lv (.int v :: st)) : G X M nL Q k n σ pc lv st := by
  subst hq
  exact fun H locs ls hP hS hl => lv_iconst hC.x hC.b hdg hv (kk H locs ls hP hS hl)
theorem g_bipush (hC : gOk X M own cc nL d mc ms) {z : Int} {v : Int32} (hdg : decode cc pc = .ok (.bipush z, 2)) (hv : (Int8.ofInt z).toInt32 = v) (hq : pc + 2 = q) (kk : G X M nL Q k n σ q lv (.int v :: st)) : G X M nL Q k n σ pc lv st := by
  subst hq
  exact fun H locs ls hP hS hl => lv_bipush hC.x hC.b hdg hv (kk H locs ls hP hS hl)
theorem g_sipush (hC : gOk X M own cc nL d mc ms) {z : Int} {v : Int32} (hdg : decode cc pc = .ok (.sipush z, 3)) (hv : (Int16.ofInt z).toInt32 = v) (hq : pc + 3 = q) (kk : G X M nL Q k n σ q lv (.int v :: st)) : G X M nL Q k n σ pc lv st := by
  subst hq
  exact fun H locs ls hP hS hl => lv_sipush hC.x hC.b hdg hv (kk H locs ls hP hS hl)
theorem g_null (hC : gOk X M own cc nL d mc ms)  (hdg : decode cc pc = .ok (.aconst_null, 1))  (hq : pc + 1 = q) (kk : G X M nL Q k n σ q lv (.null :: st)) : G X M nL Q k n σ pc lv st := by
  subst hq
  exact fun H locs ls hP hS hl => lv_null hC.x hC.b hdg  (kk H locs ls hP hS hl)
theorem g_ldc (hC : gOk X M own cc nL d mc ms) {index : Nat} {v : Int32} (hk : Cond.constant own index v ∈ wG) (hdg : decode cc pc = .ok (.ldc index, 2)) (hq : pc + 2 = q) (kk : G X M nL Q k n σ q lv (.int v :: st)) : G X M nL Q k n σ pc lv st := by
  subst hq
  exact fun H locs ls hP hS hl => lv_ldc hC.x hC.b hC.ow (hC.ts hk) hdg (kk H locs ls hP hS hl)
theorem g_iload_n (hC : gOk X M own cc nL d mc ms) {x : Int32} {i : Nat} {k4 : Fin 4} (hdg : decode cc pc = .ok (.iload_n k4, 1)) (hi : (k4 : Nat) = i) (hv : gL lv i = some (.int x)) (hq : pc + 1 = q) (kk : G X M nL Q k n σ q lv (.int x :: st)) : G X M nL Q k n σ pc lv st := by
  subst hq
  exact fun H locs ls hP hS hl => lv_iload_n hC.x hC.b hdg hi (hl.get hv) (kk H locs ls hP hS hl)
theorem g_iload (hC : gOk X M own cc nL d mc ms) {x : Int32} {i : Nat} (hdg : decode cc pc = .ok (.iload i, 2)) (hv : gL lv i = some (.int x)) (hq : pc + 2 = q) (kk : G X M nL Q k n σ q lv (.int x :: st)) : G X M nL Q k n σ pc lv st := by
  subst hq
  exact fun H locs ls hP hS hl => lv_iload hC.x hC.b hdg (hl.get hv) (kk H locs ls hP hS hl)
theorem g_aload_n (hC : gOk X M own cc nL d mc ms) {x : Nat} {i : Nat} {k4 : Fin 4} (hdg : decode cc pc = .ok (.aload_n k4, 1)) (hi : (k4 : Nat) = i) (hv : gL lv i = some (.ref x)) (hq : pc + 1 = q) (kk : G X M nL Q k n σ q lv (.ref x :: st)) : G X M nL Q k n σ pc lv st := by
  subst hq
  exact fun H locs ls hP hS hl => lv_aload_n hC.x hC.b hdg hi (hl.get hv) (kk H locs ls hP hS hl)
theorem g_aload (hC : gOk X M own cc nL d mc ms) {x : Nat} {i : Nat} (hdg : decode cc pc = .ok (.aload i, 2)) (hv : gL lv i = some (.ref x)) (hq : pc + 2 = q) (kk : G X M nL Q k n σ q lv (.ref x :: st)) : G X M nL Q k n σ pc lv st := by
  subst hq
  exact fun H locs ls hP hS hl => lv_aload hC.x hC.b hdg (hl.get hv) (kk H locs ls hP hS hl)
theorem g_aload_nN (hC : gOk X M own cc nL d mc ms) {i : Nat} {k4 : Fin 4} (hdg : decode cc pc = .ok (.aload_n k4, 1)) (hi : (k4 : Nat) = i) (hv : gL lv i = some .null) (hq : pc + 1 = q) (kk : G X M nL Q k n σ q lv (.null :: st)) : G X M nL Q k n σ pc lv st := by
  subst hq
  exact fun H locs ls hP hS hl => lv_aload_nN hC.x hC.b hdg hi (hl.get hv) (kk H locs ls hP hS hl)
theorem g_aloadN (hC : gOk X M own cc nL d mc ms) {i : Nat} (hdg : decode cc pc = .ok (.aload i, 2)) (hv : gL lv i = some .null) (hq : pc + 2 = q) (kk : G X M nL Q k n σ q lv (.null :: st)) : G X M nL Q k n σ pc lv st := by
  subst hq
  exact fun H locs ls hP hS hl => lv_aloadN hC.x hC.b hdg (hl.get hv) (kk H locs ls hP hS hl)
theorem g_aload_nQ (hC : gOk X M own cc nL d mc ms) {o : Option Nat} {i : Nat} {k4 : Fin 4} (hdg : decode cc pc = .ok (.aload_n k4, 1)) (hi : (k4 : Nat) = i) (hv : gL lv i = some (va_rf o)) (hq : pc + 1 = q) (kk : G X M nL Q k n σ q lv (va_rf o :: st)) : G X M nL Q k n σ pc lv st := by
  cases o with
  | none => exact g_aload_nN hC hdg hi hv hq kk
  | some a => exact g_aload_n hC hdg hi hv hq kk
theorem g_aloadQ (hC : gOk X M own cc nL d mc ms) {o : Option Nat} {i : Nat} (hdg : decode cc pc = .ok (.aload i, 2)) (hv : gL lv i = some (va_rf o)) (hq : pc + 2 = q) (kk : G X M nL Q k n σ q lv (va_rf o :: st)) : G X M nL Q k n σ pc lv st := by
  cases o with
  | none => exact g_aloadN hC hdg hv hq kk
  | some a => exact g_aload hC hdg hv hq kk
theorem g_istore_n (hC : gOk X M own cc nL d mc ms) {x : Int32} {i : Nat} {k4 : Fin 4} (hdg : decode cc pc = .ok (.istore_n k4, 1)) (hi : (k4 : Nat) = i) (hn : i < nL) (hq : pc + 1 = q) (kk : G X M nL Q k n σ q ((i, .int x) :: lv) st) : G X M nL Q k n σ pc lv (.int x :: st) := by
  subst hq
  exact fun H locs ls hP hS hl => lv_istore_n hC.x hC.b hdg hi hl.has hn rfl (fun ls2 hl2 => kk H locs ls2 hP hS (hl.stored rfl hl2))
theorem g_istore (hC : gOk X M own cc nL d mc ms) {x : Int32} {i : Nat} (hdg : decode cc pc = .ok (.istore i, 2)) (hn : i < nL) (hq : pc + 2 = q) (kk : G X M nL Q k n σ q ((i, .int x) :: lv) st) : G X M nL Q k n σ pc lv (.int x :: st) := by
  subst hq
  exact fun H locs ls hP hS hl => lv_istore hC.x hC.b hdg hl.has hn rfl (fun ls2 hl2 => kk H locs ls2 hP hS (hl.stored rfl hl2))
theorem g_astore_n (hC : gOk X M own cc nL d mc ms) {x : Nat} {i : Nat} {k4 : Fin 4} (hdg : decode cc pc = .ok (.astore_n k4, 1)) (hi : (k4 : Nat) = i) (hn : i < nL) (hq : pc + 1 = q) (kk : G X M nL Q k n σ q ((i, .ref x) :: lv) st) : G X M nL Q k n σ pc lv (.ref x :: st) := by
  subst hq
  exact fun H locs ls hP hS hl => lv_astore_n hC.x hC.b hdg hi hl.has hn rfl (fun ls2 hl2 => kk H locs ls2 hP hS (hl.stored rfl hl2))
theorem g_astore (hC : gOk X M own cc nL d mc ms) {x : Nat} {i : Nat} (hdg : decode cc pc = .ok (.astore i, 2)) (hn : i < nL) (hq : pc + 2 = q) (kk : G X M nL Q k n σ q ((i, .ref x) :: lv) st) : G X M nL Q k n σ pc lv (.ref x :: st) := by
  subst hq
  exact fun H locs ls hP hS hl => lv_astore hC.x hC.b hdg hl.has hn rfl (fun ls2 hl2 => kk H locs ls2 hP hS (hl.stored rfl hl2))
theorem g_astore_nN (hC : gOk X M own cc nL d mc ms)  {i : Nat} {k4 : Fin 4} (hdg : decode cc pc = .ok (.astore_n k4, 1)) (hi : (k4 : Nat) = i) (hn : i < nL) (hq : pc + 1 = q) (kk : G X M nL Q k n σ q ((i, .null) :: lv) st) : G X M nL Q k n σ pc lv (.null :: st) := by
  subst hq
  exact fun H locs ls hP hS hl => lv_astore_nN hC.x hC.b hdg hi hl.has hn rfl (fun ls2 hl2 => kk H locs ls2 hP hS (hl.stored rfl hl2))
theorem g_astoreN (hC : gOk X M own cc nL d mc ms)  {i : Nat} (hdg : decode cc pc = .ok (.astore i, 2)) (hn : i < nL) (hq : pc + 2 = q) (kk : G X M nL Q k n σ q ((i, .null) :: lv) st) : G X M nL Q k n σ pc lv (.null :: st) := by
  subst hq
  exact fun H locs ls hP hS hl => lv_astoreN hC.x hC.b hdg hl.has hn rfl (fun ls2 hl2 => kk H locs ls2 hP hS (hl.stored rfl hl2))
theorem g_astore_nQ (hC : gOk X M own cc nL d mc ms) {o : Option Nat} {i : Nat} {k4 : Fin 4} (hdg : decode cc pc = .ok (.astore_n k4, 1)) (hi : (k4 : Nat) = i) (hn : i < nL) (hq : pc + 1 = q) (kk : G X M nL Q k n σ q ((i, va_rf o) :: lv) st) : G X M nL Q k n σ pc lv (va_rf o :: st) := by
  cases o with
  | none => exact g_astore_nN hC hdg hi hn hq kk
  | some a => exact g_astore_n hC hdg hi hn hq kk
theorem g_astoreQ (hC : gOk X M own cc nL d mc ms) {o : Option Nat} {i : Nat} (hdg : decode cc pc = .ok (.astore i, 2)) (hn : i < nL) (hq : pc + 2 = q) (kk : G X M nL Q k n σ q ((i, va_rf o) :: lv) st) : G X M nL Q k n σ pc lv (va_rf o :: st) := by
  cases o with
  | none => exact g_astoreN hC hdg hn hq kk
  | some a => exact g_astore hC hdg hn hq kk
theorem g_iinc (hC : gOk X M own cc nL d mc ms) {x v : Int32} {i : Nat} {z : Int} (hdg : decode cc pc = .ok (.iinc i z, 3)) (hx : gL lv i = some (.int x)) (hv : x + Int32.ofInt z = v) (hq : pc + 3 = q) (kk : G X M nL Q k n σ q ((i, .int v) :: lv) st) : G X M nL Q k n σ pc lv st := by
  subst hq
  intro H locs ls hP hS hl
  obtain ⟨k9, hk9⟩ := List.getElem?_of_mem (gEnt_mem.mpr ⟨gL_lt hl hx, hx⟩ : (i, Value.int x) ∈ gEnt lv nL)
  exact lv_iinc hC.x hC.b hdg hl.has hk9 hv (gL_lt hl hx) rfl (fun ls2 hl2 => kk H locs ls2 hP hS (hl.stored rfl hl2))
theorem g_iadd (hC : gOk X M own cc nL d mc ms) {x y v : Int32} (hdg : decode cc pc = .ok (.iadd, 1)) (hv : x + y = v) (hq : pc + 1 = q) (kk : G X M nL Q k n σ q lv (.int v :: st)) : G X M nL Q k n σ pc lv (.int y :: .int x :: st) := by
  subst hq
  subst hv
  exact fun H locs ls hP hS hl => lv_iadd hC.x hC.b hdg (kk H locs ls hP hS hl)
theorem g_isub (hC : gOk X M own cc nL d mc ms) {x y v : Int32} (hdg : decode cc pc = .ok (.isub, 1)) (hv : x - y = v) (hq : pc + 1 = q) (kk : G X M nL Q k n σ q lv (.int v :: st)) : G X M nL Q k n σ pc lv (.int y :: .int x :: st) := by
  subst hq
  subst hv
  exact fun H locs ls hP hS hl => lv_isub hC.x hC.b hdg (kk H locs ls hP hS hl)
theorem g_imul (hC : gOk X M own cc nL d mc ms) {x y v : Int32} (hdg : decode cc pc = .ok (.imul, 1)) (hv : x * y = v) (hq : pc + 1 = q) (kk : G X M nL Q k n σ q lv (.int v :: st)) : G X M nL Q k n σ pc lv (.int y :: .int x :: st) := by
  subst hq
  subst hv
  exact fun H locs ls hP hS hl => lv_imul hC.x hC.b hdg (kk H locs ls hP hS hl)
theorem g_iand (hC : gOk X M own cc nL d mc ms) {x y v : Int32} (hdg : decode cc pc = .ok (.iand, 1)) (hv : x &&& y = v) (hq : pc + 1 = q) (kk : G X M nL Q k n σ q lv (.int v :: st)) : G X M nL Q k n σ pc lv (.int y :: .int x :: st) := by
  subst hq
  subst hv
  exact fun H locs ls hP hS hl => lv_iand hC.x hC.b hdg (kk H locs ls hP hS hl)
theorem g_ior (hC : gOk X M own cc nL d mc ms) {x y v : Int32} (hdg : decode cc pc = .ok (.ior, 1)) (hv : x ||| y = v) (hq : pc + 1 = q) (kk : G X M nL Q k n σ q lv (.int v :: st)) : G X M nL Q k n σ pc lv (.int y :: .int x :: st) := by
  subst hq
  subst hv
  exact fun H locs ls hP hS hl => lv_ior hC.x hC.b hdg (kk H locs ls hP hS hl)
theorem g_ishl (hC : gOk X M own cc nL d mc ms) {x y v : Int32} (hdg : decode cc pc = .ok (.ishl, 1)) (hv : x <<< (y &&& 31) = v) (hq : pc + 1 = q) (kk : G X M nL Q k n σ q lv (.int v :: st)) : G X M nL Q k n σ pc lv (.int y :: .int x :: st) := by
  subst hq
  subst hv
  exact fun H locs ls hP hS hl => lv_ishl hC.x hC.b hdg (kk H locs ls hP hS hl)
theorem g_ishr (hC : gOk X M own cc nL d mc ms) {x y v : Int32} (hdg : decode cc pc = .ok (.ishr, 1)) (hv : x >>> (y &&& 31) = v) (hq : pc + 1 = q) (kk : G X M nL Q k n σ q lv (.int v :: st)) : G X M nL Q k n σ pc lv (.int y :: .int x :: st) := by
  subst hq
  subst hv
  exact fun H locs ls hP hS hl => lv_ishr hC.x hC.b hdg (kk H locs ls hP hS hl)
theorem g_irem (hC : gOk X M own cc nL d mc ms) {x y v : Int32} (hdg : decode cc pc = .ok (.irem, 1)) (hne : ¬ y = 0) (hv : x - x / y * y = v) (hq : pc + 1 = q) (kk : G X M nL Q k n σ q lv (.int v :: st)) : G X M nL Q k n σ pc lv (.int y :: .int x :: st) := by
  subst hq
  subst hv
  exact fun H locs ls hP hS hl => lv_irem hC.x hC.b hdg hne (kk H locs ls hP hS hl)
theorem g_ineg (hC : gOk X M own cc nL d mc ms) {x v : Int32} (hdg : decode cc pc = .ok (.ineg, 1)) (hv : -x = v) (hq : pc + 1 = q) (kk : G X M nL Q k n σ q lv (.int v :: st)) : G X M nL Q k n σ pc lv (.int x :: st) := by
  subst hq
  subst hv
  exact fun H locs ls hP hS hl => lv_ineg hC.x hC.b hdg (kk H locs ls hP hS hl)
theorem g_i2l (hC : gOk X M own cc nL d mc ms) {x : Int32} {v : Int64} (hdg : decode cc pc = .ok (.i2l, 1)) (hv : x.toInt64 = v) (hq : pc + 1 = q) (kk : G X M nL Q k n σ q lv (.long v :: st)) : G X M nL Q k n σ pc lv (.int x :: st) := by
  subst hq
  exact fun H locs ls hP hS hl => lv_i2l hC.x hC.b hdg hv (kk H locs ls hP hS hl)
theorem g_i2b (hC : gOk X M own cc nL d mc ms) {x v : Int32} (hdg : decode cc pc = .ok (.i2b, 1)) (hv : x.toInt8.toInt32 = v) (hq : pc + 1 = q) (kk : G X M nL Q k n σ q lv (.int v :: st)) : G X M nL Q k n σ pc lv (.int x :: st) := by
  subst hq
  exact fun H locs ls hP hS hl => lv_i2b hC.x hC.b hdg hv (kk H locs ls hP hS hl)
theorem g_i2c (hC : gOk X M own cc nL d mc ms) {x v : Int32} (hdg : decode cc pc = .ok (.i2c, 1)) (hv : (x.toUInt32 % 65536).toInt32 = v) (hq : pc + 1 = q) (kk : G X M nL Q k n σ q lv (.int v :: st)) : G X M nL Q k n σ pc lv (.int x :: st) := by
  subst hq
  exact fun H locs ls hP hS hl => lv_i2c hC.x hC.b hdg hv (kk H locs ls hP hS hl)
theorem g_ladd (hC : gOk X M own cc nL d mc ms) {x y v : Int64} (hdg : decode cc pc = .ok (.ladd, 1)) (hv : x + y = v) (hq : pc + 1 = q) (kk : G X M nL Q k n σ q lv (.long v :: st)) : G X M nL Q k n σ pc lv (.long y :: .long x :: st) := by
  subst hq
  subst hv
  exact fun H locs ls hP hS hl => lv_ladd hC.x hC.b hdg (kk H locs ls hP hS hl)
theorem g_lcmp (hC : gOk X M own cc nL d mc ms) {x y : Int64} {v : Int32} (hdg : decode cc pc = .ok (.lcmp, 1)) (hv : lg_cmp x y = v) (hq : pc + 1 = q) (kk : G X M nL Q k n σ q lv (.int v :: st)) : G X M nL Q k n σ pc lv (.long y :: .long x :: st) := by
  subst hq
  subst hv
  exact fun H locs ls hP hS hl => W.lcmp hC.x hC.b hdg (kk H locs ls hP hS hl)
theorem g_dup (hC : gOk X M own cc nL d mc ms) {u : Value} (hdg : decode cc pc = .ok (.dup, 1)) (hu : u.category = 1) (hq : pc + 1 = q) (kk : G X M nL Q k n σ q lv (u :: u :: st)) : G X M nL Q k n σ pc lv (u :: st) := by
  subst hq
  exact fun H locs ls hP hS hl => lv_dup hC.x hC.b hdg hu (kk H locs ls hP hS hl)
theorem g_pop (hC : gOk X M own cc nL d mc ms) {u : Value} (hdg : decode cc pc = .ok (.pop, 1)) (hu : u.category = 1) (hq : pc + 1 = q) (kk : G X M nL Q k n σ q lv st) : G X M nL Q k n σ pc lv (u :: st) := by
  subst hq
  exact fun H locs ls hP hS hl => lv_pop hC.x hC.b hdg hu (kk H locs ls hP hS hl)
theorem g_dup_x1 (hC : gOk X M own cc nL d mc ms) {u w : Value} (hdg : decode cc pc = .ok (.dup_x1, 1)) (hu : u.category = 1) (hw : w.category = 1) (hq : pc + 1 = q) (kk : G X M nL Q k n σ q lv (u :: w :: u :: st)) : G X M nL Q k n σ pc lv (u :: w :: st) := by
  subst hq
  exact fun H locs ls hP hS hl => lv_dup_x1 hC.x hC.b hdg hu hw (kk H locs ls hP hS hl)
theorem g_dup2 (hC : gOk X M own cc nL d mc ms) {u w : Value} (hdg : decode cc pc = .ok (.dup2, 1)) (hu : u.category = 1) (hw : w.category = 1) (hq : pc + 1 = q) (kk : G X M nL Q k n σ q lv (u :: w :: u :: w :: st)) : G X M nL Q k n σ pc lv (u :: w :: st) := by
  subst hq
  exact fun H locs ls hP hS hl => lv_dup2_11 hC.x hC.b hdg hu hw (kk H locs ls hP hS hl)
theorem g_if_eq (hC : gOk X M own cc nL d mc ms) {x : Int32} {off : Int} {tgt : Nat} (hdg : decode cc pc = .ok (.ifCond .eq off, 3)) (ht : (pc : Int) + off = (tgt : Int)) (hq : pc + 3 = q) (kt : x = 0 → G X M nL Q k n σ tgt lv st) (kf : ¬ (x = 0) → G X M nL Q k n σ q lv st) : G X M nL Q k n σ pc lv (.int x :: st) := by
  subst hq
  exact fun H locs ls hP hS hl => lv_if_eq hC.x hC.b hdg ht (fun c9 => kt c9 H locs ls hP hS hl) (fun c9 => kf c9 H locs ls hP hS hl)
theorem g_icmp_eq (hC : gOk X M own cc nL d mc ms) {x y : Int32} {off : Int} {tgt : Nat} (hdg : decode cc pc = .ok (.if_icmp .eq off, 3)) (ht : (pc : Int) + off = (tgt : Int)) (hq : pc + 3 = q) (kt : x = y → G X M nL Q k n σ tgt lv st) (kf : ¬ (x = y) → G X M nL Q k n σ q lv st) : G X M nL Q k n σ pc lv (.int y :: .int x :: st) := by
  subst hq
  exact fun H locs ls hP hS hl => lv_icmp_eq hC.x hC.b hdg ht (fun c9 => kt c9 H locs ls hP hS hl) (fun c9 => kf c9 H locs ls hP hS hl)
theorem g_if_ne (hC : gOk X M own cc nL d mc ms) {x : Int32} {off : Int} {tgt : Nat} (hdg : decode cc pc = .ok (.ifCond .ne off, 3)) (ht : (pc : Int) + off = (tgt : Int)) (hq : pc + 3 = q) (kt : ¬ x = 0 → G X M nL Q k n σ tgt lv st) (kf : x = 0 → G X M nL Q k n σ q lv st) : G X M nL Q k n σ pc lv (.int x :: st) := by
  subst hq
  exact fun H locs ls hP hS hl => lv_if_ne hC.x hC.b hdg ht (fun c9 => kt c9 H locs ls hP hS hl) (fun c9 => kf c9 H locs ls hP hS hl)
theorem g_icmp_ne (hC : gOk X M own cc nL d mc ms) {x y : Int32} {off : Int} {tgt : Nat} (hdg : decode cc pc = .ok (.if_icmp .ne off, 3)) (ht : (pc : Int) + off = (tgt : Int)) (hq : pc + 3 = q) (kt : ¬ x = y → G X M nL Q k n σ tgt lv st) (kf : x = y → G X M nL Q k n σ q lv st) : G X M nL Q k n σ pc lv (.int y :: .int x :: st) := by
  subst hq
  exact fun H locs ls hP hS hl => lv_icmp_ne hC.x hC.b hdg ht (fun c9 => kt c9 H locs ls hP hS hl) (fun c9 => kf c9 H locs ls hP hS hl)
theorem g_if_lt (hC : gOk X M own cc nL d mc ms) {x : Int32} {off : Int} {tgt : Nat} (hdg : decode cc pc = .ok (.ifCond .lt off, 3)) (ht : (pc : Int) + off = (tgt : Int)) (hq : pc + 3 = q) (kt : x < 0 → G X M nL Q k n σ tgt lv st) (kf : ¬ (x < 0) → G X M nL Q k n σ q lv st) : G X M nL Q k n σ pc lv (.int x :: st) := by
  subst hq
  exact fun H locs ls hP hS hl => lv_if_lt hC.x hC.b hdg ht (fun c9 => kt c9 H locs ls hP hS hl) (fun c9 => kf c9 H locs ls hP hS hl)
theorem g_icmp_lt (hC : gOk X M own cc nL d mc ms) {x y : Int32} {off : Int} {tgt : Nat} (hdg : decode cc pc = .ok (.if_icmp .lt off, 3)) (ht : (pc : Int) + off = (tgt : Int)) (hq : pc + 3 = q) (kt : x < y → G X M nL Q k n σ tgt lv st) (kf : ¬ (x < y) → G X M nL Q k n σ q lv st) : G X M nL Q k n σ pc lv (.int y :: .int x :: st) := by
  subst hq
  exact fun H locs ls hP hS hl => lv_icmp_lt hC.x hC.b hdg ht (fun c9 => kt c9 H locs ls hP hS hl) (fun c9 => kf c9 H locs ls hP hS hl)
theorem g_if_ge (hC : gOk X M own cc nL d mc ms) {x : Int32} {off : Int} {tgt : Nat} (hdg : decode cc pc = .ok (.ifCond .ge off, 3)) (ht : (pc : Int) + off = (tgt : Int)) (hq : pc + 3 = q) (kt : 0 ≤ x → G X M nL Q k n σ tgt lv st) (kf : ¬ (0 ≤ x) → G X M nL Q k n σ q lv st) : G X M nL Q k n σ pc lv (.int x :: st) := by
  subst hq
  exact fun H locs ls hP hS hl => lv_if_ge hC.x hC.b hdg ht (fun c9 => kt c9 H locs ls hP hS hl) (fun c9 => kf c9 H locs ls hP hS hl)
theorem g_icmp_ge (hC : gOk X M own cc nL d mc ms) {x y : Int32} {off : Int} {tgt : Nat} (hdg : decode cc pc = .ok (.if_icmp .ge off, 3)) (ht : (pc : Int) + off = (tgt : Int)) (hq : pc + 3 = q) (kt : y ≤ x → G X M nL Q k n σ tgt lv st) (kf : ¬ (y ≤ x) → G X M nL Q k n σ q lv st) : G X M nL Q k n σ pc lv (.int y :: .int x :: st) := by
  subst hq
  exact fun H locs ls hP hS hl => lv_icmp_ge hC.x hC.b hdg ht (fun c9 => kt c9 H locs ls hP hS hl) (fun c9 => kf c9 H locs ls hP hS hl)
theorem g_if_gt (hC : gOk X M own cc nL d mc ms) {x : Int32} {off : Int} {tgt : Nat} (hdg : decode cc pc = .ok (.ifCond .gt off, 3)) (ht : (pc : Int) + off = (tgt : Int)) (hq : pc + 3 = q) (kt : 0 < x → G X M nL Q k n σ tgt lv st) (kf : ¬ (0 < x) → G X M nL Q k n σ q lv st) : G X M nL Q k n σ pc lv (.int x :: st) := by
  subst hq
  exact fun H locs ls hP hS hl => lv_if_gt hC.x hC.b hdg ht (fun c9 => kt c9 H locs ls hP hS hl) (fun c9 => kf c9 H locs ls hP hS hl)
theorem g_icmp_gt (hC : gOk X M own cc nL d mc ms) {x y : Int32} {off : Int} {tgt : Nat} (hdg : decode cc pc = .ok (.if_icmp .gt off, 3)) (ht : (pc : Int) + off = (tgt : Int)) (hq : pc + 3 = q) (kt : y < x → G X M nL Q k n σ tgt lv st) (kf : ¬ (y < x) → G X M nL Q k n σ q lv st) : G X M nL Q k n σ pc lv (.int y :: .int x :: st) := by
  subst hq
  exact fun H locs ls hP hS hl => lv_icmp_gt hC.x hC.b hdg ht (fun c9 => kt c9 H locs ls hP hS hl) (fun c9 => kf c9 H locs ls hP hS hl)
theorem g_if_le (hC : gOk X M own cc nL d mc ms) {x : Int32} {off : Int} {tgt : Nat} (hdg : decode cc pc = .ok (.ifCond .le off, 3)) (ht : (pc : Int) + off = (tgt : Int)) (hq : pc + 3 = q) (kt : x ≤ 0 → G X M nL Q k n σ tgt lv st) (kf : ¬ (x ≤ 0) → G X M nL Q k n σ q lv st) : G X M nL Q k n σ pc lv (.int x :: st) := by
  subst hq
  exact fun H locs ls hP hS hl => lv_if_le hC.x hC.b hdg ht (fun c9 => kt c9 H locs ls hP hS hl) (fun c9 => kf c9 H locs ls hP hS hl)
theorem g_icmp_le (hC : gOk X M own cc nL d mc ms) {x y : Int32} {off : Int} {tgt : Nat} (hdg : decode cc pc = .ok (.if_icmp .le off, 3)) (ht : (pc : Int) + off = (tgt : Int)) (hq : pc + 3 = q) (kt : x ≤ y → G X M nL Q k n σ tgt lv st) (kf : ¬ (x ≤ y) → G X M nL Q k n σ q lv st) : G X M nL Q k n σ pc lv (.int y :: .int x :: st) := by
  subst hq
  exact fun H locs ls hP hS hl => lv_icmp_le hC.x hC.b hdg ht (fun c9 => kt c9 H locs ls hP hS hl) (fun c9 => kf c9 H locs ls hP hS hl)
theorem g_acmp_eq (hC : gOk X M own cc nL d mc ms) {rx ry : Option Nat} {off : Int} {tgt : Nat} (hdg : decode cc pc = .ok (.if_acmp .eq off, 3)) (ht : (pc : Int) + off = (tgt : Int)) (hq : pc + 3 = q) (kt : rx = ry → G X M nL Q k n σ tgt lv st) (kf : ¬ rx = ry → G X M nL Q k n σ q lv st) : G X M nL Q k n σ pc lv (va_rf ry :: va_rf rx :: st) := by
  subst hq
  exact fun H locs ls hP hS hl => lv_acmp_eq hC.x hC.b hdg ht (fun c9 => kt c9 H locs ls hP hS hl) (fun c9 => kf c9 H locs ls hP hS hl)
theorem g_acmp_ne (hC : gOk X M own cc nL d mc ms) {rx ry : Option Nat} {off : Int} {tgt : Nat} (hdg : decode cc pc = .ok (.if_acmp .ne off, 3)) (ht : (pc : Int) + off = (tgt : Int)) (hq : pc + 3 = q) (kt : ¬ rx = ry → G X M nL Q k n σ tgt lv st) (kf : rx = ry → G X M nL Q k n σ q lv st) : G X M nL Q k n σ pc lv (va_rf ry :: va_rf rx :: st) := by
  subst hq
  exact fun H locs ls hP hS hl => lv_acmp_ne hC.x hC.b hdg ht (fun c9 => kt c9 H locs ls hP hS hl) (fun c9 => kf c9 H locs ls hP hS hl)
theorem g_goto (hC : gOk X M own cc nL d mc ms) {off : Int} {tgt : Nat} (hdg : decode cc pc = .ok (.goto off, 3)) (ht : (pc : Int) + off = (tgt : Int)) (kk : G X M nL Q k n σ tgt lv st) : G X M nL Q k n σ pc lv st :=
  fun H locs ls hP hS hl => lv_goto hC.x hC.b hdg ht (kk H locs ls hP hS hl)
theorem g_ifnull (hC : gOk X M own cc nL d mc ms) {o : Option Nat} {off : Int} {tgt : Nat} (hdg : decode cc pc = .ok (.ifnull off, 3)) (ht : (pc : Int) + off = (tgt : Int)) (hq : pc + 3 = q) (kt : o = none → G X M nL Q k n σ tgt lv st) (kf : ∀ a, o = some a → G X M nL Q k n σ q lv st) : G X M nL Q k n σ pc lv (va_rf o :: st) := by
  subst hq
  cases o with
  | none => exact fun H locs ls hP hS hl => lv_ifnullN hC.x hC.b hdg ht (kt rfl H locs ls hP hS hl)
  | some a => exact fun H locs ls hP hS hl => lv_ifnull hC.x hC.b hdg (kf a rfl H locs ls hP hS hl)
theorem g_ifnonnull (hC : gOk X M own cc nL d mc ms) {o : Option Nat} {off : Int} {tgt : Nat} (hdg : decode cc pc = .ok (.ifnonnull off, 3)) (ht : (pc : Int) + off = (tgt : Int)) (hq : pc + 3 = q) (kt : ∀ a, o = some a → G X M nL Q k n σ tgt lv st) (kf : o = none → G X M nL Q k n σ q lv st) : G X M nL Q k n σ pc lv (va_rf o :: st) := by
  subst hq
  cases o with
  | none => exact fun H locs ls hP hS hl => lv_ifnonnullN hC.x hC.b hdg (kf rfl H locs ls hP hS hl)
  | some a => exact fun H locs ls hP hS hl => lv_ifnonnull hC.x hC.b hdg ht (kt a rfl H locs ls hP hS hl)
theorem g_sub {lv0 : List (Nat × Value)} (ha : gAll lv lv0) (kk : G X M nL Q k n σ pc lv0 st) : G X M nL Q k n σ pc lv st := fun H locs ls hP hS hl => kk H locs ls hP hS (hl.sub ha)
theorem g_widen {k9 n9 : Nat} (h1 : k ≤ k9) (h2 : n ≤ n9) (kk : G X M nL Q k9 n9 σ pc lv st) : G X M nL Q k n σ pc lv st := fun H locs ls hP hS hl => W.widen h1 h2 (kk H locs ls hP hS hl)
theorem g_eq {σ2 : gS} (h : σ = σ2) (kk : G X M nL Q k n σ2 pc lv st) : G X M nL Q k n σ pc lv st := h ▸ kk
theorem g_top {x y : Int32} (h : x = y) (kk : G X M nL Q k n σ pc lv (.int y :: st)) : G X M nL Q k n σ pc lv (.int x :: st) := h ▸ kk
def gFg (own : String) (index ci kf : Nat) : Prop := ∃ (C : String) (T : u_T) (N : Nat) (ref : String), gCl[ci]? = some (C, T, N) ∧ kf < N ∧ Cond.fieldLink own index ref (T kf).2.1 (T kf).2.2.1 ∈ wG ∧ ((T kf).1 = ref ∨ Cond.sameField ref (T kf).1 (T kf).2.1 (T kf).2.2.1 ∈ wG)
def gFl (own : String) (index ci kf : Nat) (ty : FieldType) (fin : Bool) : Prop := ∃ (C : String) (T : u_T) (N : Nat) (ref : String), gCl[ci]? = some (C, T, N) ∧ kf < N ∧ Cond.fieldLink own index ref (T kf).2.1 (T kf).2.2.1 ∈ wG ∧ ((T kf).1 = ref ∨ Cond.sameField ref (T kf).1 (T kf).2.1 (T kf).2.2.1 ∈ wG) ∧ parseFieldDescriptor (T kf).2.2.1 = some ty ∧ (T kf).2.2.2 = fin ∧ (fin = true → (T kf).1 = own)
theorem gCl_words : gCl.all (fun q => (u_ws q.1 q.2.1 q.2.2).all (fun w => decide (w ∈ lw_tbl) && goodWord w)) = true := by decide +kernel
theorem gCl_in {ci : Nat} {C : String} {T : u_T} {N : Nat} (h : gCl[ci]? = some (C, T, N)) : ∀ w ∈ u_ws C T N, w ∈ wG := by
  intro w hw
  have h1 := List.all_eq_true.mp gCl_words _ (List.mem_of_getElem? h)
  have h2 := List.all_eq_true.mp h1 w hw
  simp only [Bool.and_eq_true, decide_eq_true_eq] at h2
  exact wG_in h2.1 h2.2
theorem gCl_ty {ci : Nat} {C : String} {T : u_T} {N : Nat} (h : gCl[ci]? = some (C, T, N)) : ∃ ty : Nat → FieldType, (∀ j, j < N → parseFieldDescriptor (T j).2.2.1 = some (ty j)) ∧ ∀ a, a < N → ∀ b, b < N → a ≠ b → (T a).2.1 ≠ (T b).2.1 := by
  match ci, h with
  | 0, h => cases h; exact ⟨tyX0, tyX0_ok, nmX0⟩
  | 1, h => cases h; exact ⟨tyX1, tyX1_ok, nmX1⟩
  | 2, h => cases h; exact ⟨tyX2, tyX2_ok, nmX2⟩
  | 3, h => cases h; exact ⟨tyX3, tyX3_ok, nmX3⟩
  | 4, h => cases h; exact ⟨tyX4, tyX4_ok, nmX4⟩
  | 5, h => cases h; exact ⟨tyX4, tyX4_ok, nmX4⟩
  | 6, h => cases h; exact ⟨tyJx4a65c, tyJx4a65c_ok, nmJx4a65c⟩
  | 7, h => cases h; exact ⟨tyJ4, tyJ4_ok, nmJ4⟩
  | j + 8, h => simp [gCl] at h
theorem gFl.same {kf : Nat} {ref : String} {T : u_T} (hC : gOk X M own cc nL d mc ms) (h : (T kf).1 = ref ∨ Cond.sameField ref (T kf).1 (T kf).2.1 (T kf).2.2.1 ∈ wG) : ∀ x, (xs X).fieldFound? (T kf).1 (T kf).2.1 (T kf).2.2.1 = some x → (xs X).fieldFound? ref (T kf).2.1 (T kf).2.2.1 = some x := by
  intro x hx
  rcases h with rfl | h
  · exact hx
  · exact u_same (hC.ts h) x hx
theorem g_getf (hC : gOk X M own cc nL d mc ms) {a ci kf index : Nat} {fs : List Value} {v : Value} (hf : gFg own index ci kf) (hdg : decode cc pc = .ok (.getfield index, 3)) (hσ : σ a = some (oB ci fs)) (hv : fs[kf]? = some v) (hq : pc + 3 = q) (kk : G X M nL Q k n σ q lv (v :: st)) : G X M nL Q k n σ pc lv (.ref a :: st) := by
  subst hq
  obtain ⟨C, T, N, ref, hc, hkN, hlk, hsm⟩ := hf
  intro H locs ls hP hS hl
  exact va_get (ci := ci) (fs := fs) (v := v) hC.x hC.b hC.2.2.2.2.1 (gCl_in hc) hC.ow hC.k (hP.one hσ) 0 rfl hc kf hkN (hC.ts hlk) (gFl.same hC hsm) hv hdg (kk H locs ls hP hS hl)
theorem g_putf (hC : gOk X M own cc nL d mc ms) {a ci kf index : Nat} {fs : List Value} {v : Value} {ty : FieldType} (hf : gFl own index ci kf ty false) (hdg : decode cc pc = .ok (.putfield index, 3)) (hσ : σ a = some (oB ci fs)) (hl9 : kf < fs.length) (hn : narrow ty v = v) (hfit : fits ty v = true) (hq : pc + 3 = q) (kk : G X M nL Q k n (gUp σ a (oB ci (fs.set kf v))) q lv st) : G X M nL Q k n σ pc lv (v :: .ref a :: st) := by
  subst hq
  obtain ⟨C, T, N, ref, hc, hkN, hlk, hsm, hd, hfin, hown⟩ := hf
  obtain ⟨ty0, hty, hnm⟩ := gCl_ty hc
  intro H locs ls hP hS0 hl
  have hK := hC.k
  have hts := hC.2.2.2.2.1
  have hin := gCl_in hc
  have hap := va_apart (own := own) hts hin ty0 hty hnm hK hc
  obtain ⟨⟨r, h1, cell, q1, q2, q3, q4⟩, hba⟩ := hP a _ hσ
  have hr : r = (C, T, N) := Option.some.inj (h1.symm.trans hc)
  subst hr
  obtain ⟨hS, hfc, kC, hkC, hkind⟩ := hK.1 ci _ hc
  obtain ⟨cf, kf2, fi, f, hi, hsl⟩ := hS kf hkN
  have hlay := hts _ (hin _ (u_in_lay hkN))
  unfold u_lay at hlay
  have hst := (u_facts hfc hkC (u_lays hts hin hkN) hi).1
  have hsame := gFl.same hC hsm
  rw [if_neg (by rw [hfin]; decide)] at hlay
  have h6 := u_store hfc hkC hkind hlay hi hd hn hfit
  refine W.putK hC.x hC.b (f := f) ⟨hC.ow, hC.ts hlk, ⟨_, _, _, hsame _ hi⟩, hst⟩ (by rw [q2]; exact h6) q1 q3 (by rw [hsl]; exact k2_hasslot (q4 kf hkN)) rfl rfl hdg fun H' e1 e2 e3 => ?_
  rw [hsl] at e1 ⊢
  exact kk H' _ ls (hP.up (e := oB ci (fs.set kf v)) ⟨_, hc, t_OB.to (V := updV (vp_V fs) kf v) ⟨_, e1, q2, q3, t_set q4 hap hkN v⟩ (fun j _ => vp_updV_set hl9 v j)⟩ hba (fun z hz _ => e3 z hz)) (hS0.put e2 e3 hba) hl
theorem g_putF (hC : gOk X M own cc nL d mc ms) {a ci kf index : Nat} {fs : List Value} {v : Value} {ty : FieldType} {ret : Option FieldType} (hR : gRet X ret "<init>") (hf : gFl own index ci kf ty true) (hdg : decode cc pc = .ok (.putfield index, 3)) (hσ : σ a = some (oB ci fs)) (hl9 : kf < fs.length) (hn : narrow ty v = v) (hfit : fits ty v = true) (hq : pc + 3 = q) (kk : G X M nL Q k n (gUp σ a (oB ci (fs.set kf v))) q lv st) : G X M nL Q k n σ pc lv (v :: .ref a :: st) := by
  subst hq
  obtain ⟨C, T, N, ref, hc, hkN, hlk, hsm, hd, hfin, hown⟩ := hf
  obtain ⟨ty0, hty, hnm⟩ := gCl_ty hc
  intro H locs ls hP hS0 hl
  have hK := hC.k
  have hts := hC.2.2.2.2.1
  have hin := gCl_in hc
  have hap := va_apart (own := own) hts hin ty0 hty hnm hK hc
  obtain ⟨⟨r, h1, cell, q1, q2, q3, q4⟩, hba⟩ := hP a _ hσ
  have hr : r = (C, T, N) := Option.some.inj (h1.symm.trans hc)
  subst hr
  obtain ⟨hS, hfc, kC, hkC, hkind⟩ := hK.1 ci _ hc
  obtain ⟨cf, kf2, fi, f, hi, hsl⟩ := hS kf hkN
  have hlay := hts _ (hin _ (u_in_lay hkN))
  unfold u_lay at hlay
  have hst := (u_facts hfc hkC (u_lays hts hin hkN) hi).1
  have hsame := gFl.same hC hsm
  rw [if_pos hfin] at hlay
  have hcf : (xm X).cls = cf := by
    obtain ⟨_, _, c', _, _, _, -, -, hf', -, -, -, hown2, -⟩ := Cond.laysFinal_spec hlay
    have e1 : c' = cf := by have := hi.symm.trans hf'; simp at this; exact this.1.symm
    have hdecl : (T kf).1 = own := hown rfl
    rw [hdecl] at hown2
    rw [← e1]; exact Option.some.inj (hC.ow.symm.trans hown2)
  have h6 := u_fits hfc hkC hkind (Or.inr hlay) hi hd hn hfit
  refine W.putFinK hC.x hC.b hC.ow (hC.ts hlk) (hsame _ hi) hst hcf hR.2.2 (by rw [q2]; exact h6) q1 q3 (by rw [hsl]; exact k2_hasslot (q4 kf hkN)) rfl rfl hdg fun H' e1 e2 e3 => ?_
  rw [hsl] at e1 ⊢
  exact kk H' _ ls (hP.up (e := oB ci (fs.set kf v)) ⟨_, hc, t_OB.to (V := updV (vp_V fs) kf v) ⟨_, e1, q2, q3, t_set q4 hap hkN v⟩ (fun j _ => vp_updV_set hl9 v j)⟩ hba (fun z hz _ => e3 z hz)) (hS0.put e2 e3 hba) hl
theorem g_putf2 (hC : gOk X M own cc nL d mc ms) {a ci kf index : Nat} {fs : List Value} {v : Value} {ty : FieldType} (hf : gFl own index ci kf ty false) (hdg : decode cc pc = .ok (.putfield index, 3)) (hl9 : kf < fs.length) (hn : narrow ty v = v) (hfit : fits ty v = true) (hq : pc + 3 = q) (kk : G X M nL Q k n (gUp σ a (oB ci (fs.set kf v))) q lv st) : G X M nL Q k n (gUp σ a (oB ci fs)) pc lv (v :: .ref a :: st) := by
  refine g_putf hC hf hdg (gUp_self _ _ _) hl9 hn hfit hq ?_
  rw [gUp_up]
  exact kk
theorem g_putF2 (hC : gOk X M own cc nL d mc ms) {a ci kf index : Nat} {fs : List Value} {v : Value} {ty : FieldType} {ret : Option FieldType} (hR : gRet X ret "<init>") (hf : gFl own index ci kf ty true) (hdg : decode cc pc = .ok (.putfield index, 3)) (hl9 : kf < fs.length) (hn : narrow ty v = v) (hfit : fits ty v = true) (hq : pc + 3 = q) (kk : G X M nL Q k n (gUp σ a (oB ci (fs.set kf v))) q lv st) : G X M nL Q k n (gUp σ a (oB ci fs)) pc lv (v :: .ref a :: st) := by
  refine g_putF hC hR hf hdg (gUp_self _ _ _) hl9 hn hfit hq ?_
  rw [gUp_up]
  exact kk
theorem g_getsE (hC : gOk X M own cc nL d mc ms) {index : Nat} (hlk : Cond.fieldLink own index "java/util/ArrayList" "DEFAULTCAPACITY_EMPTY_ELEMENTDATA" "[Ljava/lang/Object;" ∈ wG) (hdg : decode cc pc = .ok (.getstatic index, 3)) (hq : pc + 3 = q) (kk : G X M nL Q k n σ q lv (.ref (gE M) :: st)) : G X M nL Q k n σ pc lv st := by
  subst hq
  exact fun H locs ls hP hS hl => va_gets hC.x hC.b hC.amb.2.2.1 hS hC.ow (hC.ts hlk) (fun _ h9 => h9) hdg (kk H locs ls hP hS hl)
theorem g_getsC (hC : gOk X M own cc nL d mc ms) {index : Nat} (hlk : Cond.fieldLink own index "java/lang/String" "COMPACT_STRINGS" "Z" ∈ wG) (hdg : decode cc pc = .ok (.getstatic index, 3)) (hq : pc + 3 = q) (kk : G X M nL Q k n σ q lv (.int 1 :: st)) : G X M nL Q k n σ pc lv st := by
  subst hq
  exact fun H locs ls hP hS hl => va_gets hC.x hC.b hC.amb.2.2.2.1 hS hC.ow (hC.ts hlk) (fun _ h9 => h9) hdg (kk H locs ls hP hS hl)
theorem g_iald (hC : gOk X M own cc nL d mc ms) {a len : Nat} {f : Nat → Int32} {i v : Int32} (hdg : decode cc pc = .ok (.iaload, 1)) (hσ : σ a = some (aI M 2 len f)) (hin : vp_in i len) (hv : f i.toNatClampNeg = v) (hq : pc + 1 = q) (kk : G X M nL Q k n σ q lv (.int v :: st)) : G X M nL Q k n σ pc lv (.int i :: .ref a :: st) := by
  subst hq
  subst hv
  exact fun H locs ls hP hS hl => va_iald hC.x hC.b hC.k (hP.one hσ) 0 2 rfl rfl hin hdg (kk H locs ls hP hS hl)
theorem g_iast (hC : gOk X M own cc nL d mc ms) {a len : Nat} {f : Nat → Int32} {i x : Int32} (hdg : decode cc pc = .ok (.iastore, 1)) (hσ : σ a = some (aI M 2 len f)) (hin : vp_in i len) (hq : pc + 1 = q) (kk : G X M nL Q k n (gUp σ a (aI M 2 len (upd f i.toNatClampNeg x))) q lv st) : G X M nL Q k n σ pc lv (.int x :: .int i :: .ref a :: st) := by
  subst hq
  intro H locs ls hP hS hl
  have hba := (hP a _ hσ).2
  refine W.iast hC.x hC.b (hP a _ hσ).1 ((hC.k.2 2 _ rfl).1 len (fun j => .int (f j))) (fun h => by cases h) (by show ¬ (i < 0 ∨ (arrV _ _ _).slots.size ≤ _); rw [arrV_size]; exact hin) rfl rfl hdg fun H1 e z oq => ?_
  refine kk H1 _ ls (hP.up (e := aI M 2 len (upd f i.toNatClampNeg x)) ?_ hba (fun y hy _ => oq y hy)) (hS.put z oq hba) hl
  show H1[a]? = some (vp_cell _ _)
  rw [e]
  show some ((vp_cell _ _).setSlot _ _) = _
  rw [vp_cell_i, vp_cell_i, arrV_store]
  congr 2
  funext y
  by_cases hy : y = i.toNatClampNeg
  · subst hy
    simp [updV, upd]
    try rfl
  · simp [updV, upd, hy]
theorem g_bald (hC : gOk X M own cc nL d mc ms) {a len : Nat} {f : Nat → Int32} {i v : Int32} (hdg : decode cc pc = .ok (.baload, 1)) (hσ : σ a = some (aI M 0 len f)) (hin : vp_in i len) (hv : f i.toNatClampNeg = v) (hq : pc + 1 = q) (kk : G X M nL Q k n σ q lv (.int v :: st)) : G X M nL Q k n σ pc lv (.int i :: .ref a :: st) := by
  subst hq
  subst hv
  exact fun H locs ls hP hS hl => va_bald hC.x hC.b hC.k (hP.one hσ) 0 0 rfl rfl hin hdg (kk H locs ls hP hS hl)
theorem g_bast (hC : gOk X M own cc nL d mc ms) {a len : Nat} {f : Nat → Int32} {i x : Int32} (hdg : decode cc pc = .ok (.bastore, 1)) (hσ : σ a = some (aI M 0 len f)) (hin : vp_in i len) (hq : pc + 1 = q) (kk : G X M nL Q k n (gUp σ a (aI M 0 len (upd f i.toNatClampNeg (vp_nar .byte x)))) q lv st) : G X M nL Q k n σ pc lv (.int x :: .int i :: .ref a :: st) := by
  subst hq
  intro H locs ls hP hS hl
  have hba := (hP a _ hσ).2
  refine W.bast hC.x hC.b (hP a _ hσ).1 ((hC.k.2 0 _ rfl).1 len (fun j => .int (f j))) (fun h => by cases h) (by show ¬ (i < 0 ∨ (arrV _ _ _).slots.size ≤ _); rw [arrV_size]; exact hin) rfl rfl hdg fun H1 e z oq => ?_
  refine kk H1 _ ls (hP.up (e := aI M 0 len (upd f i.toNatClampNeg (vp_nar .byte x))) ?_ hba (fun y hy _ => oq y hy)) (hS.put z oq hba) hl
  show H1[a]? = some (vp_cell _ _)
  rw [e]
  show some ((vp_cell _ _).setSlot _ _) = _
  rw [vp_cell_i, vp_cell_i, arrV_store]
  congr 2
  funext y
  by_cases hy : y = i.toNatClampNeg
  · subst hy
    simp [updV, upd, vp_nar]
    try rfl
  · simp [updV, upd, hy]
theorem g_aald (hC : gOk X M own cc nL d mc ms) {a len : Nat} {f : Nat → Option Nat} {i : Int32} {v : Option Nat} (hdg : decode cc pc = .ok (.aaload, 1)) (hσ : σ a = some (aQ M len f)) (hin : vp_in i len) (hv : f i.toNatClampNeg = v) (hq : pc + 1 = q) (kk : G X M nL Q k n σ q lv (va_rf v :: st)) : G X M nL Q k n σ pc lv (.int i :: .ref a :: st) := by
  subst hq
  subst hv
  exact fun H locs ls hP hS hl => va_aldq hC.x hC.b hC.k (hP.one hσ) 0 5 (C := "java/lang/Object") rfl rfl hin hdg (kk H locs ls hP hS hl)
theorem g_alenI (hC : gOk X M own cc nL d mc ms) {a len t : Nat} {f : Nat → Int32} {v : Int32} (ht : t < 4) (hdg : decode cc pc = .ok (.arraylength, 1)) (hσ : σ a = some (aI M t len f)) (hv : Int32.ofNat len = v) (hq : pc + 1 = q) (kk : G X M nL Q k n σ q lv (.int v :: st)) : G X M nL Q k n σ pc lv (.ref a :: st) := by
  subst hq
  intro H locs ls hP hS hl
  match t, ht with
  | 0, _ => exact va_alen hC.x hC.b hC.k (hP.one hσ) 0 0 (x := (len, .inl f)) rfl rfl hv hdg (kk H locs ls hP hS hl)
  | 1, _ => exact va_alen hC.x hC.b hC.k (hP.one hσ) 0 1 (x := (len, .inl f)) rfl rfl hv hdg (kk H locs ls hP hS hl)
  | 2, _ => exact va_alen hC.x hC.b hC.k (hP.one hσ) 0 2 (x := (len, .inl f)) rfl rfl hv hdg (kk H locs ls hP hS hl)
  | 3, _ => exact va_alen hC.x hC.b hC.k (hP.one hσ) 0 3 (x := (len, .inl f)) rfl rfl hv hdg (kk H locs ls hP hS hl)
theorem g_alenQ (hC : gOk X M own cc nL d mc ms) {a len : Nat} {f : Nat → Option Nat} {v : Int32} (hdg : decode cc pc = .ok (.arraylength, 1)) (hσ : σ a = some (aQ M len f)) (hv : Int32.ofNat len = v) (hq : pc + 1 = q) (kk : G X M nL Q k n σ q lv (.int v :: st)) : G X M nL Q k n σ pc lv (.ref a :: st) := by
  subst hq
  exact fun H locs ls hP hS hl => va_alen hC.x hC.b hC.k (hP.one hσ) 0 5 (x := (len, .inr (.inr (.inr (.inr f))))) rfl rfl hv hdg (kk H locs ls hP hS hl)
/-- the length of ArrayList's empty array -/
theorem g_alenE (hC : gOk X M own cc nL d mc ms) (hdg : decode cc pc = .ok (.arraylength, 1)) (hq : pc + 1 = q) (kk : G X M nL Q k n σ q lv (.int 0 :: st)) : G X M nL Q k n σ pc lv (.ref (gE M) :: st) := by
  subst hq
  intro H locs ls hP hS hl
  obtain ⟨scr, e1, e2, e3⟩ := (hC.at hS).2.1.1
  exact W.alen (n := 0) hC.x hC.b e1 e2 (by rw [e3]; rfl) rfl rfl hdg (kk H locs ls hP hS hl)
def gNw (own : String) (index ci : Nat) (C : String) (T : u_T) (N : Nat) : Prop := gCl[ci]? = some (C, T, N) ∧ Cond.classLink own index C ∈ wG ∧ Cond.instantiable C N ∈ wG ∧ Cond.initialized C ∈ wG
theorem g_new (hC : gOk X M own cc nL d mc ms) {index ci : Nat} {C : String} {T : u_T} {N : Nat} {ty : Nat → FieldType} {fs : List Value} (hw : gNw own index ci C T N) (hty : ∀ j, j < N → parseFieldDescriptor (T j).2.2.1 = some (ty j)) (hdg : decode cc pc = .ok (.new index, 3)) (hfs : ∀ j, j < N → defaultValue (ty j) = vp_V fs j) (h1 : k + 1 ≤ mc) (h2 : n + N ≤ ms) (hq : pc + 3 = q)
    (kk : ∀ a : Nat, σ a = none → G X M nL Q (k + 1) (n + N) (gUp σ a (oB ci fs)) q lv (.ref a :: st)) : G X M nL Q k n σ pc lv st := by
  subst hq
  obtain ⟨hc, w1, w2, w3⟩ := hw
  intro H locs ls hP hS hl
  have hKn := hC.k.1 ci _ hc
  refine W.newcK hC.x hC.b hC.ow (hC.ts w1) (hC.ts w2) (hC.ts w3) rfl hdg (Nat.le_trans h1 hC.2.2.2.2.2.2.2.2.1) (Nat.le_trans h2 hC.2.2.2.2.2.2.2.2.2.1) hKn.2.1 rfl fun H1 kC hkC e1 z1 o1 => ?_
  refine kk H.size hP.fresh H1 locs ls (hP.up (e := oB ci fs) ⟨_, hc, (u_born ty hC.2.2.2.2.1 (gCl_in hc) hKn hkC e1 hty).to hfs⟩ (hC.base _ hS.1) (fun y _ hy => o1 y hy)) ⟨Nat.le_trans hS.1 (by omega), fun x g1 g2 => (o1 x (Nat.lt_of_lt_of_le g1 hS.1)).trans (hS.2.1 x g1 g2), hS.2.2⟩ hl
theorem g_newa (hC : gOk X M own cc nL d mc ms) {atype : ArrayType} {t : Nat} {ty : FieldType} {i : Int32} {len : Nat} {x9 : vp_A} (hw : Cond.arrayClass (newarray.typeOf atype) ∈ wG) (hty : newarray.typeOf atype = ty) (ht : (gTys M)[t]? = some (gk M t, ty)) (hcell : ∀ cA : ClassId, vp_cell cA x9 = arrV cA len (fun _ => defaultValue ty)) (hi : ¬ i < 0) (hlen : i.toNatClampNeg = len) (hb9 : len * componentBytes ty ≤ 536870912) (hdg : decode cc pc = .ok (.newarray atype, 2)) (h1 : k + 1 ≤ mc) (h2 : n + len ≤ ms) (hq : pc + 2 = q)
    (kk : ∀ a : Nat, σ a = none → G X M nL Q (k + 1) (n + len) (gUp σ a (.inl (gk M t, x9))) q lv (.ref a :: st)) : G X M nL Q k n σ pc lv (.int i :: st) := by
  subst hq
  subst hty
  intro H locs ls hP hS hl
  refine va_newaK hC.x hC.b (hC.ts hw) rfl hdg rfl hi hlen hb9 (Nat.le_trans h1 hC.2.2.2.2.2.2.2.2.1) (Nat.le_trans h2 hC.2.2.2.2.2.2.2.2.2.1) rfl fun H1 cA e1 z1 o1 hAr hNm => ?_
  have hRA := (hC.k.2 t _ ht).2
  have hcA : cA = gk M t := by
    have h9 : (xs X).vm.findClass ("[" ++ (newarray.typeOf atype).toString) = some (gk M t) := by cases atype <;> exact hRA
    exact Option.some.inj (hNm.symm.trans h9)
  subst hcA
  refine kk H.size hP.fresh H1 locs ls (hP.up (e := .inl (gk M t, x9)) ?_ (hC.base _ hS.1) (fun y _ hy => o1 y hy)) ⟨Nat.le_trans hS.1 (by omega), fun x g1 g2 => (o1 x (Nat.lt_of_lt_of_le g1 hS.1)).trans (hS.2.1 x g1 g2), hS.2.2⟩ hl
  show H1[H.size]? = some (vp_cell _ _)
  rw [hcell]
  exact e1
end GR
