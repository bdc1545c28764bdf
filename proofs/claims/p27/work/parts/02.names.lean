-- ===== PART A: goes FIRST, ahead of the names: the tables' words, and 'selects' of the private methods out of them =====
/-- a private method of a class that the tables say can be made, by its rows of tables_1 -/
def lw_okq (q : MethodName × Nat) : Prop := (q.1.cls ≠ "java/lang/invoke/MethodHandle" ∧ q.1.cls ≠ "java/lang/invoke/VarHandle") ∧ Cond.instantiable q.1.cls q.2 ∈ tables_1 ∧ Cond.privateMethod q.1 ∈ tables_1 ∧ Cond.instanceMethod q.1 ∈ tables_1
theorem lw_p0 : lw_okq (⟨"java/util/ArrayList", "add", "(Ljava/lang/Object;[Ljava/lang/Object;I)V"⟩, 3) := ⟨⟨by decide +kernel, by decide +kernel⟩, List.mem_of_getElem? (i := 39) (by decide +kernel), List.mem_of_getElem? (i := 139) (by decide +kernel), List.mem_of_getElem? (i := 140) (by decide +kernel)⟩
theorem lw_p1 : lw_okq (⟨"java/util/ArrayList", "grow", "()[Ljava/lang/Object;"⟩, 3) := ⟨⟨by decide +kernel, by decide +kernel⟩, List.mem_of_getElem? (i := 39) (by decide +kernel), List.mem_of_getElem? (i := 143) (by decide +kernel), List.mem_of_getElem? (i := 144) (by decide +kernel)⟩
theorem lw_p2 : lw_okq (⟨"java/util/ArrayList", "grow", "(I)[Ljava/lang/Object;"⟩, 3) := ⟨⟨by decide +kernel, by decide +kernel⟩, List.mem_of_getElem? (i := 39) (by decide +kernel), List.mem_of_getElem? (i := 147) (by decide +kernel), List.mem_of_getElem? (i := 148) (by decide +kernel)⟩
theorem lw_p3 : lw_okq (⟨"java/lang/Throwable", "fillInStackTrace", "(I)Ljava/lang/Throwable;"⟩, 6) := ⟨⟨by decide +kernel, by decide +kernel⟩, List.mem_of_getElem? (i := 319) (by decide +kernel), List.mem_of_getElem? (i := 317) (by decide +kernel), List.mem_of_getElem? (i := 318) (by decide +kernel)⟩
theorem lw_p4 : lw_okq (⟨"AllotmentLedger", "projectOfNumber", "(I)LAllotmentLedger$Project;"⟩, 11) := ⟨⟨by decide +kernel, by decide +kernel⟩, List.mem_of_getElem? (i := 31) (by decide +kernel), List.mem_of_getElem? (i := 461) (by decide +kernel), List.mem_of_getElem? (i := 462) (by decide +kernel)⟩
theorem lw_p5 : lw_okq (⟨"AllotmentLedger", "projectOfPath", "(I)LAllotmentLedger$Project;"⟩, 11) := ⟨⟨by decide +kernel, by decide +kernel⟩, List.mem_of_getElem? (i := 31) (by decide +kernel), List.mem_of_getElem? (i := 493) (by decide +kernel), List.mem_of_getElem? (i := 494) (by decide +kernel)⟩
theorem lw_p6 : lw_okq (⟨"AllotmentLedger", "childOf", "(LAllotmentLedger$Project;C)LAllotmentLedger$Project;"⟩, 11) := ⟨⟨by decide +kernel, by decide +kernel⟩, List.mem_of_getElem? (i := 31) (by decide +kernel), List.mem_of_getElem? (i := 509) (by decide +kernel), List.mem_of_getElem? (i := 510) (by decide +kernel)⟩
theorem lw_p7 : lw_okq (⟨"AllotmentLedger", "canMove", "(LAllotmentLedger$Project;LAllotmentLedger$Project;)Z"⟩, 11) := ⟨⟨by decide +kernel, by decide +kernel⟩, List.mem_of_getElem? (i := 31) (by decide +kernel), List.mem_of_getElem? (i := 513) (by decide +kernel), List.mem_of_getElem? (i := 514) (by decide +kernel)⟩
theorem lw_p8 : lw_okq (⟨"AllotmentLedger", "deepestWithin", "(LAllotmentLedger$Project;)I"⟩, 11) := ⟨⟨by decide +kernel, by decide +kernel⟩, List.mem_of_getElem? (i := 31) (by decide +kernel), List.mem_of_getElem? (i := 521) (by decide +kernel), List.mem_of_getElem? (i := 522) (by decide +kernel)⟩
theorem lw_p9 : lw_okq (⟨"AllotmentLedger", "chargeFilesWithin", "(LAllotmentLedger$Project;I)V"⟩, 11) := ⟨⟨by decide +kernel, by decide +kernel⟩, List.mem_of_getElem? (i := 31) (by decide +kernel), List.mem_of_getElem? (i := 531) (by decide +kernel), List.mem_of_getElem? (i := 532) (by decide +kernel)⟩
theorem lw_p10 : lw_okq (⟨"AllotmentLedger", "blocksUsedBy", "(LAllotmentLedger$StoredFile;)I"⟩, 11) := ⟨⟨by decide +kernel, by decide +kernel⟩, List.mem_of_getElem? (i := 31) (by decide +kernel), List.mem_of_getElem? (i := 536) (by decide +kernel), List.mem_of_getElem? (i := 537) (by decide +kernel)⟩
theorem lw_p11 : lw_okq (⟨"AllotmentLedger", "charge", "(LAllotmentLedger$StoredFile;II)V"⟩, 11) := ⟨⟨by decide +kernel, by decide +kernel⟩, List.mem_of_getElem? (i := 31) (by decide +kernel), List.mem_of_getElem? (i := 541) (by decide +kernel), List.mem_of_getElem? (i := 542) (by decide +kernel)⟩
theorem lw_p12 : lw_okq (⟨"AllotmentLedger", "accountsOf", "(LAllotmentLedger$StoredFile;)Ljava/util/ArrayList;"⟩, 11) := ⟨⟨by decide +kernel, by decide +kernel⟩, List.mem_of_getElem? (i := 31) (by decide +kernel), List.mem_of_getElem? (i := 545) (by decide +kernel), List.mem_of_getElem? (i := 546) (by decide +kernel)⟩
theorem lw_p13 : lw_okq (⟨"AllotmentLedger", "noteOverAccounts", "()V"⟩, 11) := ⟨⟨by decide +kernel, by decide +kernel⟩, List.mem_of_getElem? (i := 31) (by decide +kernel), List.mem_of_getElem? (i := 557) (by decide +kernel), List.mem_of_getElem? (i := 558) (by decide +kernel)⟩
theorem lw_p14 : lw_okq (⟨"AllotmentLedger", "projectsWithin", "(LAllotmentLedger$Project;)I"⟩, 11) := ⟨⟨by decide +kernel, by decide +kernel⟩, List.mem_of_getElem? (i := 31) (by decide +kernel), List.mem_of_getElem? (i := 565) (by decide +kernel), List.mem_of_getElem? (i := 566) (by decide +kernel)⟩
theorem lw_p15 : lw_okq (⟨"AllotmentLedger", "accountOf", "(II)LAllotmentLedger$Account;"⟩, 11) := ⟨⟨by decide +kernel, by decide +kernel⟩, List.mem_of_getElem? (i := 31) (by decide +kernel), List.mem_of_getElem? (i := 585) (by decide +kernel), List.mem_of_getElem? (i := 586) (by decide +kernel)⟩
def lw_privs_1 : List (MethodName × Nat) := [(⟨"java/util/ArrayList", "add", "(Ljava/lang/Object;[Ljava/lang/Object;I)V"⟩, 3), (⟨"java/util/ArrayList", "grow", "()[Ljava/lang/Object;"⟩, 3), (⟨"java/util/ArrayList", "grow", "(I)[Ljava/lang/Object;"⟩, 3), (⟨"java/lang/Throwable", "fillInStackTrace", "(I)Ljava/lang/Throwable;"⟩, 6), (⟨"AllotmentLedger", "projectOfNumber", "(I)LAllotmentLedger$Project;"⟩, 11), (⟨"AllotmentLedger", "projectOfPath", "(I)LAllotmentLedger$Project;"⟩, 11), (⟨"AllotmentLedger", "childOf", "(LAllotmentLedger$Project;C)LAllotmentLedger$Project;"⟩, 11), (⟨"AllotmentLedger", "canMove", "(LAllotmentLedger$Project;LAllotmentLedger$Project;)Z"⟩, 11), (⟨"AllotmentLedger", "deepestWithin", "(LAllotmentLedger$Project;)I"⟩, 11), (⟨"AllotmentLedger", "chargeFilesWithin", "(LAllotmentLedger$Project;I)V"⟩, 11), (⟨"AllotmentLedger", "blocksUsedBy", "(LAllotmentLedger$StoredFile;)I"⟩, 11), (⟨"AllotmentLedger", "charge", "(LAllotmentLedger$StoredFile;II)V"⟩, 11), (⟨"AllotmentLedger", "accountsOf", "(LAllotmentLedger$StoredFile;)Ljava/util/ArrayList;"⟩, 11), (⟨"AllotmentLedger", "noteOverAccounts", "()V"⟩, 11), (⟨"AllotmentLedger", "projectsWithin", "(LAllotmentLedger$Project;)I"⟩, 11), (⟨"AllotmentLedger", "accountOf", "(II)LAllotmentLedger$Account;"⟩, 11)]
theorem lw_r1 : ∀ q ∈ lw_privs_1, lw_okq q := List.forall_mem_cons.mpr ⟨lw_p0, List.forall_mem_cons.mpr ⟨lw_p1, List.forall_mem_cons.mpr ⟨lw_p2, List.forall_mem_cons.mpr ⟨lw_p3, List.forall_mem_cons.mpr ⟨lw_p4, List.forall_mem_cons.mpr ⟨lw_p5, List.forall_mem_cons.mpr ⟨lw_p6, List.forall_mem_cons.mpr ⟨lw_p7, List.forall_mem_cons.mpr ⟨lw_p8, List.forall_mem_cons.mpr ⟨lw_p9, List.forall_mem_cons.mpr ⟨lw_p10, List.forall_mem_cons.mpr ⟨lw_p11, List.forall_mem_cons.mpr ⟨lw_p12, List.forall_mem_cons.mpr ⟨lw_p13, List.forall_mem_cons.mpr ⟨lw_p14, List.forall_mem_cons.mpr ⟨lw_p15, fun _ h => absurd h List.not_mem_nil⟩⟩⟩⟩⟩⟩⟩⟩⟩⟩⟩⟩⟩⟩⟩⟩
theorem lw_p16 : lw_okq (⟨"AllotmentLedger", "barringPlace", "(LAllotmentLedger$StoredFile;II)I"⟩, 11) := ⟨⟨by decide +kernel, by decide +kernel⟩, List.mem_of_getElem? (i := 31) (by decide +kernel), List.mem_of_getElem? (i := 621) (by decide +kernel), List.mem_of_getElem? (i := 622) (by decide +kernel)⟩
theorem lw_p17 : lw_okq (⟨"AllotmentLedger", "liveFile", "(I)LAllotmentLedger$StoredFile;"⟩, 11) := ⟨⟨by decide +kernel, by decide +kernel⟩, List.mem_of_getElem? (i := 31) (by decide +kernel), List.mem_of_getElem? (i := 648) (by decide +kernel), List.mem_of_getElem? (i := 649) (by decide +kernel)⟩
theorem lw_p18 : lw_okq (⟨"AllotmentLedger", "countsIn", "(LAllotmentLedger$StoredFile;LAllotmentLedger$Account;)Z"⟩, 11) := ⟨⟨by decide +kernel, by decide +kernel⟩, List.mem_of_getElem? (i := 31) (by decide +kernel), List.mem_of_getElem? (i := 745) (by decide +kernel), List.mem_of_getElem? (i := 746) (by decide +kernel)⟩
theorem lw_p19 : lw_okq (⟨"AllotmentLedger", "take", "(LAllotmentLedger$StoredFile;)V"⟩, 11) := ⟨⟨by decide +kernel, by decide +kernel⟩, List.mem_of_getElem? (i := 31) (by decide +kernel), List.mem_of_getElem? (i := 774) (by decide +kernel), List.mem_of_getElem? (i := 775) (by decide +kernel)⟩
def lw_privs_2 : List (MethodName × Nat) := [(⟨"AllotmentLedger", "barringPlace", "(LAllotmentLedger$StoredFile;II)I"⟩, 11), (⟨"AllotmentLedger", "liveFile", "(I)LAllotmentLedger$StoredFile;"⟩, 11), (⟨"AllotmentLedger", "countsIn", "(LAllotmentLedger$StoredFile;LAllotmentLedger$Account;)Z"⟩, 11), (⟨"AllotmentLedger", "take", "(LAllotmentLedger$StoredFile;)V"⟩, 11)]
theorem lw_r2 : ∀ q ∈ lw_privs_2, lw_okq q := List.forall_mem_cons.mpr ⟨lw_p16, List.forall_mem_cons.mpr ⟨lw_p17, List.forall_mem_cons.mpr ⟨lw_p18, List.forall_mem_cons.mpr ⟨lw_p19, fun _ h => absurd h List.not_mem_nil⟩⟩⟩⟩
def lw_privs : List (MethodName × Nat) := lw_privs_1 ++ (lw_privs_2)
def lw_tbl : List Cond := k2_sels lw_privs ++ tables_1
theorem lw_privs_ok : ∀ q ∈ lw_privs, lw_okq q := by
  show ∀ q ∈ lw_privs_1 ++ (lw_privs_2), lw_okq q
  exact List.forall_mem_append.mpr ⟨lw_r1, lw_r2⟩
-- ===== end of PART A; then your names; then what follows =====
def RX0 : String := "AllotmentLedger$Account"
def TX0 : u_T := fun k => match k with
  | 0 => ("AllotmentLedger$Account", "softLimit", "I", false)
  | 1 => ("AllotmentLedger$Account", "hardLimit", "I", false)
  | 2 => ("AllotmentLedger$Account", "fileLimit", "I", false)
  | 3 => ("AllotmentLedger$Account", "usedBlocks", "I", false)
  | 4 => ("AllotmentLedger$Account", "files", "I", false)
  | 5 => ("AllotmentLedger$Account", "countedBlocks", "I", false)
  | 6 => ("AllotmentLedger$Account", "over", "Z", false)
  | _ => ("AllotmentLedger$Account", "overSince", "I", false)
def tyX0 : Nat → FieldType := fun k => match k with
  | 0 => .int
  | 1 => .int
  | 2 => .int
  | 3 => .int
  | 4 => .int
  | 5 => .int
  | 6 => .boolean
  | _ => .int
abbrev wsX00 : List Cond := u_ws RX0 TX0 8
theorem nmX0 : ∀ a, a < 8 → ∀ b, b < 8 → a ≠ b → (TX0 a).2.1 ≠ (TX0 b).2.1 := by decide +kernel
theorem tyX0_ok : ∀ k, k < 8 → parseFieldDescriptor (TX0 k).2.2.1 = some (tyX0 k) := by decide +kernel
abbrev cX0_init : ByteArray := prog_2_method_1_code
def yX0_init : MethodName := ⟨RX0, "<init>", "()V"⟩
abbrev cX0_add : ByteArray := prog_2_method_2_code
def yX0_add : MethodName := ⟨RX0, "add", "(II)V"⟩
abbrev cX0_noteOver : ByteArray := prog_2_method_3_code
def yX0_noteOver : MethodName := ⟨RX0, "noteOver", "(I)V"⟩
abbrev cX0_graceLeft : ByteArray := prog_2_method_4_code
def yX0_graceLeft : MethodName := ⟨RX0, "graceLeft", "(I)I"⟩
abbrev cX0_blocksLeft : ByteArray := prog_2_method_5_code
def yX0_blocksLeft : MethodName := ⟨RX0, "blocksLeft", "(I)I"⟩
abbrev cX0_bars : ByteArray := prog_2_method_6_code
def yX0_bars : MethodName := ⟨RX0, "bars", "(III)Z"⟩
def RX1 : String := "AllotmentLedger$Project"
def TX1 : u_T := fun k => match k with
  | 0 => ("AllotmentLedger$Project", "number", "I", true)
  | 1 => ("AllotmentLedger$Project", "letter", "C", true)
  | 2 => ("AllotmentLedger$Project", "account", "LAllotmentLedger$Account;", true)
  | _ => ("AllotmentLedger$Project", "parent", "LAllotmentLedger$Project;", false)
def tyX1 : Nat → FieldType := fun k => match k with
  | 0 => .int
  | 1 => .char
  | 2 => .object "AllotmentLedger$Account"
  | _ => .object "AllotmentLedger$Project"
abbrev wsX10 : List Cond := u_ws RX1 TX1 4
theorem nmX1 : ∀ a, a < 4 → ∀ b, b < 4 → a ≠ b → (TX1 a).2.1 ≠ (TX1 b).2.1 := by decide +kernel
theorem tyX1_ok : ∀ k, k < 4 → parseFieldDescriptor (TX1 k).2.2.1 = some (tyX1 k) := by decide +kernel
abbrev cX1_init : ByteArray := prog_3_method_1_code
def yX1_init : MethodName := ⟨RX1, "<init>", "(ILAllotmentLedger$Project;C)V"⟩
abbrev cX1_letters : ByteArray := prog_3_method_2_code
def yX1_letters : MethodName := ⟨RX1, "letters", "()I"⟩
abbrev cX1_isWithin : ByteArray := prog_3_method_3_code
def yX1_isWithin : MethodName := ⟨RX1, "isWithin", "(LAllotmentLedger$Project;)Z"⟩
def RX2 : String := "AllotmentLedger$Reservation"
def TX2 : u_T := fun k => match k with
  | 0 => ("AllotmentLedger$Reservation", "file", "LAllotmentLedger$StoredFile;", true)
  | 1 => ("AllotmentLedger$Reservation", "blocks", "I", true)
  | _ => ("AllotmentLedger$Reservation", "open", "Z", false)
def tyX2 : Nat → FieldType := fun k => match k with
  | 0 => .object "AllotmentLedger$StoredFile"
  | 1 => .int
  | _ => .boolean
abbrev wsX20 : List Cond := u_ws RX2 TX2 3
theorem nmX2 : ∀ a, a < 3 → ∀ b, b < 3 → a ≠ b → (TX2 a).2.1 ≠ (TX2 b).2.1 := by decide +kernel
theorem tyX2_ok : ∀ k, k < 3 → parseFieldDescriptor (TX2 k).2.2.1 = some (tyX2 k) := by decide +kernel
abbrev cX2_init : ByteArray := prog_4_method_1_code
def yX2_init : MethodName := ⟨RX2, "<init>", "(LAllotmentLedger$StoredFile;I)V"⟩
def RX3 : String := "AllotmentLedger$StoredFile"
def TX3 : u_T := fun k => match k with
  | 0 => ("AllotmentLedger$StoredFile", "number", "I", true)
  | 1 => ("AllotmentLedger$StoredFile", "owner", "LAllotmentLedger$Account;", true)
  | 2 => ("AllotmentLedger$StoredFile", "group", "LAllotmentLedger$Account;", true)
  | 3 => ("AllotmentLedger$StoredFile", "project", "LAllotmentLedger$Project;", false)
  | 4 => ("AllotmentLedger$StoredFile", "blocks", "I", false)
  | _ => ("AllotmentLedger$StoredFile", "deleted", "Z", false)
def tyX3 : Nat → FieldType := fun k => match k with
  | 0 => .int
  | 1 => .object "AllotmentLedger$Account"
  | 2 => .object "AllotmentLedger$Account"
  | 3 => .object "AllotmentLedger$Project"
  | 4 => .int
  | _ => .boolean
abbrev wsX30 : List Cond := u_ws RX3 TX3 6
theorem nmX3 : ∀ a, a < 6 → ∀ b, b < 6 → a ≠ b → (TX3 a).2.1 ≠ (TX3 b).2.1 := by decide +kernel
theorem tyX3_ok : ∀ k, k < 6 → parseFieldDescriptor (TX3 k).2.2.1 = some (tyX3 k) := by decide +kernel
abbrev cX3_init : ByteArray := prog_5_method_1_code
def yX3_init : MethodName := ⟨RX3, "<init>", "(ILAllotmentLedger$Account;LAllotmentLedger$Account;LAllotmentLedger$Project;)V"⟩
def RX4 : String := "AllotmentLedger"
def TX4 : u_T := fun k => match k with
  | 0 => ("AllotmentLedger", "users", "Ljava/util/ArrayList;", true)
  | 1 => ("AllotmentLedger", "groups", "Ljava/util/ArrayList;", true)
  | 2 => ("AllotmentLedger", "tree", "Ljava/util/ArrayList;", true)
  | 3 => ("AllotmentLedger", "store", "Ljava/util/ArrayList;", true)
  | 4 => ("AllotmentLedger", "reservations", "Ljava/util/ArrayList;", true)
  | 5 => ("AllotmentLedger", "root", "LAllotmentLedger$Project;", true)
  | 6 => ("AllotmentLedger", "path", "Ljava/lang/StringBuilder;", true)
  | 7 => ("AllotmentLedger", "accountRow", "Ljava/util/ArrayList;", true)
  | 8 => ("AllotmentLedger", "clock", "I", false)
  | 9 => ("AllotmentLedger", "recountBegun", "Z", false)
  | _ => ("AllotmentLedger", "takenFiles", "I", false)
def tyX4 : Nat → FieldType := fun k => match k with
  | 0 => .object "java/util/ArrayList"
  | 1 => .object "java/util/ArrayList"
  | 2 => .object "java/util/ArrayList"
  | 3 => .object "java/util/ArrayList"
  | 4 => .object "java/util/ArrayList"
  | 5 => .object "AllotmentLedger$Project"
  | 6 => .object "java/lang/StringBuilder"
  | 7 => .object "java/util/ArrayList"
  | 8 => .int
  | 9 => .boolean
  | _ => .int
abbrev wsX40 : List Cond := u_ws RX4 TX4 11
theorem nmX4 : ∀ a, a < 11 → ∀ b, b < 11 → a ≠ b → (TX4 a).2.1 ≠ (TX4 b).2.1 := by decide +kernel
theorem tyX4_ok : ∀ k, k < 11 → parseFieldDescriptor (TX4 k).2.2.1 = some (tyX4 k) := by decide +kernel
abbrev cX4_init : ByteArray := prog_1_method_1_code
def yX4_init : MethodName := ⟨RX4, "<init>", "()V"⟩
abbrev cX4_type : ByteArray := prog_1_method_2_code
def yX4_type : MethodName := ⟨RX4, "type", "(C)I"⟩
abbrev cX4_back : ByteArray := prog_1_method_3_code
def yX4_back : MethodName := ⟨RX4, "back", "()I"⟩
abbrev cX4_clearPath : ByteArray := prog_1_method_4_code
def yX4_clearPath : MethodName := ⟨RX4, "clearPath", "()I"⟩
abbrev cX4_makeProject : ByteArray := prog_1_method_5_code
def yX4_makeProject : MethodName := ⟨RX4, "makeProject", "()I"⟩
abbrev cX4_findProject : ByteArray := prog_1_method_6_code
def yX4_findProject : MethodName := ⟨RX4, "findProject", "()I"⟩
abbrev cX4_moveProject : ByteArray := prog_1_method_7_code
def yX4_moveProject : MethodName := ⟨RX4, "moveProject", "(I)I"⟩
abbrev cX4_letterAt : ByteArray := prog_1_method_8_code
def yX4_letterAt : MethodName := ⟨RX4, "letterAt", "(II)C"⟩
abbrev cX4_projects : ByteArray := prog_1_method_9_code
def yX4_projects : MethodName := ⟨RX4, "projects", "()I"⟩
abbrev cX4_makeFile : ByteArray := prog_1_method_10_code
def yX4_makeFile : MethodName := ⟨RX4, "makeFile", "(II)I"⟩
abbrev cX4_write : ByteArray := prog_1_method_11_code
def yX4_write : MethodName := ⟨RX4, "write", "(II)I"⟩
abbrev cX4_delete : ByteArray := prog_1_method_12_code
def yX4_delete : MethodName := ⟨RX4, "delete", "(I)I"⟩
abbrev cX4_moveFile : ByteArray := prog_1_method_13_code
def yX4_moveFile : MethodName := ⟨RX4, "moveFile", "(II)I"⟩
abbrev cX4_reserve : ByteArray := prog_1_method_14_code
def yX4_reserve : MethodName := ⟨RX4, "reserve", "(II)I"⟩
abbrev cX4_settle : ByteArray := prog_1_method_15_code
def yX4_settle : MethodName := ⟨RX4, "settle", "(II)I"⟩
abbrev cX4_setLimits : ByteArray := prog_1_method_16_code
def yX4_setLimits : MethodName := ⟨RX4, "setLimits", "(IIIII)V"⟩
abbrev cX4_pass : ByteArray := prog_1_method_17_code
def yX4_pass : MethodName := ⟨RX4, "pass", "(I)I"⟩
abbrev cX4_used : ByteArray := prog_1_method_18_code
def yX4_used : MethodName := ⟨RX4, "used", "(II)I"⟩
abbrev cX4_filesOf : ByteArray := prog_1_method_19_code
def yX4_filesOf : MethodName := ⟨RX4, "filesOf", "(II)I"⟩
abbrev cX4_usedByFiles : ByteArray := prog_1_method_20_code
def yX4_usedByFiles : MethodName := ⟨RX4, "usedByFiles", "(II)I"⟩
abbrev cX4_grace : ByteArray := prog_1_method_21_code
def yX4_grace : MethodName := ⟨RX4, "grace", "(II)I"⟩
abbrev cX4_room : ByteArray := prog_1_method_22_code
def yX4_room : MethodName := ⟨RX4, "room", "(I)I"⟩
abbrev cX4_beginRecount : ByteArray := prog_1_method_23_code
def yX4_beginRecount : MethodName := ⟨RX4, "beginRecount", "()I"⟩
abbrev cX4_recount : ByteArray := prog_1_method_24_code
def yX4_recount : MethodName := ⟨RX4, "recount", "(I)I"⟩
abbrev cX4_counted : ByteArray := prog_1_method_25_code
def yX4_counted : MethodName := ⟨RX4, "counted", "(II)I"⟩
abbrev cX4_projectOfNumber : ByteArray := prog_1_method_26_code
def yX4_projectOfNumber : MethodName := ⟨RX4, "projectOfNumber", "(I)LAllotmentLedger$Project;"⟩
abbrev cX4_projectOfPath : ByteArray := prog_1_method_27_code
def yX4_projectOfPath : MethodName := ⟨RX4, "projectOfPath", "(I)LAllotmentLedger$Project;"⟩
abbrev cX4_childOf : ByteArray := prog_1_method_28_code
def yX4_childOf : MethodName := ⟨RX4, "childOf", "(LAllotmentLedger$Project;C)LAllotmentLedger$Project;"⟩
abbrev cX4_liveFile : ByteArray := prog_1_method_29_code
def yX4_liveFile : MethodName := ⟨RX4, "liveFile", "(I)LAllotmentLedger$StoredFile;"⟩
abbrev cX4_accountOf : ByteArray := prog_1_method_30_code
def yX4_accountOf : MethodName := ⟨RX4, "accountOf", "(II)LAllotmentLedger$Account;"⟩
abbrev cX4_accountsOf : ByteArray := prog_1_method_31_code
def yX4_accountsOf : MethodName := ⟨RX4, "accountsOf", "(LAllotmentLedger$StoredFile;)Ljava/util/ArrayList;"⟩
abbrev cX4_countsIn : ByteArray := prog_1_method_32_code
def yX4_countsIn : MethodName := ⟨RX4, "countsIn", "(LAllotmentLedger$StoredFile;LAllotmentLedger$Account;)Z"⟩
abbrev cX4_blocksUsedBy : ByteArray := prog_1_method_33_code
def yX4_blocksUsedBy : MethodName := ⟨RX4, "blocksUsedBy", "(LAllotmentLedger$StoredFile;)I"⟩
abbrev cX4_canMove : ByteArray := prog_1_method_34_code
def yX4_canMove : MethodName := ⟨RX4, "canMove", "(LAllotmentLedger$Project;LAllotmentLedger$Project;)Z"⟩
abbrev cX4_deepestWithin : ByteArray := prog_1_method_35_code
def yX4_deepestWithin : MethodName := ⟨RX4, "deepestWithin", "(LAllotmentLedger$Project;)I"⟩
abbrev cX4_projectsWithin : ByteArray := prog_1_method_36_code
def yX4_projectsWithin : MethodName := ⟨RX4, "projectsWithin", "(LAllotmentLedger$Project;)I"⟩
abbrev cX4_chargeFilesWithin : ByteArray := prog_1_method_37_code
def yX4_chargeFilesWithin : MethodName := ⟨RX4, "chargeFilesWithin", "(LAllotmentLedger$Project;I)V"⟩
abbrev cX4_charge : ByteArray := prog_1_method_38_code
def yX4_charge : MethodName := ⟨RX4, "charge", "(LAllotmentLedger$StoredFile;II)V"⟩
abbrev cX4_take : ByteArray := prog_1_method_39_code
def yX4_take : MethodName := ⟨RX4, "take", "(LAllotmentLedger$StoredFile;)V"⟩
abbrev cX4_noteOverAccounts : ByteArray := prog_1_method_40_code
def yX4_noteOverAccounts : MethodName := ⟨RX4, "noteOverAccounts", "()V"⟩
abbrev cX4_barringPlace : ByteArray := prog_1_method_41_code
def yX4_barringPlace : MethodName := ⟨RX4, "barringPlace", "(LAllotmentLedger$StoredFile;II)I"⟩
abbrev cX4_barredAnswer : ByteArray := prog_1_method_42_code
def yX4_barredAnswer : MethodName := ⟨RX4, "barredAnswer", "(I)I"⟩
abbrev cX4_isLimit : ByteArray := prog_1_method_43_code
def yX4_isLimit : MethodName := ⟨RX4, "isLimit", "(II)Z"⟩
def RX5 : String := "AllotmentLedgerModel"
def TX5 : u_T := fun k => match k with
  | _ => ("", "", "", false)
def tyX5 : Nat → FieldType := fun k => match k with
  | _ => .int
abbrev wsX50 : List Cond := u_ws RX5 TX5 0
theorem nmX5 : ∀ a, a < 0 → ∀ b, b < 0 → a ≠ b → (TX5 a).2.1 ≠ (TX5 b).2.1 := by decide +kernel
theorem tyX5_ok : ∀ k, k < 0 → parseFieldDescriptor (TX5 k).2.2.1 = some (tyX5 k) := by decide +kernel
def RJ5 : String := "java/lang/AbstractStringBuilder"
abbrev cJ5_init_d00df : ByteArray := prog_9_method_2_code
def yJ5_init_d00df : MethodName := ⟨RJ5, "<init>", "(I)V"⟩
abbrev cJ5_length_8abf5 : ByteArray := prog_9_method_6_code
def yJ5_length_8abf5 : MethodName := ⟨RJ5, "length", "()I"⟩
abbrev cJ5_ensureCapacityInternal_d00df : ByteArray := prog_9_method_9_code
def yJ5_ensureCapacityInternal_d00df : MethodName := ⟨RJ5, "ensureCapacityInternal", "(I)V"⟩
abbrev cJ5_setLength_d00df : ByteArray := prog_9_method_13_code
def yJ5_setLength_d00df : MethodName := ⟨RJ5, "setLength", "(I)V"⟩
abbrev cJ5_charAt_5068e : ByteArray := prog_9_method_14_code
def yJ5_charAt_5068e : MethodName := ⟨RJ5, "charAt", "(I)C"⟩
abbrev cJ5_append_3fe6f : ByteArray := prog_9_method_31_code
def yJ5_append_3fe6f : MethodName := ⟨RJ5, "append", "(C)Ljava/lang/AbstractStringBuilder;"⟩
abbrev cJ5_isLatin1_aae02 : ByteArray := prog_9_method_68_code
def yJ5_isLatin1_aae02 : MethodName := ⟨RJ5, "isLatin1", "()Z"⟩
def RJ9 : String := "java/lang/Math"
abbrev cJ9_max_7cf53 : ByteArray := prog_21_method_65_code
def yJ9_max_7cf53 : MethodName := ⟨RJ9, "max", "(II)I"⟩
abbrev cJ9_min_7cf53 : ByteArray := prog_21_method_69_code
def yJ9_min_7cf53 : MethodName := ⟨RJ9, "min", "(II)I"⟩
def RJ0 : String := "java/lang/String"
abbrev cJ0_checkIndex_df160 : ByteArray := prog_24_method_155_code
def yJ0_checkIndex_df160 : MethodName := ⟨RJ0, "checkIndex", "(II)V"⟩
def RJ4 : String := "java/lang/StringBuilder"
def TJ4 : u_T := fun k => match k with
  | 0 => ("java/lang/AbstractStringBuilder", "value", "[B", false)
  | 1 => ("java/lang/AbstractStringBuilder", "coder", "B", false)
  | 2 => ("java/lang/AbstractStringBuilder", "maybeLatin1", "Z", false)
  | _ => ("java/lang/AbstractStringBuilder", "count", "I", false)
def tyJ4 : Nat → FieldType := fun k => match k with
  | 0 => .array .byte
  | 1 => .byte
  | 2 => .boolean
  | _ => .int
abbrev wsJ40 : List Cond := u_ws RJ4 TJ4 4
theorem nmJ4 : ∀ a, a < 4 → ∀ b, b < 4 → a ≠ b → (TJ4 a).2.1 ≠ (TJ4 b).2.1 := by decide +kernel
theorem tyJ4_ok : ∀ k, k < 4 → parseFieldDescriptor (TJ4 k).2.2.1 = some (tyJ4 k) := by decide +kernel
abbrev cJ4_init_da8c8 : ByteArray := prog_25_method_1_code
def yJ4_init_da8c8 : MethodName := ⟨RJ4, "<init>", "()V"⟩
abbrev cJ4_append_cf468 : ByteArray := prog_25_method_14_code
def yJ4_append_cf468 : MethodName := ⟨RJ4, "append", "(C)Ljava/lang/StringBuilder;"⟩
abbrev cJ4_charAt_5068e : ByteArray := prog_25_method_88_code
def yJ4_charAt_5068e : MethodName := ⟨RJ4, "charAt", "(I)C"⟩
abbrev cJ4_setLength_d00df : ByteArray := prog_25_method_89_code
def yJ4_setLength_d00df : MethodName := ⟨RJ4, "setLength", "(I)V"⟩
abbrev cJ4_length_8abf5 : ByteArray := prog_25_method_93_code
def yJ4_length_8abf5 : MethodName := ⟨RJ4, "length", "()I"⟩
def RJ1 : String := "java/lang/StringLatin1"
abbrev cJ1_canEncode_fc78d : ByteArray := prog_27_method_3_code
def yJ1_canEncode_fc78d : MethodName := ⟨RJ1, "canEncode", "(C)Z"⟩
def RJxa1e45 : String := "java/util/AbstractCollection"
abbrev cJxa1e45_init_da8c8 : ByteArray := prog_33_method_1_code
def yJxa1e45_init_da8c8 : MethodName := ⟨RJxa1e45, "<init>", "()V"⟩
def RJxc12de : String := "java/util/AbstractList"
abbrev cJxc12de_init_da8c8 : ByteArray := prog_34_method_1_code
def yJxc12de_init_da8c8 : MethodName := ⟨RJxc12de, "<init>", "()V"⟩
def RJx4a65c : String := "java/util/ArrayList"
def TJx4a65c : u_T := fun k => match k with
  | 0 => ("java/util/AbstractList", "modCount", "I", false)
  | 1 => ("java/util/ArrayList", "elementData", "[Ljava/lang/Object;", false)
  | _ => ("java/util/ArrayList", "size", "I", false)
def tyJx4a65c : Nat → FieldType := fun k => match k with
  | 0 => .int
  | 1 => .array (.object "java/lang/Object")
  | _ => .int
abbrev wsJx4a65c0 : List Cond := u_ws RJx4a65c TJx4a65c 3
theorem nmJx4a65c : ∀ a, a < 3 → ∀ b, b < 3 → a ≠ b → (TJx4a65c a).2.1 ≠ (TJx4a65c b).2.1 := by decide +kernel
theorem tyJx4a65c_ok : ∀ k, k < 3 → parseFieldDescriptor (TJx4a65c k).2.2.1 = some (tyJx4a65c k) := by decide +kernel
abbrev cJx4a65c_init_da8c8 : ByteArray := prog_35_method_2_code
def yJx4a65c_init_da8c8 : MethodName := ⟨RJx4a65c, "<init>", "()V"⟩
abbrev cJx4a65c_grow_92f84 : ByteArray := prog_35_method_6_code
def yJx4a65c_grow_92f84 : MethodName := ⟨RJx4a65c, "grow", "(I)[Ljava/lang/Object;"⟩
abbrev cJx4a65c_grow_d5877 : ByteArray := prog_35_method_7_code
def yJx4a65c_grow_d5877 : MethodName := ⟨RJx4a65c, "grow", "()[Ljava/lang/Object;"⟩
abbrev cJx4a65c_size_8abf5 : ByteArray := prog_35_method_8_code
def yJx4a65c_size_8abf5 : MethodName := ⟨RJx4a65c, "size", "()I"⟩
abbrev cJx4a65c_elementData_915e3 : ByteArray := prog_35_method_18_code
def yJx4a65c_elementData_915e3 : MethodName := ⟨RJx4a65c, "elementData", "(I)Ljava/lang/Object;"⟩
abbrev cJx4a65c_get_915e3 : ByteArray := prog_35_method_20_code
def yJx4a65c_get_915e3 : MethodName := ⟨RJx4a65c, "get", "(I)Ljava/lang/Object;"⟩
abbrev cJx4a65c_add_72be8 : ByteArray := prog_35_method_24_code
def yJx4a65c_add_72be8 : MethodName := ⟨RJx4a65c, "add", "(Ljava/lang/Object;[Ljava/lang/Object;I)V"⟩
abbrev cJx4a65c_add_9ea2d : ByteArray := prog_35_method_25_code
def yJx4a65c_add_9ea2d : MethodName := ⟨RJx4a65c, "add", "(Ljava/lang/Object;)Z"⟩
abbrev cJx4a65c_clear_da8c8 : ByteArray := prog_35_method_40_code
def yJx4a65c_clear_da8c8 : MethodName := ⟨RJx4a65c, "clear", "()V"⟩
def RJ7 : String := "java/util/Arrays"
abbrev cJ7_copyOf_1904c : ByteArray := prog_36_method_119_code
def yJ7_copyOf_1904c : MethodName := ⟨RJ7, "copyOf", "([Ljava/lang/Object;I)[Ljava/lang/Object;"⟩
abbrev cJ7_copyOf_6403c : ByteArray := prog_36_method_120_code
def yJ7_copyOf_6403c : MethodName := ⟨RJ7, "copyOf", "([Ljava/lang/Object;ILjava/lang/Class;)[Ljava/lang/Object;"⟩
def RJ15 : String := "java/util/Objects"
abbrev cJ15_checkIndex_7cf53 : ByteArray := prog_39_method_17_code
def yJ15_checkIndex_7cf53 : MethodName := ⟨RJ15, "checkIndex", "(II)I"⟩
def RJ8 : String := "jdk/internal/util/ArraysSupport"
abbrev cJ8_newLength_cabcc : ByteArray := prog_42_method_27_code
def yJ8_newLength_cabcc : MethodName := ⟨RJ8, "newLength", "(III)I"⟩
def RJ3 : String := "jdk/internal/util/Preconditions"
abbrev cJ3_checkIndex_8e157 : ByteArray := prog_43_method_11_code
def yJ3_checkIndex_8e157 : MethodName := ⟨RJ3, "checkIndex", "(IILjava/util/function/BiFunction;)I"⟩
def RL : String := "AllotmentLedgerLaw"
abbrev cL_types : ByteArray := method_2_code
def yL_types : MethodName := ⟨RL, "types", "(LAllotmentLedger;C)I"⟩
abbrev cL_backs : ByteArray := method_3_code
def yL_backs : MethodName := ⟨RL, "backs", "(LAllotmentLedger;)I"⟩
abbrev cL_makes : ByteArray := method_4_code
def yL_makes : MethodName := ⟨RL, "makes", "(LAllotmentLedger;)I"⟩
abbrev cL_movesProject : ByteArray := method_5_code
def yL_movesProject : MethodName := ⟨RL, "movesProject", "(LAllotmentLedger;I)I"⟩
abbrev cL_letter : ByteArray := method_6_code
def yL_letter : MethodName := ⟨RL, "letter", "(LAllotmentLedger;II)I"⟩
abbrev cL_makesFile : ByteArray := method_7_code
def yL_makesFile : MethodName := ⟨RL, "makesFile", "(LAllotmentLedger;II)I"⟩
abbrev cL_writes : ByteArray := method_8_code
def yL_writes : MethodName := ⟨RL, "writes", "(LAllotmentLedger;II)I"⟩
abbrev cL_deletes : ByteArray := method_9_code
def yL_deletes : MethodName := ⟨RL, "deletes", "(LAllotmentLedger;I)I"⟩
abbrev cL_movesFile : ByteArray := method_10_code
def yL_movesFile : MethodName := ⟨RL, "movesFile", "(LAllotmentLedger;II)I"⟩
abbrev cL_reserves : ByteArray := method_11_code
def yL_reserves : MethodName := ⟨RL, "reserves", "(LAllotmentLedger;II)I"⟩
abbrev cL_settles : ByteArray := method_12_code
def yL_settles : MethodName := ⟨RL, "settles", "(LAllotmentLedger;II)I"⟩
abbrev cL_limits : ByteArray := method_13_code
def yL_limits : MethodName := ⟨RL, "limits", "(LAllotmentLedger;IIIII)I"⟩
abbrev cL_passes : ByteArray := method_14_code
def yL_passes : MethodName := ⟨RL, "passes", "(LAllotmentLedger;I)I"⟩
abbrev cL_used : ByteArray := method_15_code
def yL_used : MethodName := ⟨RL, "used", "(LAllotmentLedger;II)I"⟩
abbrev cL_files : ByteArray := method_16_code
def yL_files : MethodName := ⟨RL, "files", "(LAllotmentLedger;II)I"⟩
abbrev cL_usedAnew : ByteArray := method_17_code
def yL_usedAnew : MethodName := ⟨RL, "usedAnew", "(LAllotmentLedger;II)I"⟩
abbrev cL_grace : ByteArray := method_18_code
def yL_grace : MethodName := ⟨RL, "grace", "(LAllotmentLedger;II)I"⟩
abbrev cL_room : ByteArray := method_19_code
def yL_room : MethodName := ⟨RL, "room", "(LAllotmentLedger;I)I"⟩
abbrev cL_recounts : ByteArray := method_20_code
def yL_recounts : MethodName := ⟨RL, "recounts", "(LAllotmentLedger;I)I"⟩
abbrev cL_counted : ByteArray := method_21_code
def yL_counted : MethodName := ⟨RL, "counted", "(LAllotmentLedger;II)I"⟩
abbrev cL_drawn : ByteArray := method_22_code
def yL_drawn : MethodName := ⟨RL, "drawn", "([II)I"⟩
abbrev cL_refuses : ByteArray := method_23_code
def yL_refuses : MethodName := ⟨RL, "refuses", "(LAllotmentLedger;[II)Z"⟩
abbrev cL_act : ByteArray := method_24_code
def yL_act : MethodName := ⟨RL, "act", "(LAllotmentLedger;I)I"⟩
abbrev cL_alike : ByteArray := method_25_code
def yL_alike : MethodName := ⟨RL, "alike", "(LAllotmentLedger;LAllotmentLedger;)Z"⟩
abbrev cL_isIn : ByteArray := method_26_code
def yL_isIn : MethodName := ⟨RL, "isIn", "(LAllotmentLedger;II)Z"⟩
abbrev cL_holds : ByteArray := method_27_code
def yL_holds : MethodName := ⟨RL, "holds", "(LAllotmentLedger;)Z"⟩
abbrev cL_isFound : ByteArray := method_28_code
def yL_isFound : MethodName := ⟨RL, "isFound", "(LAllotmentLedger;I)Z"⟩
abbrev cL_law : ByteArray := code
def yL_law : MethodName := ⟨RL, "law", "([I)Z"⟩
theorem dX0_init_0 : decode cX0_init 0 = .ok (.aload_n 0, 1) := by decide +kernel
theorem dX0_init_1 : decode cX0_init 1 = .ok (.invokespecial 3, 3) := by decide +kernel
theorem dX0_init_4 : decode cX0_init 4 = .ok (.aload_n 0, 1) := by decide +kernel
theorem dX0_init_5 : decode cX0_init 5 = .ok (.iconst (-1), 1) := by decide +kernel
theorem dX0_init_6 : decode cX0_init 6 = .ok (.putfield 9, 3) := by decide +kernel
theorem dX0_init_9 : decode cX0_init 9 = .ok (.aload_n 0, 1) := by decide +kernel
theorem dX0_init_10 : decode cX0_init 10 = .ok (.iconst (-1), 1) := by decide +kernel
theorem dX0_init_11 : decode cX0_init 11 = .ok (.putfield 15, 3) := by decide +kernel
theorem dX0_init_14 : decode cX0_init 14 = .ok (.aload_n 0, 1) := by decide +kernel
theorem dX0_init_15 : decode cX0_init 15 = .ok (.iconst (-1), 1) := by decide +kernel
theorem dX0_init_16 : decode cX0_init 16 = .ok (.putfield 18, 3) := by decide +kernel
theorem dX0_init_19 : decode cX0_init 19 = .ok (.aload_n 0, 1) := by decide +kernel
theorem dX0_init_20 : decode cX0_init 20 = .ok (.iconst 0, 1) := by decide +kernel
theorem dX0_init_21 : decode cX0_init 21 = .ok (.putfield 21, 3) := by decide +kernel
theorem dX0_init_24 : decode cX0_init 24 = .ok (.aload_n 0, 1) := by decide +kernel
theorem dX0_init_25 : decode cX0_init 25 = .ok (.iconst 0, 1) := by decide +kernel
theorem dX0_init_26 : decode cX0_init 26 = .ok (.putfield 24, 3) := by decide +kernel
theorem dX0_init_29 : decode cX0_init 29 = .ok (.aload_n 0, 1) := by decide +kernel
theorem dX0_init_30 : decode cX0_init 30 = .ok (.iconst 0, 1) := by decide +kernel
theorem dX0_init_31 : decode cX0_init 31 = .ok (.putfield 27, 3) := by decide +kernel
theorem dX0_init_34 : decode cX0_init 34 = .ok (.aload_n 0, 1) := by decide +kernel
theorem dX0_init_35 : decode cX0_init 35 = .ok (.iconst 0, 1) := by decide +kernel
theorem dX0_init_36 : decode cX0_init 36 = .ok (.putfield 30, 3) := by decide +kernel
theorem dX0_init_39 : decode cX0_init 39 = .ok (.aload_n 0, 1) := by decide +kernel
theorem dX0_init_40 : decode cX0_init 40 = .ok (.iconst 0, 1) := by decide +kernel
theorem dX0_init_41 : decode cX0_init 41 = .ok (.putfield 34, 3) := by decide +kernel
theorem dX0_init_44 : decode cX0_init 44 = .ok (.return_, 1) := by decide +kernel
theorem dX0_add_0 : decode cX0_add 0 = .ok (.aload_n 0, 1) := by decide +kernel
theorem dX0_add_1 : decode cX0_add 1 = .ok (.dup, 1) := by decide +kernel
theorem dX0_add_2 : decode cX0_add 2 = .ok (.getfield 21, 3) := by decide +kernel
theorem dX0_add_5 : decode cX0_add 5 = .ok (.iload_n 1, 1) := by decide +kernel
theorem dX0_add_6 : decode cX0_add 6 = .ok (.iadd, 1) := by decide +kernel
theorem dX0_add_7 : decode cX0_add 7 = .ok (.putfield 21, 3) := by decide +kernel
theorem dX0_add_10 : decode cX0_add 10 = .ok (.aload_n 0, 1) := by decide +kernel
theorem dX0_add_11 : decode cX0_add 11 = .ok (.dup, 1) := by decide +kernel
theorem dX0_add_12 : decode cX0_add 12 = .ok (.getfield 24, 3) := by decide +kernel
theorem dX0_add_15 : decode cX0_add 15 = .ok (.iload_n 2, 1) := by decide +kernel
theorem dX0_add_16 : decode cX0_add 16 = .ok (.iadd, 1) := by decide +kernel
theorem dX0_add_17 : decode cX0_add 17 = .ok (.putfield 24, 3) := by decide +kernel
theorem dX0_add_20 : decode cX0_add 20 = .ok (.return_, 1) := by decide +kernel
theorem dX0_noteOver_0 : decode cX0_noteOver 0 = .ok (.aload_n 0, 1) := by decide +kernel
theorem dX0_noteOver_1 : decode cX0_noteOver 1 = .ok (.getfield 9, 3) := by decide +kernel
theorem dX0_noteOver_4 : decode cX0_noteOver 4 = .ok (.iconst (-1), 1) := by decide +kernel
theorem dX0_noteOver_5 : decode cX0_noteOver 5 = .ok (.if_icmp .eq 18, 3) := by decide +kernel
theorem dX0_noteOver_8 : decode cX0_noteOver 8 = .ok (.aload_n 0, 1) := by decide +kernel
theorem dX0_noteOver_9 : decode cX0_noteOver 9 = .ok (.getfield 21, 3) := by decide +kernel
theorem dX0_noteOver_12 : decode cX0_noteOver 12 = .ok (.aload_n 0, 1) := by decide +kernel
theorem dX0_noteOver_13 : decode cX0_noteOver 13 = .ok (.getfield 9, 3) := by decide +kernel
theorem dX0_noteOver_16 : decode cX0_noteOver 16 = .ok (.if_icmp .le 7, 3) := by decide +kernel
theorem dX0_noteOver_19 : decode cX0_noteOver 19 = .ok (.iconst 1, 1) := by decide +kernel
theorem dX0_noteOver_20 : decode cX0_noteOver 20 = .ok (.goto 4, 3) := by decide +kernel
theorem dX0_noteOver_23 : decode cX0_noteOver 23 = .ok (.iconst 0, 1) := by decide +kernel
theorem dX0_noteOver_24 : decode cX0_noteOver 24 = .ok (.istore_n 2, 1) := by decide +kernel
theorem dX0_noteOver_25 : decode cX0_noteOver 25 = .ok (.iload_n 2, 1) := by decide +kernel
theorem dX0_noteOver_26 : decode cX0_noteOver 26 = .ok (.ifCond .eq 15, 3) := by decide +kernel
theorem dX0_noteOver_29 : decode cX0_noteOver 29 = .ok (.aload_n 0, 1) := by decide +kernel
theorem dX0_noteOver_30 : decode cX0_noteOver 30 = .ok (.getfield 30, 3) := by decide +kernel
theorem dX0_noteOver_33 : decode cX0_noteOver 33 = .ok (.ifCond .ne 8, 3) := by decide +kernel
theorem dX0_noteOver_36 : decode cX0_noteOver 36 = .ok (.aload_n 0, 1) := by decide +kernel
theorem dX0_noteOver_37 : decode cX0_noteOver 37 = .ok (.iload_n 1, 1) := by decide +kernel
theorem dX0_noteOver_38 : decode cX0_noteOver 38 = .ok (.putfield 34, 3) := by decide +kernel
theorem dX0_noteOver_41 : decode cX0_noteOver 41 = .ok (.aload_n 0, 1) := by decide +kernel
theorem dX0_noteOver_42 : decode cX0_noteOver 42 = .ok (.iload_n 2, 1) := by decide +kernel
theorem dX0_noteOver_43 : decode cX0_noteOver 43 = .ok (.putfield 30, 3) := by decide +kernel
theorem dX0_noteOver_46 : decode cX0_noteOver 46 = .ok (.return_, 1) := by decide +kernel
theorem dX0_graceLeft_0 : decode cX0_graceLeft 0 = .ok (.aload_n 0, 1) := by decide +kernel
theorem dX0_graceLeft_1 : decode cX0_graceLeft 1 = .ok (.getfield 30, 3) := by decide +kernel
theorem dX0_graceLeft_4 : decode cX0_graceLeft 4 = .ok (.ifCond .ne 5, 3) := by decide +kernel
theorem dX0_graceLeft_7 : decode cX0_graceLeft 7 = .ok (.iconst (-1), 1) := by decide +kernel
theorem dX0_graceLeft_8 : decode cX0_graceLeft 8 = .ok (.ireturn, 1) := by decide +kernel
theorem dX0_graceLeft_9 : decode cX0_graceLeft 9 = .ok (.iconst 0, 1) := by decide +kernel
theorem dX0_graceLeft_10 : decode cX0_graceLeft 10 = .ok (.bipush 48, 2) := by decide +kernel
theorem dX0_graceLeft_12 : decode cX0_graceLeft 12 = .ok (.iload_n 1, 1) := by decide +kernel
theorem dX0_graceLeft_13 : decode cX0_graceLeft 13 = .ok (.aload_n 0, 1) := by decide +kernel
theorem dX0_graceLeft_14 : decode cX0_graceLeft 14 = .ok (.getfield 34, 3) := by decide +kernel
theorem dX0_graceLeft_17 : decode cX0_graceLeft 17 = .ok (.isub, 1) := by decide +kernel
theorem dX0_graceLeft_18 : decode cX0_graceLeft 18 = .ok (.isub, 1) := by decide +kernel
theorem dX0_graceLeft_19 : decode cX0_graceLeft 19 = .ok (.invokestatic 37, 3) := by decide +kernel
theorem dX0_graceLeft_22 : decode cX0_graceLeft 22 = .ok (.ireturn, 1) := by decide +kernel
theorem dX0_blocksLeft_0 : decode cX0_blocksLeft 0 = .ok (.aload_n 0, 1) := by decide +kernel
theorem dX0_blocksLeft_1 : decode cX0_blocksLeft 1 = .ok (.iload_n 1, 1) := by decide +kernel
theorem dX0_blocksLeft_2 : decode cX0_blocksLeft 2 = .ok (.invokevirtual 43, 3) := by decide +kernel
theorem dX0_blocksLeft_5 : decode cX0_blocksLeft 5 = .ok (.ifCond .ne 5, 3) := by decide +kernel
theorem dX0_blocksLeft_8 : decode cX0_blocksLeft 8 = .ok (.iconst 0, 1) := by decide +kernel
theorem dX0_blocksLeft_9 : decode cX0_blocksLeft 9 = .ok (.ireturn, 1) := by decide +kernel
theorem dX0_blocksLeft_10 : decode cX0_blocksLeft 10 = .ok (.aload_n 0, 1) := by decide +kernel
theorem dX0_blocksLeft_11 : decode cX0_blocksLeft 11 = .ok (.getfield 15, 3) := by decide +kernel
theorem dX0_blocksLeft_14 : decode cX0_blocksLeft 14 = .ok (.iconst (-1), 1) := by decide +kernel
theorem dX0_blocksLeft_15 : decode cX0_blocksLeft 15 = .ok (.if_icmp .ne 7, 3) := by decide +kernel
theorem dX0_blocksLeft_18 : decode cX0_blocksLeft 18 = .ok (.iconst (-1), 1) := by decide +kernel
theorem dX0_blocksLeft_19 : decode cX0_blocksLeft 19 = .ok (.goto 16, 3) := by decide +kernel
theorem dX0_blocksLeft_22 : decode cX0_blocksLeft 22 = .ok (.iconst 0, 1) := by decide +kernel
theorem dX0_blocksLeft_23 : decode cX0_blocksLeft 23 = .ok (.aload_n 0, 1) := by decide +kernel
theorem dX0_blocksLeft_24 : decode cX0_blocksLeft 24 = .ok (.getfield 15, 3) := by decide +kernel
theorem dX0_blocksLeft_27 : decode cX0_blocksLeft 27 = .ok (.aload_n 0, 1) := by decide +kernel
theorem dX0_blocksLeft_28 : decode cX0_blocksLeft 28 = .ok (.getfield 21, 3) := by decide +kernel
theorem dX0_blocksLeft_31 : decode cX0_blocksLeft 31 = .ok (.isub, 1) := by decide +kernel
theorem dX0_blocksLeft_32 : decode cX0_blocksLeft 32 = .ok (.invokestatic 37, 3) := by decide +kernel
theorem dX0_blocksLeft_35 : decode cX0_blocksLeft 35 = .ok (.ireturn, 1) := by decide +kernel
theorem dX0_bars_0 : decode cX0_bars 0 = .ok (.aload_n 0, 1) := by decide +kernel
theorem dX0_bars_1 : decode cX0_bars 1 = .ok (.iload_n 3, 1) := by decide +kernel
theorem dX0_bars_2 : decode cX0_bars 2 = .ok (.invokevirtual 47, 3) := by decide +kernel
theorem dX0_bars_5 : decode cX0_bars 5 = .ok (.istore 4, 2) := by decide +kernel
theorem dX0_bars_7 : decode cX0_bars 7 = .ok (.iload_n 1, 1) := by decide +kernel
theorem dX0_bars_8 : decode cX0_bars 8 = .ok (.ifCond .le 19, 3) := by decide +kernel
theorem dX0_bars_11 : decode cX0_bars 11 = .ok (.iload 4, 2) := by decide +kernel
theorem dX0_bars_13 : decode cX0_bars 13 = .ok (.iconst (-1), 1) := by decide +kernel
theorem dX0_bars_14 : decode cX0_bars 14 = .ok (.if_icmp .eq 13, 3) := by decide +kernel
theorem dX0_bars_17 : decode cX0_bars 17 = .ok (.iload_n 1, 1) := by decide +kernel
theorem dX0_bars_18 : decode cX0_bars 18 = .ok (.iload 4, 2) := by decide +kernel
theorem dX0_bars_20 : decode cX0_bars 20 = .ok (.if_icmp .le 7, 3) := by decide +kernel
theorem dX0_bars_23 : decode cX0_bars 23 = .ok (.iconst 1, 1) := by decide +kernel
theorem dX0_bars_24 : decode cX0_bars 24 = .ok (.goto 4, 3) := by decide +kernel
theorem dX0_bars_27 : decode cX0_bars 27 = .ok (.iconst 0, 1) := by decide +kernel
theorem dX0_bars_28 : decode cX0_bars 28 = .ok (.istore 5, 2) := by decide +kernel
theorem dX0_bars_30 : decode cX0_bars 30 = .ok (.iload_n 2, 1) := by decide +kernel
theorem dX0_bars_31 : decode cX0_bars 31 = .ok (.ifCond .le 28, 3) := by decide +kernel
theorem dX0_bars_34 : decode cX0_bars 34 = .ok (.aload_n 0, 1) := by decide +kernel
theorem dX0_bars_35 : decode cX0_bars 35 = .ok (.getfield 18, 3) := by decide +kernel
theorem dX0_bars_38 : decode cX0_bars 38 = .ok (.iconst (-1), 1) := by decide +kernel
theorem dX0_bars_39 : decode cX0_bars 39 = .ok (.if_icmp .eq 20, 3) := by decide +kernel
theorem dX0_bars_42 : decode cX0_bars 42 = .ok (.aload_n 0, 1) := by decide +kernel
theorem dX0_bars_43 : decode cX0_bars 43 = .ok (.getfield 24, 3) := by decide +kernel
theorem dX0_bars_46 : decode cX0_bars 46 = .ok (.iload_n 2, 1) := by decide +kernel
theorem dX0_bars_47 : decode cX0_bars 47 = .ok (.iadd, 1) := by decide +kernel
theorem dX0_bars_48 : decode cX0_bars 48 = .ok (.aload_n 0, 1) := by decide +kernel
theorem dX0_bars_49 : decode cX0_bars 49 = .ok (.getfield 18, 3) := by decide +kernel
theorem dX0_bars_52 : decode cX0_bars 52 = .ok (.if_icmp .le 7, 3) := by decide +kernel
theorem dX0_bars_55 : decode cX0_bars 55 = .ok (.iconst 1, 1) := by decide +kernel
theorem dX0_bars_56 : decode cX0_bars 56 = .ok (.goto 4, 3) := by decide +kernel
theorem dX0_bars_59 : decode cX0_bars 59 = .ok (.iconst 0, 1) := by decide +kernel
theorem dX0_bars_60 : decode cX0_bars 60 = .ok (.istore 6, 2) := by decide +kernel
theorem dX0_bars_62 : decode cX0_bars 62 = .ok (.iload 5, 2) := by decide +kernel
theorem dX0_bars_64 : decode cX0_bars 64 = .ok (.ifCond .ne 8, 3) := by decide +kernel
theorem dX0_bars_67 : decode cX0_bars 67 = .ok (.iload 6, 2) := by decide +kernel
theorem dX0_bars_69 : decode cX0_bars 69 = .ok (.ifCond .eq 7, 3) := by decide +kernel
theorem dX0_bars_72 : decode cX0_bars 72 = .ok (.iconst 1, 1) := by decide +kernel
theorem dX0_bars_73 : decode cX0_bars 73 = .ok (.goto 4, 3) := by decide +kernel
theorem dX0_bars_76 : decode cX0_bars 76 = .ok (.iconst 0, 1) := by decide +kernel
theorem dX0_bars_77 : decode cX0_bars 77 = .ok (.ireturn, 1) := by decide +kernel
theorem dX1_init_0 : decode cX1_init 0 = .ok (.aload_n 0, 1) := by decide +kernel
theorem dX1_init_1 : decode cX1_init 1 = .ok (.invokespecial 1, 3) := by decide +kernel
theorem dX1_init_4 : decode cX1_init 4 = .ok (.aload_n 0, 1) := by decide +kernel
theorem dX1_init_5 : decode cX1_init 5 = .ok (.new 7, 3) := by decide +kernel
theorem dX1_init_8 : decode cX1_init 8 = .ok (.dup, 1) := by decide +kernel
theorem dX1_init_9 : decode cX1_init 9 = .ok (.invokespecial 9, 3) := by decide +kernel
theorem dX1_init_12 : decode cX1_init 12 = .ok (.putfield 10, 3) := by decide +kernel
theorem dX1_init_15 : decode cX1_init 15 = .ok (.aload_n 0, 1) := by decide +kernel
theorem dX1_init_16 : decode cX1_init 16 = .ok (.iload_n 1, 1) := by decide +kernel
theorem dX1_init_17 : decode cX1_init 17 = .ok (.putfield 16, 3) := by decide +kernel
theorem dX1_init_20 : decode cX1_init 20 = .ok (.aload_n 0, 1) := by decide +kernel
theorem dX1_init_21 : decode cX1_init 21 = .ok (.aload_n 2, 1) := by decide +kernel
theorem dX1_init_22 : decode cX1_init 22 = .ok (.putfield 20, 3) := by decide +kernel
theorem dX1_init_25 : decode cX1_init 25 = .ok (.aload_n 0, 1) := by decide +kernel
theorem dX1_init_26 : decode cX1_init 26 = .ok (.iload_n 3, 1) := by decide +kernel
theorem dX1_init_27 : decode cX1_init 27 = .ok (.putfield 24, 3) := by decide +kernel
theorem dX1_init_30 : decode cX1_init 30 = .ok (.return_, 1) := by decide +kernel
theorem dX1_letters_0 : decode cX1_letters 0 = .ok (.iconst 0, 1) := by decide +kernel
theorem dX1_letters_1 : decode cX1_letters 1 = .ok (.istore_n 1, 1) := by decide +kernel
theorem dX1_letters_2 : decode cX1_letters 2 = .ok (.aload_n 0, 1) := by decide +kernel
theorem dX1_letters_3 : decode cX1_letters 3 = .ok (.getfield 20, 3) := by decide +kernel
theorem dX1_letters_6 : decode cX1_letters 6 = .ok (.astore_n 2, 1) := by decide +kernel
theorem dX1_letters_7 : decode cX1_letters 7 = .ok (.aload_n 2, 1) := by decide +kernel
theorem dX1_letters_8 : decode cX1_letters 8 = .ok (.ifnull 14, 3) := by decide +kernel
theorem dX1_letters_11 : decode cX1_letters 11 = .ok (.iinc 1 1, 3) := by decide +kernel
theorem dX1_letters_14 : decode cX1_letters 14 = .ok (.aload_n 2, 1) := by decide +kernel
theorem dX1_letters_15 : decode cX1_letters 15 = .ok (.getfield 20, 3) := by decide +kernel
theorem dX1_letters_18 : decode cX1_letters 18 = .ok (.astore_n 2, 1) := by decide +kernel
theorem dX1_letters_19 : decode cX1_letters 19 = .ok (.goto (-12), 3) := by decide +kernel
theorem dX1_letters_22 : decode cX1_letters 22 = .ok (.iload_n 1, 1) := by decide +kernel
theorem dX1_letters_23 : decode cX1_letters 23 = .ok (.ireturn, 1) := by decide +kernel
theorem dX1_isWithin_0 : decode cX1_isWithin 0 = .ok (.aload_n 0, 1) := by decide +kernel
theorem dX1_isWithin_1 : decode cX1_isWithin 1 = .ok (.astore_n 2, 1) := by decide +kernel
theorem dX1_isWithin_2 : decode cX1_isWithin 2 = .ok (.aload_n 2, 1) := by decide +kernel
theorem dX1_isWithin_3 : decode cX1_isWithin 3 = .ok (.ifnull 18, 3) := by decide +kernel
theorem dX1_isWithin_6 : decode cX1_isWithin 6 = .ok (.aload_n 2, 1) := by decide +kernel
theorem dX1_isWithin_7 : decode cX1_isWithin 7 = .ok (.aload_n 1, 1) := by decide +kernel
theorem dX1_isWithin_8 : decode cX1_isWithin 8 = .ok (.if_acmp .ne 5, 3) := by decide +kernel
theorem dX1_isWithin_11 : decode cX1_isWithin 11 = .ok (.iconst 1, 1) := by decide +kernel
theorem dX1_isWithin_12 : decode cX1_isWithin 12 = .ok (.ireturn, 1) := by decide +kernel
theorem dX1_isWithin_13 : decode cX1_isWithin 13 = .ok (.aload_n 2, 1) := by decide +kernel
theorem dX1_isWithin_14 : decode cX1_isWithin 14 = .ok (.getfield 20, 3) := by decide +kernel
theorem dX1_isWithin_17 : decode cX1_isWithin 17 = .ok (.astore_n 2, 1) := by decide +kernel
theorem dX1_isWithin_18 : decode cX1_isWithin 18 = .ok (.goto (-16), 3) := by decide +kernel
theorem dX1_isWithin_21 : decode cX1_isWithin 21 = .ok (.iconst 0, 1) := by decide +kernel
theorem dX1_isWithin_22 : decode cX1_isWithin 22 = .ok (.ireturn, 1) := by decide +kernel
theorem dX2_init_0 : decode cX2_init 0 = .ok (.aload_n 0, 1) := by decide +kernel
theorem dX2_init_1 : decode cX2_init 1 = .ok (.invokespecial 1, 3) := by decide +kernel
theorem dX2_init_4 : decode cX2_init 4 = .ok (.aload_n 0, 1) := by decide +kernel
theorem dX2_init_5 : decode cX2_init 5 = .ok (.iconst 1, 1) := by decide +kernel
theorem dX2_init_6 : decode cX2_init 6 = .ok (.putfield 7, 3) := by decide +kernel
theorem dX2_init_9 : decode cX2_init 9 = .ok (.aload_n 0, 1) := by decide +kernel
theorem dX2_init_10 : decode cX2_init 10 = .ok (.aload_n 1, 1) := by decide +kernel
theorem dX2_init_11 : decode cX2_init 11 = .ok (.putfield 13, 3) := by decide +kernel
theorem dX2_init_14 : decode cX2_init 14 = .ok (.aload_n 0, 1) := by decide +kernel
theorem dX2_init_15 : decode cX2_init 15 = .ok (.iload_n 2, 1) := by decide +kernel
theorem dX2_init_16 : decode cX2_init 16 = .ok (.putfield 17, 3) := by decide +kernel
theorem dX2_init_19 : decode cX2_init 19 = .ok (.return_, 1) := by decide +kernel
theorem dX3_init_0 : decode cX3_init 0 = .ok (.aload_n 0, 1) := by decide +kernel
theorem dX3_init_1 : decode cX3_init 1 = .ok (.invokespecial 1, 3) := by decide +kernel
theorem dX3_init_4 : decode cX3_init 4 = .ok (.aload_n 0, 1) := by decide +kernel
theorem dX3_init_5 : decode cX3_init 5 = .ok (.iconst 0, 1) := by decide +kernel
theorem dX3_init_6 : decode cX3_init 6 = .ok (.putfield 7, 3) := by decide +kernel
theorem dX3_init_9 : decode cX3_init 9 = .ok (.aload_n 0, 1) := by decide +kernel
theorem dX3_init_10 : decode cX3_init 10 = .ok (.iconst 0, 1) := by decide +kernel
theorem dX3_init_11 : decode cX3_init 11 = .ok (.putfield 13, 3) := by decide +kernel
theorem dX3_init_14 : decode cX3_init 14 = .ok (.aload_n 0, 1) := by decide +kernel
theorem dX3_init_15 : decode cX3_init 15 = .ok (.iload_n 1, 1) := by decide +kernel
theorem dX3_init_16 : decode cX3_init 16 = .ok (.putfield 17, 3) := by decide +kernel
theorem dX3_init_19 : decode cX3_init 19 = .ok (.aload_n 0, 1) := by decide +kernel
theorem dX3_init_20 : decode cX3_init 20 = .ok (.aload_n 2, 1) := by decide +kernel
theorem dX3_init_21 : decode cX3_init 21 = .ok (.putfield 20, 3) := by decide +kernel
theorem dX3_init_24 : decode cX3_init 24 = .ok (.aload_n 0, 1) := by decide +kernel
theorem dX3_init_25 : decode cX3_init 25 = .ok (.aload_n 3, 1) := by decide +kernel
theorem dX3_init_26 : decode cX3_init 26 = .ok (.putfield 24, 3) := by decide +kernel
theorem dX3_init_29 : decode cX3_init 29 = .ok (.aload_n 0, 1) := by decide +kernel
theorem dX3_init_30 : decode cX3_init 30 = .ok (.aload 4, 2) := by decide +kernel
theorem dX3_init_32 : decode cX3_init 32 = .ok (.putfield 27, 3) := by decide +kernel
theorem dX3_init_35 : decode cX3_init 35 = .ok (.return_, 1) := by decide +kernel
theorem dX4_init_0 : decode cX4_init 0 = .ok (.aload_n 0, 1) := by decide +kernel
theorem dX4_init_1 : decode cX4_init 1 = .ok (.invokespecial 1, 3) := by decide +kernel
theorem dX4_init_4 : decode cX4_init 4 = .ok (.aload_n 0, 1) := by decide +kernel
theorem dX4_init_5 : decode cX4_init 5 = .ok (.new 7, 3) := by decide +kernel
theorem dX4_init_8 : decode cX4_init 8 = .ok (.dup, 1) := by decide +kernel
theorem dX4_init_9 : decode cX4_init 9 = .ok (.invokespecial 9, 3) := by decide +kernel
theorem dX4_init_12 : decode cX4_init 12 = .ok (.putfield 10, 3) := by decide +kernel
theorem dX4_init_15 : decode cX4_init 15 = .ok (.aload_n 0, 1) := by decide +kernel
theorem dX4_init_16 : decode cX4_init 16 = .ok (.new 7, 3) := by decide +kernel
theorem dX4_init_19 : decode cX4_init 19 = .ok (.dup, 1) := by decide +kernel
theorem dX4_init_20 : decode cX4_init 20 = .ok (.invokespecial 9, 3) := by decide +kernel
theorem dX4_init_23 : decode cX4_init 23 = .ok (.putfield 16, 3) := by decide +kernel
theorem dX4_init_26 : decode cX4_init 26 = .ok (.aload_n 0, 1) := by decide +kernel
theorem dX4_init_27 : decode cX4_init 27 = .ok (.new 7, 3) := by decide +kernel
theorem dX4_init_30 : decode cX4_init 30 = .ok (.dup, 1) := by decide +kernel
theorem dX4_init_31 : decode cX4_init 31 = .ok (.invokespecial 9, 3) := by decide +kernel
theorem dX4_init_34 : decode cX4_init 34 = .ok (.putfield 19, 3) := by decide +kernel
theorem dX4_init_37 : decode cX4_init 37 = .ok (.aload_n 0, 1) := by decide +kernel
theorem dX4_init_38 : decode cX4_init 38 = .ok (.new 7, 3) := by decide +kernel
theorem dX4_init_41 : decode cX4_init 41 = .ok (.dup, 1) := by decide +kernel
theorem dX4_init_42 : decode cX4_init 42 = .ok (.invokespecial 9, 3) := by decide +kernel
theorem dX4_init_45 : decode cX4_init 45 = .ok (.putfield 22, 3) := by decide +kernel
theorem dX4_init_48 : decode cX4_init 48 = .ok (.aload_n 0, 1) := by decide +kernel
theorem dX4_init_49 : decode cX4_init 49 = .ok (.new 7, 3) := by decide +kernel
theorem dX4_init_52 : decode cX4_init 52 = .ok (.dup, 1) := by decide +kernel
theorem dX4_init_53 : decode cX4_init 53 = .ok (.invokespecial 9, 3) := by decide +kernel
theorem dX4_init_56 : decode cX4_init 56 = .ok (.putfield 25, 3) := by decide +kernel
theorem dX4_init_59 : decode cX4_init 59 = .ok (.aload_n 0, 1) := by decide +kernel
theorem dX4_init_60 : decode cX4_init 60 = .ok (.new 28, 3) := by decide +kernel
theorem dX4_init_63 : decode cX4_init 63 = .ok (.dup, 1) := by decide +kernel
theorem dX4_init_64 : decode cX4_init 64 = .ok (.invokespecial 30, 3) := by decide +kernel
theorem dX4_init_67 : decode cX4_init 67 = .ok (.putfield 31, 3) := by decide +kernel
theorem dX4_init_70 : decode cX4_init 70 = .ok (.aload_n 0, 1) := by decide +kernel
theorem dX4_init_71 : decode cX4_init 71 = .ok (.new 7, 3) := by decide +kernel
theorem dX4_init_74 : decode cX4_init 74 = .ok (.dup, 1) := by decide +kernel
theorem dX4_init_75 : decode cX4_init 75 = .ok (.invokespecial 9, 3) := by decide +kernel
theorem dX4_init_78 : decode cX4_init 78 = .ok (.putfield 35, 3) := by decide +kernel
theorem dX4_init_81 : decode cX4_init 81 = .ok (.aload_n 0, 1) := by decide +kernel
theorem dX4_init_82 : decode cX4_init 82 = .ok (.iconst 0, 1) := by decide +kernel
theorem dX4_init_83 : decode cX4_init 83 = .ok (.putfield 38, 3) := by decide +kernel
theorem dX4_init_86 : decode cX4_init 86 = .ok (.aload_n 0, 1) := by decide +kernel
theorem dX4_init_87 : decode cX4_init 87 = .ok (.iconst 0, 1) := by decide +kernel
theorem dX4_init_88 : decode cX4_init 88 = .ok (.putfield 42, 3) := by decide +kernel
theorem dX4_init_91 : decode cX4_init 91 = .ok (.aload_n 0, 1) := by decide +kernel
theorem dX4_init_92 : decode cX4_init 92 = .ok (.iconst 0, 1) := by decide +kernel
theorem dX4_init_93 : decode cX4_init 93 = .ok (.putfield 46, 3) := by decide +kernel
theorem dX4_init_96 : decode cX4_init 96 = .ok (.iconst 0, 1) := by decide +kernel
theorem dX4_init_97 : decode cX4_init 97 = .ok (.istore_n 1, 1) := by decide +kernel
theorem dX4_init_98 : decode cX4_init 98 = .ok (.iload_n 1, 1) := by decide +kernel
theorem dX4_init_99 : decode cX4_init 99 = .ok (.bipush 6, 2) := by decide +kernel
theorem dX4_init_101 : decode cX4_init 101 = .ok (.if_icmp .ge 24, 3) := by decide +kernel
theorem dX4_init_104 : decode cX4_init 104 = .ok (.aload_n 0, 1) := by decide +kernel
theorem dX4_init_105 : decode cX4_init 105 = .ok (.getfield 10, 3) := by decide +kernel
theorem dX4_init_108 : decode cX4_init 108 = .ok (.new 49, 3) := by decide +kernel
theorem dX4_init_111 : decode cX4_init 111 = .ok (.dup, 1) := by decide +kernel
theorem dX4_init_112 : decode cX4_init 112 = .ok (.invokespecial 51, 3) := by decide +kernel
theorem dX4_init_115 : decode cX4_init 115 = .ok (.invokevirtual 52, 3) := by decide +kernel
theorem dX4_init_118 : decode cX4_init 118 = .ok (.pop, 1) := by decide +kernel
theorem dX4_init_119 : decode cX4_init 119 = .ok (.iinc 1 1, 3) := by decide +kernel
theorem dX4_init_122 : decode cX4_init 122 = .ok (.goto (-24), 3) := by decide +kernel
theorem dX4_init_125 : decode cX4_init 125 = .ok (.iconst 0, 1) := by decide +kernel
theorem dX4_init_126 : decode cX4_init 126 = .ok (.istore_n 1, 1) := by decide +kernel
theorem dX4_init_127 : decode cX4_init 127 = .ok (.iload_n 1, 1) := by decide +kernel
theorem dX4_init_128 : decode cX4_init 128 = .ok (.iconst 3, 1) := by decide +kernel
theorem dX4_init_129 : decode cX4_init 129 = .ok (.if_icmp .ge 24, 3) := by decide +kernel
theorem dX4_init_132 : decode cX4_init 132 = .ok (.aload_n 0, 1) := by decide +kernel
theorem dX4_init_133 : decode cX4_init 133 = .ok (.getfield 16, 3) := by decide +kernel
theorem dX4_init_136 : decode cX4_init 136 = .ok (.new 49, 3) := by decide +kernel
theorem dX4_init_139 : decode cX4_init 139 = .ok (.dup, 1) := by decide +kernel
theorem dX4_init_140 : decode cX4_init 140 = .ok (.invokespecial 51, 3) := by decide +kernel
theorem dX4_init_143 : decode cX4_init 143 = .ok (.invokevirtual 52, 3) := by decide +kernel
theorem dX4_init_146 : decode cX4_init 146 = .ok (.pop, 1) := by decide +kernel
theorem dX4_init_147 : decode cX4_init 147 = .ok (.iinc 1 1, 3) := by decide +kernel
theorem dX4_init_150 : decode cX4_init 150 = .ok (.goto (-23), 3) := by decide +kernel
theorem dX4_init_153 : decode cX4_init 153 = .ok (.aload_n 0, 1) := by decide +kernel
theorem dX4_init_154 : decode cX4_init 154 = .ok (.new 56, 3) := by decide +kernel
theorem dX4_init_157 : decode cX4_init 157 = .ok (.dup, 1) := by decide +kernel
theorem dX4_init_158 : decode cX4_init 158 = .ok (.iconst 0, 1) := by decide +kernel
theorem dX4_init_159 : decode cX4_init 159 = .ok (.aconst_null, 1) := by decide +kernel
theorem dX4_init_160 : decode cX4_init 160 = .ok (.bipush 32, 2) := by decide +kernel
theorem dX4_init_162 : decode cX4_init 162 = .ok (.invokespecial 58, 3) := by decide +kernel
theorem dX4_init_165 : decode cX4_init 165 = .ok (.putfield 61, 3) := by decide +kernel
theorem dX4_init_168 : decode cX4_init 168 = .ok (.aload_n 0, 1) := by decide +kernel
theorem dX4_init_169 : decode cX4_init 169 = .ok (.getfield 19, 3) := by decide +kernel
theorem dX4_init_172 : decode cX4_init 172 = .ok (.aload_n 0, 1) := by decide +kernel
theorem dX4_init_173 : decode cX4_init 173 = .ok (.getfield 61, 3) := by decide +kernel
theorem dX4_init_176 : decode cX4_init 176 = .ok (.invokevirtual 52, 3) := by decide +kernel
theorem dX4_init_179 : decode cX4_init 179 = .ok (.pop, 1) := by decide +kernel
theorem dX4_init_180 : decode cX4_init 180 = .ok (.return_, 1) := by decide +kernel
theorem dX4_type_0 : decode cX4_type 0 = .ok (.iload_n 1, 1) := by decide +kernel
theorem dX4_type_1 : decode cX4_type 1 = .ok (.bipush 97, 2) := by decide +kernel
theorem dX4_type_3 : decode cX4_type 3 = .ok (.if_icmp .lt 9, 3) := by decide +kernel
theorem dX4_type_6 : decode cX4_type 6 = .ok (.iload_n 1, 1) := by decide +kernel
theorem dX4_type_7 : decode cX4_type 7 = .ok (.bipush 122, 2) := by decide +kernel
theorem dX4_type_9 : decode cX4_type 9 = .ok (.if_icmp .le 13, 3) := by decide +kernel
theorem dX4_type_12 : decode cX4_type 12 = .ok (.new 65, 3) := by decide +kernel
theorem dX4_type_15 : decode cX4_type 15 = .ok (.dup, 1) := by decide +kernel
theorem dX4_type_16 : decode cX4_type 16 = .ok (.ldc 67, 2) := by decide +kernel
theorem dX4_type_18 : decode cX4_type 18 = .ok (.invokespecial 69, 3) := by decide +kernel
theorem dX4_type_21 : decode cX4_type 21 = .ok (.athrow, 1) := by decide +kernel
theorem dX4_type_22 : decode cX4_type 22 = .ok (.aload_n 0, 1) := by decide +kernel
theorem dX4_type_23 : decode cX4_type 23 = .ok (.getfield 31, 3) := by decide +kernel
theorem dX4_type_26 : decode cX4_type 26 = .ok (.invokevirtual 72, 3) := by decide +kernel
theorem dX4_type_29 : decode cX4_type 29 = .ok (.bipush 8, 2) := by decide +kernel
theorem dX4_type_31 : decode cX4_type 31 = .ok (.if_icmp .lt 13, 3) := by decide +kernel
theorem dX4_type_34 : decode cX4_type 34 = .ok (.new 76, 3) := by decide +kernel
theorem dX4_type_37 : decode cX4_type 37 = .ok (.dup, 1) := by decide +kernel
theorem dX4_type_38 : decode cX4_type 38 = .ok (.ldc 78, 2) := by decide +kernel
theorem dX4_type_40 : decode cX4_type 40 = .ok (.invokespecial 80, 3) := by decide +kernel
theorem dX4_type_43 : decode cX4_type 43 = .ok (.athrow, 1) := by decide +kernel
theorem dX4_type_44 : decode cX4_type 44 = .ok (.aload_n 0, 1) := by decide +kernel
theorem dX4_type_45 : decode cX4_type 45 = .ok (.getfield 31, 3) := by decide +kernel
theorem dX4_type_48 : decode cX4_type 48 = .ok (.iload_n 1, 1) := by decide +kernel
theorem dX4_type_49 : decode cX4_type 49 = .ok (.invokevirtual 81, 3) := by decide +kernel
theorem dX4_type_52 : decode cX4_type 52 = .ok (.pop, 1) := by decide +kernel
theorem dX4_type_53 : decode cX4_type 53 = .ok (.aload_n 0, 1) := by decide +kernel
theorem dX4_type_54 : decode cX4_type 54 = .ok (.getfield 31, 3) := by decide +kernel
theorem dX4_type_57 : decode cX4_type 57 = .ok (.invokevirtual 72, 3) := by decide +kernel
theorem dX4_type_60 : decode cX4_type 60 = .ok (.ireturn, 1) := by decide +kernel
theorem dX4_back_0 : decode cX4_back 0 = .ok (.aload_n 0, 1) := by decide +kernel
theorem dX4_back_1 : decode cX4_back 1 = .ok (.getfield 31, 3) := by decide +kernel
theorem dX4_back_4 : decode cX4_back 4 = .ok (.invokevirtual 72, 3) := by decide +kernel
theorem dX4_back_7 : decode cX4_back 7 = .ok (.ifCond .ne 13, 3) := by decide +kernel
theorem dX4_back_10 : decode cX4_back 10 = .ok (.new 76, 3) := by decide +kernel
theorem dX4_back_13 : decode cX4_back 13 = .ok (.dup, 1) := by decide +kernel
theorem dX4_back_14 : decode cX4_back 14 = .ok (.ldc 85, 2) := by decide +kernel
theorem dX4_back_16 : decode cX4_back 16 = .ok (.invokespecial 80, 3) := by decide +kernel
theorem dX4_back_19 : decode cX4_back 19 = .ok (.athrow, 1) := by decide +kernel
theorem dX4_back_20 : decode cX4_back 20 = .ok (.aload_n 0, 1) := by decide +kernel
theorem dX4_back_21 : decode cX4_back 21 = .ok (.getfield 31, 3) := by decide +kernel
theorem dX4_back_24 : decode cX4_back 24 = .ok (.aload_n 0, 1) := by decide +kernel
theorem dX4_back_25 : decode cX4_back 25 = .ok (.getfield 31, 3) := by decide +kernel
theorem dX4_back_28 : decode cX4_back 28 = .ok (.invokevirtual 72, 3) := by decide +kernel
theorem dX4_back_31 : decode cX4_back 31 = .ok (.iconst 1, 1) := by decide +kernel
theorem dX4_back_32 : decode cX4_back 32 = .ok (.isub, 1) := by decide +kernel
theorem dX4_back_33 : decode cX4_back 33 = .ok (.invokevirtual 87, 3) := by decide +kernel
theorem dX4_back_36 : decode cX4_back 36 = .ok (.aload_n 0, 1) := by decide +kernel
theorem dX4_back_37 : decode cX4_back 37 = .ok (.getfield 31, 3) := by decide +kernel
theorem dX4_back_40 : decode cX4_back 40 = .ok (.invokevirtual 72, 3) := by decide +kernel
theorem dX4_back_43 : decode cX4_back 43 = .ok (.ireturn, 1) := by decide +kernel
theorem dX4_clearPath_0 : decode cX4_clearPath 0 = .ok (.aload_n 0, 1) := by decide +kernel
theorem dX4_clearPath_1 : decode cX4_clearPath 1 = .ok (.getfield 31, 3) := by decide +kernel
theorem dX4_clearPath_4 : decode cX4_clearPath 4 = .ok (.invokevirtual 72, 3) := by decide +kernel
theorem dX4_clearPath_7 : decode cX4_clearPath 7 = .ok (.istore_n 1, 1) := by decide +kernel
theorem dX4_clearPath_8 : decode cX4_clearPath 8 = .ok (.aload_n 0, 1) := by decide +kernel
theorem dX4_clearPath_9 : decode cX4_clearPath 9 = .ok (.getfield 31, 3) := by decide +kernel
theorem dX4_clearPath_12 : decode cX4_clearPath 12 = .ok (.iconst 0, 1) := by decide +kernel
theorem dX4_clearPath_13 : decode cX4_clearPath 13 = .ok (.invokevirtual 87, 3) := by decide +kernel
theorem dX4_clearPath_16 : decode cX4_clearPath 16 = .ok (.iload_n 1, 1) := by decide +kernel
theorem dX4_clearPath_17 : decode cX4_clearPath 17 = .ok (.ireturn, 1) := by decide +kernel
theorem dX4_makeProject_0 : decode cX4_makeProject 0 = .ok (.aload_n 0, 1) := by decide +kernel
theorem dX4_makeProject_1 : decode cX4_makeProject 1 = .ok (.getfield 31, 3) := by decide +kernel
theorem dX4_makeProject_4 : decode cX4_makeProject 4 = .ok (.invokevirtual 72, 3) := by decide +kernel
theorem dX4_makeProject_7 : decode cX4_makeProject 7 = .ok (.istore_n 1, 1) := by decide +kernel
theorem dX4_makeProject_8 : decode cX4_makeProject 8 = .ok (.iload_n 1, 1) := by decide +kernel
theorem dX4_makeProject_9 : decode cX4_makeProject 9 = .ok (.ifCond .eq 11, 3) := by decide +kernel
theorem dX4_makeProject_12 : decode cX4_makeProject 12 = .ok (.aload_n 0, 1) := by decide +kernel
theorem dX4_makeProject_13 : decode cX4_makeProject 13 = .ok (.iload_n 1, 1) := by decide +kernel
theorem dX4_makeProject_14 : decode cX4_makeProject 14 = .ok (.invokevirtual 91, 3) := by decide +kernel
theorem dX4_makeProject_17 : decode cX4_makeProject 17 = .ok (.ifnull 13, 3) := by decide +kernel
theorem dX4_makeProject_20 : decode cX4_makeProject 20 = .ok (.new 76, 3) := by decide +kernel
theorem dX4_makeProject_23 : decode cX4_makeProject 23 = .ok (.dup, 1) := by decide +kernel
theorem dX4_makeProject_24 : decode cX4_makeProject 24 = .ok (.ldc 95, 2) := by decide +kernel
theorem dX4_makeProject_26 : decode cX4_makeProject 26 = .ok (.invokespecial 80, 3) := by decide +kernel
theorem dX4_makeProject_29 : decode cX4_makeProject 29 = .ok (.athrow, 1) := by decide +kernel
theorem dX4_makeProject_30 : decode cX4_makeProject 30 = .ok (.aload_n 0, 1) := by decide +kernel
theorem dX4_makeProject_31 : decode cX4_makeProject 31 = .ok (.iload_n 1, 1) := by decide +kernel
theorem dX4_makeProject_32 : decode cX4_makeProject 32 = .ok (.iconst 1, 1) := by decide +kernel
theorem dX4_makeProject_33 : decode cX4_makeProject 33 = .ok (.isub, 1) := by decide +kernel
theorem dX4_makeProject_34 : decode cX4_makeProject 34 = .ok (.invokevirtual 91, 3) := by decide +kernel
theorem dX4_makeProject_37 : decode cX4_makeProject 37 = .ok (.astore_n 2, 1) := by decide +kernel
theorem dX4_makeProject_38 : decode cX4_makeProject 38 = .ok (.aload_n 2, 1) := by decide +kernel
theorem dX4_makeProject_39 : decode cX4_makeProject 39 = .ok (.ifnonnull 13, 3) := by decide +kernel
theorem dX4_makeProject_42 : decode cX4_makeProject 42 = .ok (.new 76, 3) := by decide +kernel
theorem dX4_makeProject_45 : decode cX4_makeProject 45 = .ok (.dup, 1) := by decide +kernel
theorem dX4_makeProject_46 : decode cX4_makeProject 46 = .ok (.ldc 97, 2) := by decide +kernel
theorem dX4_makeProject_48 : decode cX4_makeProject 48 = .ok (.invokespecial 80, 3) := by decide +kernel
theorem dX4_makeProject_51 : decode cX4_makeProject 51 = .ok (.athrow, 1) := by decide +kernel
theorem dX4_makeProject_52 : decode cX4_makeProject 52 = .ok (.aload_n 0, 1) := by decide +kernel
theorem dX4_makeProject_53 : decode cX4_makeProject 53 = .ok (.getfield 19, 3) := by decide +kernel
theorem dX4_makeProject_56 : decode cX4_makeProject 56 = .ok (.invokevirtual 99, 3) := by decide +kernel
theorem dX4_makeProject_59 : decode cX4_makeProject 59 = .ok (.bipush 21, 2) := by decide +kernel
theorem dX4_makeProject_61 : decode cX4_makeProject 61 = .ok (.if_icmp .lt 13, 3) := by decide +kernel
theorem dX4_makeProject_64 : decode cX4_makeProject 64 = .ok (.new 76, 3) := by decide +kernel
theorem dX4_makeProject_67 : decode cX4_makeProject 67 = .ok (.dup, 1) := by decide +kernel
theorem dX4_makeProject_68 : decode cX4_makeProject 68 = .ok (.ldc 102, 2) := by decide +kernel
theorem dX4_makeProject_70 : decode cX4_makeProject 70 = .ok (.invokespecial 80, 3) := by decide +kernel
theorem dX4_makeProject_73 : decode cX4_makeProject 73 = .ok (.athrow, 1) := by decide +kernel
theorem dX4_makeProject_74 : decode cX4_makeProject 74 = .ok (.new 56, 3) := by decide +kernel
theorem dX4_makeProject_77 : decode cX4_makeProject 77 = .ok (.dup, 1) := by decide +kernel
theorem dX4_makeProject_78 : decode cX4_makeProject 78 = .ok (.aload_n 0, 1) := by decide +kernel
theorem dX4_makeProject_79 : decode cX4_makeProject 79 = .ok (.getfield 19, 3) := by decide +kernel
theorem dX4_makeProject_82 : decode cX4_makeProject 82 = .ok (.invokevirtual 99, 3) := by decide +kernel
theorem dX4_makeProject_85 : decode cX4_makeProject 85 = .ok (.aload_n 2, 1) := by decide +kernel
theorem dX4_makeProject_86 : decode cX4_makeProject 86 = .ok (.aload_n 0, 1) := by decide +kernel
theorem dX4_makeProject_87 : decode cX4_makeProject 87 = .ok (.getfield 31, 3) := by decide +kernel
theorem dX4_makeProject_90 : decode cX4_makeProject 90 = .ok (.iload_n 1, 1) := by decide +kernel
theorem dX4_makeProject_91 : decode cX4_makeProject 91 = .ok (.iconst 1, 1) := by decide +kernel
theorem dX4_makeProject_92 : decode cX4_makeProject 92 = .ok (.isub, 1) := by decide +kernel
theorem dX4_makeProject_93 : decode cX4_makeProject 93 = .ok (.invokevirtual 104, 3) := by decide +kernel
theorem dX4_makeProject_96 : decode cX4_makeProject 96 = .ok (.invokespecial 58, 3) := by decide +kernel
theorem dX4_makeProject_99 : decode cX4_makeProject 99 = .ok (.astore_n 3, 1) := by decide +kernel
theorem dX4_makeProject_100 : decode cX4_makeProject 100 = .ok (.aload_n 0, 1) := by decide +kernel
theorem dX4_makeProject_101 : decode cX4_makeProject 101 = .ok (.getfield 19, 3) := by decide +kernel
theorem dX4_makeProject_104 : decode cX4_makeProject 104 = .ok (.aload_n 3, 1) := by decide +kernel
theorem dX4_makeProject_105 : decode cX4_makeProject 105 = .ok (.invokevirtual 52, 3) := by decide +kernel
theorem dX4_makeProject_108 : decode cX4_makeProject 108 = .ok (.pop, 1) := by decide +kernel
theorem dX4_makeProject_109 : decode cX4_makeProject 109 = .ok (.aload_n 3, 1) := by decide +kernel
theorem dX4_makeProject_110 : decode cX4_makeProject 110 = .ok (.getfield 108, 3) := by decide +kernel
theorem dX4_makeProject_113 : decode cX4_makeProject 113 = .ok (.ireturn, 1) := by decide +kernel
theorem dX4_findProject_0 : decode cX4_findProject 0 = .ok (.aload_n 0, 1) := by decide +kernel
theorem dX4_findProject_1 : decode cX4_findProject 1 = .ok (.aload_n 0, 1) := by decide +kernel
theorem dX4_findProject_2 : decode cX4_findProject 2 = .ok (.getfield 31, 3) := by decide +kernel
theorem dX4_findProject_5 : decode cX4_findProject 5 = .ok (.invokevirtual 72, 3) := by decide +kernel
theorem dX4_findProject_8 : decode cX4_findProject 8 = .ok (.invokevirtual 91, 3) := by decide +kernel
theorem dX4_findProject_11 : decode cX4_findProject 11 = .ok (.astore_n 1, 1) := by decide +kernel
theorem dX4_findProject_12 : decode cX4_findProject 12 = .ok (.aload_n 1, 1) := by decide +kernel
theorem dX4_findProject_13 : decode cX4_findProject 13 = .ok (.ifnonnull 7, 3) := by decide +kernel
theorem dX4_findProject_16 : decode cX4_findProject 16 = .ok (.iconst (-1), 1) := by decide +kernel
theorem dX4_findProject_17 : decode cX4_findProject 17 = .ok (.goto 7, 3) := by decide +kernel
theorem dX4_findProject_20 : decode cX4_findProject 20 = .ok (.aload_n 1, 1) := by decide +kernel
theorem dX4_findProject_21 : decode cX4_findProject 21 = .ok (.getfield 108, 3) := by decide +kernel
theorem dX4_findProject_24 : decode cX4_findProject 24 = .ok (.ireturn, 1) := by decide +kernel
theorem dX4_moveProject_0 : decode cX4_moveProject 0 = .ok (.aload_n 0, 1) := by decide +kernel
theorem dX4_moveProject_1 : decode cX4_moveProject 1 = .ok (.iload_n 1, 1) := by decide +kernel
theorem dX4_moveProject_2 : decode cX4_moveProject 2 = .ok (.invokevirtual 111, 3) := by decide +kernel
theorem dX4_moveProject_5 : decode cX4_moveProject 5 = .ok (.astore_n 2, 1) := by decide +kernel
theorem dX4_moveProject_6 : decode cX4_moveProject 6 = .ok (.aload_n 0, 1) := by decide +kernel
theorem dX4_moveProject_7 : decode cX4_moveProject 7 = .ok (.aload_n 0, 1) := by decide +kernel
theorem dX4_moveProject_8 : decode cX4_moveProject 8 = .ok (.getfield 31, 3) := by decide +kernel
theorem dX4_moveProject_11 : decode cX4_moveProject 11 = .ok (.invokevirtual 72, 3) := by decide +kernel
theorem dX4_moveProject_14 : decode cX4_moveProject 14 = .ok (.invokevirtual 91, 3) := by decide +kernel
theorem dX4_moveProject_17 : decode cX4_moveProject 17 = .ok (.astore_n 3, 1) := by decide +kernel
theorem dX4_moveProject_18 : decode cX4_moveProject 18 = .ok (.aload_n 3, 1) := by decide +kernel
theorem dX4_moveProject_19 : decode cX4_moveProject 19 = .ok (.ifnull 12, 3) := by decide +kernel
theorem dX4_moveProject_22 : decode cX4_moveProject 22 = .ok (.aload_n 0, 1) := by decide +kernel
theorem dX4_moveProject_23 : decode cX4_moveProject 23 = .ok (.aload_n 2, 1) := by decide +kernel
theorem dX4_moveProject_24 : decode cX4_moveProject 24 = .ok (.aload_n 3, 1) := by decide +kernel
theorem dX4_moveProject_25 : decode cX4_moveProject 25 = .ok (.invokevirtual 114, 3) := by decide +kernel
theorem dX4_moveProject_28 : decode cX4_moveProject 28 = .ok (.ifCond .ne 13, 3) := by decide +kernel
theorem dX4_moveProject_31 : decode cX4_moveProject 31 = .ok (.new 76, 3) := by decide +kernel
theorem dX4_moveProject_34 : decode cX4_moveProject 34 = .ok (.dup, 1) := by decide +kernel
theorem dX4_moveProject_35 : decode cX4_moveProject 35 = .ok (.ldc 118, 2) := by decide +kernel
theorem dX4_moveProject_37 : decode cX4_moveProject 37 = .ok (.invokespecial 80, 3) := by decide +kernel
theorem dX4_moveProject_40 : decode cX4_moveProject 40 = .ok (.athrow, 1) := by decide +kernel
theorem dX4_moveProject_41 : decode cX4_moveProject 41 = .ok (.aload_n 2, 1) := by decide +kernel
theorem dX4_moveProject_42 : decode cX4_moveProject 42 = .ok (.getfield 120, 3) := by decide +kernel
theorem dX4_moveProject_45 : decode cX4_moveProject 45 = .ok (.aload_n 3, 1) := by decide +kernel
theorem dX4_moveProject_46 : decode cX4_moveProject 46 = .ok (.if_acmp .ne 5, 3) := by decide +kernel
theorem dX4_moveProject_49 : decode cX4_moveProject 49 = .ok (.iconst 0, 1) := by decide +kernel
theorem dX4_moveProject_50 : decode cX4_moveProject 50 = .ok (.ireturn, 1) := by decide +kernel
theorem dX4_moveProject_51 : decode cX4_moveProject 51 = .ok (.aload_n 0, 1) := by decide +kernel
theorem dX4_moveProject_52 : decode cX4_moveProject 52 = .ok (.aload_n 2, 1) := by decide +kernel
theorem dX4_moveProject_53 : decode cX4_moveProject 53 = .ok (.iconst (-1), 1) := by decide +kernel
theorem dX4_moveProject_54 : decode cX4_moveProject 54 = .ok (.invokevirtual 123, 3) := by decide +kernel
theorem dX4_moveProject_57 : decode cX4_moveProject 57 = .ok (.aload_n 2, 1) := by decide +kernel
theorem dX4_moveProject_58 : decode cX4_moveProject 58 = .ok (.aload_n 3, 1) := by decide +kernel
theorem dX4_moveProject_59 : decode cX4_moveProject 59 = .ok (.putfield 120, 3) := by decide +kernel
theorem dX4_moveProject_62 : decode cX4_moveProject 62 = .ok (.aload_n 0, 1) := by decide +kernel
theorem dX4_moveProject_63 : decode cX4_moveProject 63 = .ok (.aload_n 2, 1) := by decide +kernel
theorem dX4_moveProject_64 : decode cX4_moveProject 64 = .ok (.iconst 1, 1) := by decide +kernel
theorem dX4_moveProject_65 : decode cX4_moveProject 65 = .ok (.invokevirtual 123, 3) := by decide +kernel
theorem dX4_moveProject_68 : decode cX4_moveProject 68 = .ok (.aload_n 0, 1) := by decide +kernel
theorem dX4_moveProject_69 : decode cX4_moveProject 69 = .ok (.invokevirtual 127, 3) := by decide +kernel
theorem dX4_moveProject_72 : decode cX4_moveProject 72 = .ok (.aload_n 0, 1) := by decide +kernel
theorem dX4_moveProject_73 : decode cX4_moveProject 73 = .ok (.aload_n 2, 1) := by decide +kernel
theorem dX4_moveProject_74 : decode cX4_moveProject 74 = .ok (.invokevirtual 130, 3) := by decide +kernel
theorem dX4_moveProject_77 : decode cX4_moveProject 77 = .ok (.ireturn, 1) := by decide +kernel
theorem dX4_letterAt_0 : decode cX4_letterAt 0 = .ok (.aload_n 0, 1) := by decide +kernel
theorem dX4_letterAt_1 : decode cX4_letterAt 1 = .ok (.iload_n 1, 1) := by decide +kernel
theorem dX4_letterAt_2 : decode cX4_letterAt 2 = .ok (.invokevirtual 111, 3) := by decide +kernel
theorem dX4_letterAt_5 : decode cX4_letterAt 5 = .ok (.astore_n 3, 1) := by decide +kernel
theorem dX4_letterAt_6 : decode cX4_letterAt 6 = .ok (.iload_n 2, 1) := by decide +kernel
theorem dX4_letterAt_7 : decode cX4_letterAt 7 = .ok (.ifCond .ge 13, 3) := by decide +kernel
theorem dX4_letterAt_10 : decode cX4_letterAt 10 = .ok (.new 134, 3) := by decide +kernel
theorem dX4_letterAt_13 : decode cX4_letterAt 13 = .ok (.dup, 1) := by decide +kernel
theorem dX4_letterAt_14 : decode cX4_letterAt 14 = .ok (.ldc 136, 2) := by decide +kernel
theorem dX4_letterAt_16 : decode cX4_letterAt 16 = .ok (.invokespecial 138, 3) := by decide +kernel
theorem dX4_letterAt_19 : decode cX4_letterAt 19 = .ok (.athrow, 1) := by decide +kernel
theorem dX4_letterAt_20 : decode cX4_letterAt 20 = .ok (.aload_n 3, 1) := by decide +kernel
theorem dX4_letterAt_21 : decode cX4_letterAt 21 = .ok (.invokevirtual 139, 3) := by decide +kernel
theorem dX4_letterAt_24 : decode cX4_letterAt 24 = .ok (.iconst 1, 1) := by decide +kernel
theorem dX4_letterAt_25 : decode cX4_letterAt 25 = .ok (.isub, 1) := by decide +kernel
theorem dX4_letterAt_26 : decode cX4_letterAt 26 = .ok (.istore 4, 2) := by decide +kernel
theorem dX4_letterAt_28 : decode cX4_letterAt 28 = .ok (.iload_n 2, 1) := by decide +kernel
theorem dX4_letterAt_29 : decode cX4_letterAt 29 = .ok (.iload 4, 2) := by decide +kernel
theorem dX4_letterAt_31 : decode cX4_letterAt 31 = .ok (.if_icmp .le 6, 3) := by decide +kernel
theorem dX4_letterAt_34 : decode cX4_letterAt 34 = .ok (.bipush 32, 2) := by decide +kernel
theorem dX4_letterAt_36 : decode cX4_letterAt 36 = .ok (.ireturn, 1) := by decide +kernel
theorem dX4_letterAt_37 : decode cX4_letterAt 37 = .ok (.iload 4, 2) := by decide +kernel
theorem dX4_letterAt_39 : decode cX4_letterAt 39 = .ok (.istore 5, 2) := by decide +kernel
theorem dX4_letterAt_41 : decode cX4_letterAt 41 = .ok (.iload 5, 2) := by decide +kernel
theorem dX4_letterAt_43 : decode cX4_letterAt 43 = .ok (.iload_n 2, 1) := by decide +kernel
theorem dX4_letterAt_44 : decode cX4_letterAt 44 = .ok (.if_icmp .le 21, 3) := by decide +kernel
theorem dX4_letterAt_47 : decode cX4_letterAt 47 = .ok (.aload_n 3, 1) := by decide +kernel
theorem dX4_letterAt_48 : decode cX4_letterAt 48 = .ok (.getfield 120, 3) := by decide +kernel
theorem dX4_letterAt_51 : decode cX4_letterAt 51 = .ok (.ifnull 14, 3) := by decide +kernel
theorem dX4_letterAt_54 : decode cX4_letterAt 54 = .ok (.aload_n 3, 1) := by decide +kernel
theorem dX4_letterAt_55 : decode cX4_letterAt 55 = .ok (.getfield 120, 3) := by decide +kernel
theorem dX4_letterAt_58 : decode cX4_letterAt 58 = .ok (.astore_n 3, 1) := by decide +kernel
theorem dX4_letterAt_59 : decode cX4_letterAt 59 = .ok (.iinc 5 (-1), 3) := by decide +kernel
theorem dX4_letterAt_62 : decode cX4_letterAt 62 = .ok (.goto (-21), 3) := by decide +kernel
theorem dX4_letterAt_65 : decode cX4_letterAt 65 = .ok (.aload_n 3, 1) := by decide +kernel
theorem dX4_letterAt_66 : decode cX4_letterAt 66 = .ok (.getfield 142, 3) := by decide +kernel
theorem dX4_letterAt_69 : decode cX4_letterAt 69 = .ok (.ireturn, 1) := by decide +kernel
theorem dX4_projects_0 : decode cX4_projects 0 = .ok (.aload_n 0, 1) := by decide +kernel
theorem dX4_projects_1 : decode cX4_projects 1 = .ok (.getfield 19, 3) := by decide +kernel
theorem dX4_projects_4 : decode cX4_projects 4 = .ok (.invokevirtual 99, 3) := by decide +kernel
theorem dX4_projects_7 : decode cX4_projects 7 = .ok (.ireturn, 1) := by decide +kernel
theorem dX4_makeFile_0 : decode cX4_makeFile 0 = .ok (.aload_n 0, 1) := by decide +kernel
theorem dX4_makeFile_1 : decode cX4_makeFile 1 = .ok (.iconst 0, 1) := by decide +kernel
theorem dX4_makeFile_2 : decode cX4_makeFile 2 = .ok (.iload_n 1, 1) := by decide +kernel
theorem dX4_makeFile_3 : decode cX4_makeFile 3 = .ok (.invokevirtual 146, 3) := by decide +kernel
theorem dX4_makeFile_6 : decode cX4_makeFile 6 = .ok (.astore_n 3, 1) := by decide +kernel
theorem dX4_makeFile_7 : decode cX4_makeFile 7 = .ok (.aload_n 0, 1) := by decide +kernel
theorem dX4_makeFile_8 : decode cX4_makeFile 8 = .ok (.iconst 1, 1) := by decide +kernel
theorem dX4_makeFile_9 : decode cX4_makeFile 9 = .ok (.iload_n 1, 1) := by decide +kernel
theorem dX4_makeFile_10 : decode cX4_makeFile 10 = .ok (.iconst 3, 1) := by decide +kernel
theorem dX4_makeFile_11 : decode cX4_makeFile 11 = .ok (.irem, 1) := by decide +kernel
theorem dX4_makeFile_12 : decode cX4_makeFile 12 = .ok (.invokevirtual 146, 3) := by decide +kernel
theorem dX4_makeFile_15 : decode cX4_makeFile 15 = .ok (.astore 4, 2) := by decide +kernel
theorem dX4_makeFile_17 : decode cX4_makeFile 17 = .ok (.aload_n 0, 1) := by decide +kernel
theorem dX4_makeFile_18 : decode cX4_makeFile 18 = .ok (.iload_n 2, 1) := by decide +kernel
theorem dX4_makeFile_19 : decode cX4_makeFile 19 = .ok (.invokevirtual 111, 3) := by decide +kernel
theorem dX4_makeFile_22 : decode cX4_makeFile 22 = .ok (.astore 5, 2) := by decide +kernel
theorem dX4_makeFile_24 : decode cX4_makeFile 24 = .ok (.aload_n 0, 1) := by decide +kernel
theorem dX4_makeFile_25 : decode cX4_makeFile 25 = .ok (.getfield 22, 3) := by decide +kernel
theorem dX4_makeFile_28 : decode cX4_makeFile 28 = .ok (.invokevirtual 99, 3) := by decide +kernel
theorem dX4_makeFile_31 : decode cX4_makeFile 31 = .ok (.bipush 40, 2) := by decide +kernel
theorem dX4_makeFile_33 : decode cX4_makeFile 33 = .ok (.if_icmp .lt 13, 3) := by decide +kernel
theorem dX4_makeFile_36 : decode cX4_makeFile 36 = .ok (.new 76, 3) := by decide +kernel
theorem dX4_makeFile_39 : decode cX4_makeFile 39 = .ok (.dup, 1) := by decide +kernel
theorem dX4_makeFile_40 : decode cX4_makeFile 40 = .ok (.ldc 150, 2) := by decide +kernel
theorem dX4_makeFile_42 : decode cX4_makeFile 42 = .ok (.invokespecial 80, 3) := by decide +kernel
theorem dX4_makeFile_45 : decode cX4_makeFile 45 = .ok (.athrow, 1) := by decide +kernel
theorem dX4_makeFile_46 : decode cX4_makeFile 46 = .ok (.new 152, 3) := by decide +kernel
theorem dX4_makeFile_49 : decode cX4_makeFile 49 = .ok (.dup, 1) := by decide +kernel
theorem dX4_makeFile_50 : decode cX4_makeFile 50 = .ok (.aload_n 0, 1) := by decide +kernel
theorem dX4_makeFile_51 : decode cX4_makeFile 51 = .ok (.getfield 22, 3) := by decide +kernel
theorem dX4_makeFile_54 : decode cX4_makeFile 54 = .ok (.invokevirtual 99, 3) := by decide +kernel
theorem dX4_makeFile_57 : decode cX4_makeFile 57 = .ok (.aload_n 3, 1) := by decide +kernel
theorem dX4_makeFile_58 : decode cX4_makeFile 58 = .ok (.aload 4, 2) := by decide +kernel
theorem dX4_makeFile_60 : decode cX4_makeFile 60 = .ok (.aload 5, 2) := by decide +kernel
theorem dX4_makeFile_62 : decode cX4_makeFile 62 = .ok (.invokespecial 154, 3) := by decide +kernel
theorem dX4_makeFile_65 : decode cX4_makeFile 65 = .ok (.astore 6, 2) := by decide +kernel
theorem dX4_makeFile_67 : decode cX4_makeFile 67 = .ok (.aload_n 0, 1) := by decide +kernel
theorem dX4_makeFile_68 : decode cX4_makeFile 68 = .ok (.aload 6, 2) := by decide +kernel
theorem dX4_makeFile_70 : decode cX4_makeFile 70 = .ok (.iconst 0, 1) := by decide +kernel
theorem dX4_makeFile_71 : decode cX4_makeFile 71 = .ok (.iconst 1, 1) := by decide +kernel
theorem dX4_makeFile_72 : decode cX4_makeFile 72 = .ok (.invokevirtual 157, 3) := by decide +kernel
theorem dX4_makeFile_75 : decode cX4_makeFile 75 = .ok (.istore 7, 2) := by decide +kernel
theorem dX4_makeFile_77 : decode cX4_makeFile 77 = .ok (.iload 7, 2) := by decide +kernel
theorem dX4_makeFile_79 : decode cX4_makeFile 79 = .ok (.iconst (-1), 1) := by decide +kernel
theorem dX4_makeFile_80 : decode cX4_makeFile 80 = .ok (.if_icmp .eq 9, 3) := by decide +kernel
theorem dX4_makeFile_83 : decode cX4_makeFile 83 = .ok (.iload 7, 2) := by decide +kernel
theorem dX4_makeFile_85 : decode cX4_makeFile 85 = .ok (.invokestatic 161, 3) := by decide +kernel
theorem dX4_makeFile_88 : decode cX4_makeFile 88 = .ok (.ireturn, 1) := by decide +kernel
theorem dX4_makeFile_89 : decode cX4_makeFile 89 = .ok (.aload_n 0, 1) := by decide +kernel
theorem dX4_makeFile_90 : decode cX4_makeFile 90 = .ok (.getfield 22, 3) := by decide +kernel
theorem dX4_makeFile_93 : decode cX4_makeFile 93 = .ok (.aload 6, 2) := by decide +kernel
theorem dX4_makeFile_95 : decode cX4_makeFile 95 = .ok (.invokevirtual 52, 3) := by decide +kernel
theorem dX4_makeFile_98 : decode cX4_makeFile 98 = .ok (.pop, 1) := by decide +kernel
theorem dX4_makeFile_99 : decode cX4_makeFile 99 = .ok (.aload_n 0, 1) := by decide +kernel
theorem dX4_makeFile_100 : decode cX4_makeFile 100 = .ok (.aload 6, 2) := by decide +kernel
theorem dX4_makeFile_102 : decode cX4_makeFile 102 = .ok (.iconst 0, 1) := by decide +kernel
theorem dX4_makeFile_103 : decode cX4_makeFile 103 = .ok (.iconst 1, 1) := by decide +kernel
theorem dX4_makeFile_104 : decode cX4_makeFile 104 = .ok (.invokevirtual 165, 3) := by decide +kernel
theorem dX4_makeFile_107 : decode cX4_makeFile 107 = .ok (.aload 6, 2) := by decide +kernel
theorem dX4_makeFile_109 : decode cX4_makeFile 109 = .ok (.getfield 169, 3) := by decide +kernel
theorem dX4_makeFile_112 : decode cX4_makeFile 112 = .ok (.ireturn, 1) := by decide +kernel
theorem dX4_write_0 : decode cX4_write 0 = .ok (.aload_n 0, 1) := by decide +kernel
theorem dX4_write_1 : decode cX4_write 1 = .ok (.iload_n 1, 1) := by decide +kernel
theorem dX4_write_2 : decode cX4_write 2 = .ok (.invokevirtual 170, 3) := by decide +kernel
theorem dX4_write_5 : decode cX4_write 5 = .ok (.astore_n 3, 1) := by decide +kernel
theorem dX4_write_6 : decode cX4_write 6 = .ok (.iload_n 2, 1) := by decide +kernel
theorem dX4_write_7 : decode cX4_write 7 = .ok (.sipush (-1000), 3) := by decide +kernel
theorem dX4_write_10 : decode cX4_write 10 = .ok (.if_icmp .lt 19, 3) := by decide +kernel
theorem dX4_write_13 : decode cX4_write 13 = .ok (.iload_n 2, 1) := by decide +kernel
theorem dX4_write_14 : decode cX4_write 14 = .ok (.sipush 1000, 3) := by decide +kernel
theorem dX4_write_17 : decode cX4_write 17 = .ok (.if_icmp .gt 12, 3) := by decide +kernel
theorem dX4_write_20 : decode cX4_write 20 = .ok (.aload_n 3, 1) := by decide +kernel
theorem dX4_write_21 : decode cX4_write 21 = .ok (.getfield 174, 3) := by decide +kernel
theorem dX4_write_24 : decode cX4_write 24 = .ok (.iload_n 2, 1) := by decide +kernel
theorem dX4_write_25 : decode cX4_write 25 = .ok (.iadd, 1) := by decide +kernel
theorem dX4_write_26 : decode cX4_write 26 = .ok (.ifCond .ge 13, 3) := by decide +kernel
theorem dX4_write_29 : decode cX4_write 29 = .ok (.new 65, 3) := by decide +kernel
theorem dX4_write_32 : decode cX4_write 32 = .ok (.dup, 1) := by decide +kernel
theorem dX4_write_33 : decode cX4_write 33 = .ok (.ldc 177, 2) := by decide +kernel
theorem dX4_write_35 : decode cX4_write 35 = .ok (.invokespecial 69, 3) := by decide +kernel
theorem dX4_write_38 : decode cX4_write 38 = .ok (.athrow, 1) := by decide +kernel
theorem dX4_write_39 : decode cX4_write 39 = .ok (.aload_n 0, 1) := by decide +kernel
theorem dX4_write_40 : decode cX4_write 40 = .ok (.aload_n 3, 1) := by decide +kernel
theorem dX4_write_41 : decode cX4_write 41 = .ok (.iload_n 2, 1) := by decide +kernel
theorem dX4_write_42 : decode cX4_write 42 = .ok (.iconst 0, 1) := by decide +kernel
theorem dX4_write_43 : decode cX4_write 43 = .ok (.invokevirtual 157, 3) := by decide +kernel
theorem dX4_write_46 : decode cX4_write 46 = .ok (.istore 4, 2) := by decide +kernel
theorem dX4_write_48 : decode cX4_write 48 = .ok (.iload 4, 2) := by decide +kernel
theorem dX4_write_50 : decode cX4_write 50 = .ok (.iconst (-1), 1) := by decide +kernel
theorem dX4_write_51 : decode cX4_write 51 = .ok (.if_icmp .eq 9, 3) := by decide +kernel
theorem dX4_write_54 : decode cX4_write 54 = .ok (.iload 4, 2) := by decide +kernel
theorem dX4_write_56 : decode cX4_write 56 = .ok (.invokestatic 161, 3) := by decide +kernel
theorem dX4_write_59 : decode cX4_write 59 = .ok (.ireturn, 1) := by decide +kernel
theorem dX4_write_60 : decode cX4_write 60 = .ok (.aload_n 3, 1) := by decide +kernel
theorem dX4_write_61 : decode cX4_write 61 = .ok (.dup, 1) := by decide +kernel
theorem dX4_write_62 : decode cX4_write 62 = .ok (.getfield 174, 3) := by decide +kernel
theorem dX4_write_65 : decode cX4_write 65 = .ok (.iload_n 2, 1) := by decide +kernel
theorem dX4_write_66 : decode cX4_write 66 = .ok (.iadd, 1) := by decide +kernel
theorem dX4_write_67 : decode cX4_write 67 = .ok (.putfield 174, 3) := by decide +kernel
theorem dX4_write_70 : decode cX4_write 70 = .ok (.aload_n 0, 1) := by decide +kernel
theorem dX4_write_71 : decode cX4_write 71 = .ok (.aload_n 3, 1) := by decide +kernel
theorem dX4_write_72 : decode cX4_write 72 = .ok (.iload_n 2, 1) := by decide +kernel
theorem dX4_write_73 : decode cX4_write 73 = .ok (.iconst 0, 1) := by decide +kernel
theorem dX4_write_74 : decode cX4_write 74 = .ok (.invokevirtual 165, 3) := by decide +kernel
theorem dX4_write_77 : decode cX4_write 77 = .ok (.aload_n 0, 1) := by decide +kernel
theorem dX4_write_78 : decode cX4_write 78 = .ok (.invokevirtual 127, 3) := by decide +kernel
theorem dX4_write_81 : decode cX4_write 81 = .ok (.aload_n 3, 1) := by decide +kernel
theorem dX4_write_82 : decode cX4_write 82 = .ok (.getfield 174, 3) := by decide +kernel
theorem dX4_write_85 : decode cX4_write 85 = .ok (.ireturn, 1) := by decide +kernel
theorem dX4_delete_0 : decode cX4_delete 0 = .ok (.aload_n 0, 1) := by decide +kernel
theorem dX4_delete_1 : decode cX4_delete 1 = .ok (.iload_n 1, 1) := by decide +kernel
theorem dX4_delete_2 : decode cX4_delete 2 = .ok (.invokevirtual 170, 3) := by decide +kernel
theorem dX4_delete_5 : decode cX4_delete 5 = .ok (.astore_n 2, 1) := by decide +kernel
theorem dX4_delete_6 : decode cX4_delete 6 = .ok (.aload_n 0, 1) := by decide +kernel
theorem dX4_delete_7 : decode cX4_delete 7 = .ok (.aload_n 2, 1) := by decide +kernel
theorem dX4_delete_8 : decode cX4_delete 8 = .ok (.invokevirtual 179, 3) := by decide +kernel
theorem dX4_delete_11 : decode cX4_delete 11 = .ok (.istore_n 3, 1) := by decide +kernel
theorem dX4_delete_12 : decode cX4_delete 12 = .ok (.aload_n 0, 1) := by decide +kernel
theorem dX4_delete_13 : decode cX4_delete 13 = .ok (.aload_n 2, 1) := by decide +kernel
theorem dX4_delete_14 : decode cX4_delete 14 = .ok (.iload_n 3, 1) := by decide +kernel
theorem dX4_delete_15 : decode cX4_delete 15 = .ok (.ineg, 1) := by decide +kernel
theorem dX4_delete_16 : decode cX4_delete 16 = .ok (.iconst (-1), 1) := by decide +kernel
theorem dX4_delete_17 : decode cX4_delete 17 = .ok (.invokevirtual 165, 3) := by decide +kernel
theorem dX4_delete_20 : decode cX4_delete 20 = .ok (.aload_n 2, 1) := by decide +kernel
theorem dX4_delete_21 : decode cX4_delete 21 = .ok (.iconst 1, 1) := by decide +kernel
theorem dX4_delete_22 : decode cX4_delete 22 = .ok (.putfield 183, 3) := by decide +kernel
theorem dX4_delete_25 : decode cX4_delete 25 = .ok (.iconst 0, 1) := by decide +kernel
theorem dX4_delete_26 : decode cX4_delete 26 = .ok (.istore 4, 2) := by decide +kernel
theorem dX4_delete_28 : decode cX4_delete 28 = .ok (.iload 4, 2) := by decide +kernel
theorem dX4_delete_30 : decode cX4_delete 30 = .ok (.aload_n 0, 1) := by decide +kernel
theorem dX4_delete_31 : decode cX4_delete 31 = .ok (.getfield 25, 3) := by decide +kernel
theorem dX4_delete_34 : decode cX4_delete 34 = .ok (.invokevirtual 99, 3) := by decide +kernel
theorem dX4_delete_37 : decode cX4_delete 37 = .ok (.if_icmp .ge 38, 3) := by decide +kernel
theorem dX4_delete_40 : decode cX4_delete 40 = .ok (.aload_n 0, 1) := by decide +kernel
theorem dX4_delete_41 : decode cX4_delete 41 = .ok (.getfield 25, 3) := by decide +kernel
theorem dX4_delete_44 : decode cX4_delete 44 = .ok (.iload 4, 2) := by decide +kernel
theorem dX4_delete_46 : decode cX4_delete 46 = .ok (.invokevirtual 186, 3) := by decide +kernel
theorem dX4_delete_49 : decode cX4_delete 49 = .ok (.checkcast 190, 3) := by decide +kernel
theorem dX4_delete_52 : decode cX4_delete 52 = .ok (.astore 5, 2) := by decide +kernel
theorem dX4_delete_54 : decode cX4_delete 54 = .ok (.aload 5, 2) := by decide +kernel
theorem dX4_delete_56 : decode cX4_delete 56 = .ok (.getfield 192, 3) := by decide +kernel
theorem dX4_delete_59 : decode cX4_delete 59 = .ok (.aload_n 2, 1) := by decide +kernel
theorem dX4_delete_60 : decode cX4_delete 60 = .ok (.if_acmp .ne 9, 3) := by decide +kernel
theorem dX4_delete_63 : decode cX4_delete 63 = .ok (.aload 5, 2) := by decide +kernel
theorem dX4_delete_65 : decode cX4_delete 65 = .ok (.iconst 0, 1) := by decide +kernel
theorem dX4_delete_66 : decode cX4_delete 66 = .ok (.putfield 196, 3) := by decide +kernel
theorem dX4_delete_69 : decode cX4_delete 69 = .ok (.iinc 4 1, 3) := by decide +kernel
theorem dX4_delete_72 : decode cX4_delete 72 = .ok (.goto (-44), 3) := by decide +kernel
theorem dX4_delete_75 : decode cX4_delete 75 = .ok (.aload_n 0, 1) := by decide +kernel
theorem dX4_delete_76 : decode cX4_delete 76 = .ok (.invokevirtual 127, 3) := by decide +kernel
theorem dX4_delete_79 : decode cX4_delete 79 = .ok (.iload_n 3, 1) := by decide +kernel
theorem dX4_delete_80 : decode cX4_delete 80 = .ok (.ireturn, 1) := by decide +kernel
theorem dX4_moveFile_0 : decode cX4_moveFile 0 = .ok (.aload_n 0, 1) := by decide +kernel
theorem dX4_moveFile_1 : decode cX4_moveFile 1 = .ok (.iload_n 1, 1) := by decide +kernel
theorem dX4_moveFile_2 : decode cX4_moveFile 2 = .ok (.invokevirtual 170, 3) := by decide +kernel
theorem dX4_moveFile_5 : decode cX4_moveFile 5 = .ok (.astore_n 3, 1) := by decide +kernel
theorem dX4_moveFile_6 : decode cX4_moveFile 6 = .ok (.aload_n 0, 1) := by decide +kernel
theorem dX4_moveFile_7 : decode cX4_moveFile 7 = .ok (.iload_n 2, 1) := by decide +kernel
theorem dX4_moveFile_8 : decode cX4_moveFile 8 = .ok (.invokevirtual 111, 3) := by decide +kernel
theorem dX4_moveFile_11 : decode cX4_moveFile 11 = .ok (.astore 4, 2) := by decide +kernel
theorem dX4_moveFile_13 : decode cX4_moveFile 13 = .ok (.aload_n 3, 1) := by decide +kernel
theorem dX4_moveFile_14 : decode cX4_moveFile 14 = .ok (.getfield 199, 3) := by decide +kernel
theorem dX4_moveFile_17 : decode cX4_moveFile 17 = .ok (.astore 5, 2) := by decide +kernel
theorem dX4_moveFile_19 : decode cX4_moveFile 19 = .ok (.aload_n 0, 1) := by decide +kernel
theorem dX4_moveFile_20 : decode cX4_moveFile 20 = .ok (.aload_n 3, 1) := by decide +kernel
theorem dX4_moveFile_21 : decode cX4_moveFile 21 = .ok (.invokevirtual 179, 3) := by decide +kernel
theorem dX4_moveFile_24 : decode cX4_moveFile 24 = .ok (.istore 6, 2) := by decide +kernel
theorem dX4_moveFile_26 : decode cX4_moveFile 26 = .ok (.aload_n 0, 1) := by decide +kernel
theorem dX4_moveFile_27 : decode cX4_moveFile 27 = .ok (.aload_n 3, 1) := by decide +kernel
theorem dX4_moveFile_28 : decode cX4_moveFile 28 = .ok (.iload 6, 2) := by decide +kernel
theorem dX4_moveFile_30 : decode cX4_moveFile 30 = .ok (.ineg, 1) := by decide +kernel
theorem dX4_moveFile_31 : decode cX4_moveFile 31 = .ok (.iconst (-1), 1) := by decide +kernel
theorem dX4_moveFile_32 : decode cX4_moveFile 32 = .ok (.invokevirtual 165, 3) := by decide +kernel
theorem dX4_moveFile_35 : decode cX4_moveFile 35 = .ok (.aload_n 3, 1) := by decide +kernel
theorem dX4_moveFile_36 : decode cX4_moveFile 36 = .ok (.aload 4, 2) := by decide +kernel
theorem dX4_moveFile_38 : decode cX4_moveFile 38 = .ok (.putfield 199, 3) := by decide +kernel
theorem dX4_moveFile_41 : decode cX4_moveFile 41 = .ok (.aload_n 0, 1) := by decide +kernel
theorem dX4_moveFile_42 : decode cX4_moveFile 42 = .ok (.aload_n 3, 1) := by decide +kernel
theorem dX4_moveFile_43 : decode cX4_moveFile 43 = .ok (.iload 6, 2) := by decide +kernel
theorem dX4_moveFile_45 : decode cX4_moveFile 45 = .ok (.iconst 1, 1) := by decide +kernel
theorem dX4_moveFile_46 : decode cX4_moveFile 46 = .ok (.invokevirtual 165, 3) := by decide +kernel
theorem dX4_moveFile_49 : decode cX4_moveFile 49 = .ok (.aload_n 0, 1) := by decide +kernel
theorem dX4_moveFile_50 : decode cX4_moveFile 50 = .ok (.invokevirtual 127, 3) := by decide +kernel
theorem dX4_moveFile_53 : decode cX4_moveFile 53 = .ok (.aload 5, 2) := by decide +kernel
theorem dX4_moveFile_55 : decode cX4_moveFile 55 = .ok (.getfield 108, 3) := by decide +kernel
theorem dX4_moveFile_58 : decode cX4_moveFile 58 = .ok (.ireturn, 1) := by decide +kernel
theorem dX4_reserve_0 : decode cX4_reserve 0 = .ok (.aload_n 0, 1) := by decide +kernel
theorem dX4_reserve_1 : decode cX4_reserve 1 = .ok (.iload_n 1, 1) := by decide +kernel
theorem dX4_reserve_2 : decode cX4_reserve 2 = .ok (.invokevirtual 170, 3) := by decide +kernel
theorem dX4_reserve_5 : decode cX4_reserve 5 = .ok (.astore_n 3, 1) := by decide +kernel
theorem dX4_reserve_6 : decode cX4_reserve 6 = .ok (.iload_n 2, 1) := by decide +kernel
theorem dX4_reserve_7 : decode cX4_reserve 7 = .ok (.iconst 1, 1) := by decide +kernel
theorem dX4_reserve_8 : decode cX4_reserve 8 = .ok (.if_icmp .lt 10, 3) := by decide +kernel
theorem dX4_reserve_11 : decode cX4_reserve 11 = .ok (.iload_n 2, 1) := by decide +kernel
theorem dX4_reserve_12 : decode cX4_reserve 12 = .ok (.sipush 1000, 3) := by decide +kernel
theorem dX4_reserve_15 : decode cX4_reserve 15 = .ok (.if_icmp .le 13, 3) := by decide +kernel
theorem dX4_reserve_18 : decode cX4_reserve 18 = .ok (.new 65, 3) := by decide +kernel
theorem dX4_reserve_21 : decode cX4_reserve 21 = .ok (.dup, 1) := by decide +kernel
theorem dX4_reserve_22 : decode cX4_reserve 22 = .ok (.ldc 177, 2) := by decide +kernel
theorem dX4_reserve_24 : decode cX4_reserve 24 = .ok (.invokespecial 69, 3) := by decide +kernel
theorem dX4_reserve_27 : decode cX4_reserve 27 = .ok (.athrow, 1) := by decide +kernel
theorem dX4_reserve_28 : decode cX4_reserve 28 = .ok (.aload_n 0, 1) := by decide +kernel
theorem dX4_reserve_29 : decode cX4_reserve 29 = .ok (.getfield 25, 3) := by decide +kernel
theorem dX4_reserve_32 : decode cX4_reserve 32 = .ok (.invokevirtual 99, 3) := by decide +kernel
theorem dX4_reserve_35 : decode cX4_reserve 35 = .ok (.bipush 30, 2) := by decide +kernel
theorem dX4_reserve_37 : decode cX4_reserve 37 = .ok (.if_icmp .lt 13, 3) := by decide +kernel
theorem dX4_reserve_40 : decode cX4_reserve 40 = .ok (.new 76, 3) := by decide +kernel
theorem dX4_reserve_43 : decode cX4_reserve 43 = .ok (.dup, 1) := by decide +kernel
theorem dX4_reserve_44 : decode cX4_reserve 44 = .ok (.ldc 202, 2) := by decide +kernel
theorem dX4_reserve_46 : decode cX4_reserve 46 = .ok (.invokespecial 80, 3) := by decide +kernel
theorem dX4_reserve_49 : decode cX4_reserve 49 = .ok (.athrow, 1) := by decide +kernel
theorem dX4_reserve_50 : decode cX4_reserve 50 = .ok (.aload_n 0, 1) := by decide +kernel
theorem dX4_reserve_51 : decode cX4_reserve 51 = .ok (.aload_n 3, 1) := by decide +kernel
theorem dX4_reserve_52 : decode cX4_reserve 52 = .ok (.iload_n 2, 1) := by decide +kernel
theorem dX4_reserve_53 : decode cX4_reserve 53 = .ok (.iconst 0, 1) := by decide +kernel
theorem dX4_reserve_54 : decode cX4_reserve 54 = .ok (.invokevirtual 157, 3) := by decide +kernel
theorem dX4_reserve_57 : decode cX4_reserve 57 = .ok (.istore 4, 2) := by decide +kernel
theorem dX4_reserve_59 : decode cX4_reserve 59 = .ok (.iload 4, 2) := by decide +kernel
theorem dX4_reserve_61 : decode cX4_reserve 61 = .ok (.iconst (-1), 1) := by decide +kernel
theorem dX4_reserve_62 : decode cX4_reserve 62 = .ok (.if_icmp .eq 9, 3) := by decide +kernel
theorem dX4_reserve_65 : decode cX4_reserve 65 = .ok (.iload 4, 2) := by decide +kernel
theorem dX4_reserve_67 : decode cX4_reserve 67 = .ok (.invokestatic 161, 3) := by decide +kernel
theorem dX4_reserve_70 : decode cX4_reserve 70 = .ok (.ireturn, 1) := by decide +kernel
theorem dX4_reserve_71 : decode cX4_reserve 71 = .ok (.aload_n 0, 1) := by decide +kernel
theorem dX4_reserve_72 : decode cX4_reserve 72 = .ok (.getfield 25, 3) := by decide +kernel
theorem dX4_reserve_75 : decode cX4_reserve 75 = .ok (.new 190, 3) := by decide +kernel
theorem dX4_reserve_78 : decode cX4_reserve 78 = .ok (.dup, 1) := by decide +kernel
theorem dX4_reserve_79 : decode cX4_reserve 79 = .ok (.aload_n 3, 1) := by decide +kernel
theorem dX4_reserve_80 : decode cX4_reserve 80 = .ok (.iload_n 2, 1) := by decide +kernel
theorem dX4_reserve_81 : decode cX4_reserve 81 = .ok (.invokespecial 204, 3) := by decide +kernel
theorem dX4_reserve_84 : decode cX4_reserve 84 = .ok (.invokevirtual 52, 3) := by decide +kernel
theorem dX4_reserve_87 : decode cX4_reserve 87 = .ok (.pop, 1) := by decide +kernel
theorem dX4_reserve_88 : decode cX4_reserve 88 = .ok (.aload_n 0, 1) := by decide +kernel
theorem dX4_reserve_89 : decode cX4_reserve 89 = .ok (.aload_n 3, 1) := by decide +kernel
theorem dX4_reserve_90 : decode cX4_reserve 90 = .ok (.iload_n 2, 1) := by decide +kernel
theorem dX4_reserve_91 : decode cX4_reserve 91 = .ok (.iconst 0, 1) := by decide +kernel
theorem dX4_reserve_92 : decode cX4_reserve 92 = .ok (.invokevirtual 165, 3) := by decide +kernel
theorem dX4_reserve_95 : decode cX4_reserve 95 = .ok (.aload_n 0, 1) := by decide +kernel
theorem dX4_reserve_96 : decode cX4_reserve 96 = .ok (.invokevirtual 127, 3) := by decide +kernel
theorem dX4_reserve_99 : decode cX4_reserve 99 = .ok (.aload_n 0, 1) := by decide +kernel
theorem dX4_reserve_100 : decode cX4_reserve 100 = .ok (.getfield 25, 3) := by decide +kernel
theorem dX4_reserve_103 : decode cX4_reserve 103 = .ok (.invokevirtual 99, 3) := by decide +kernel
theorem dX4_reserve_106 : decode cX4_reserve 106 = .ok (.iconst 1, 1) := by decide +kernel
theorem dX4_reserve_107 : decode cX4_reserve 107 = .ok (.isub, 1) := by decide +kernel
theorem dX4_reserve_108 : decode cX4_reserve 108 = .ok (.ireturn, 1) := by decide +kernel
theorem dX4_settle_0 : decode cX4_settle 0 = .ok (.iload_n 1, 1) := by decide +kernel
theorem dX4_settle_1 : decode cX4_settle 1 = .ok (.ifCond .lt 31, 3) := by decide +kernel
theorem dX4_settle_4 : decode cX4_settle 4 = .ok (.iload_n 1, 1) := by decide +kernel
theorem dX4_settle_5 : decode cX4_settle 5 = .ok (.aload_n 0, 1) := by decide +kernel
theorem dX4_settle_6 : decode cX4_settle 6 = .ok (.getfield 25, 3) := by decide +kernel
theorem dX4_settle_9 : decode cX4_settle 9 = .ok (.invokevirtual 99, 3) := by decide +kernel
theorem dX4_settle_12 : decode cX4_settle 12 = .ok (.if_icmp .ge 20, 3) := by decide +kernel
theorem dX4_settle_15 : decode cX4_settle 15 = .ok (.aload_n 0, 1) := by decide +kernel
theorem dX4_settle_16 : decode cX4_settle 16 = .ok (.getfield 25, 3) := by decide +kernel
theorem dX4_settle_19 : decode cX4_settle 19 = .ok (.iload_n 1, 1) := by decide +kernel
theorem dX4_settle_20 : decode cX4_settle 20 = .ok (.invokevirtual 186, 3) := by decide +kernel
theorem dX4_settle_23 : decode cX4_settle 23 = .ok (.checkcast 190, 3) := by decide +kernel
theorem dX4_settle_26 : decode cX4_settle 26 = .ok (.getfield 196, 3) := by decide +kernel
theorem dX4_settle_29 : decode cX4_settle 29 = .ok (.ifCond .ne 13, 3) := by decide +kernel
theorem dX4_settle_32 : decode cX4_settle 32 = .ok (.new 134, 3) := by decide +kernel
theorem dX4_settle_35 : decode cX4_settle 35 = .ok (.dup, 1) := by decide +kernel
theorem dX4_settle_36 : decode cX4_settle 36 = .ok (.ldc 207, 2) := by decide +kernel
theorem dX4_settle_38 : decode cX4_settle 38 = .ok (.invokespecial 138, 3) := by decide +kernel
theorem dX4_settle_41 : decode cX4_settle 41 = .ok (.athrow, 1) := by decide +kernel
theorem dX4_settle_42 : decode cX4_settle 42 = .ok (.aload_n 0, 1) := by decide +kernel
theorem dX4_settle_43 : decode cX4_settle 43 = .ok (.getfield 25, 3) := by decide +kernel
theorem dX4_settle_46 : decode cX4_settle 46 = .ok (.iload_n 1, 1) := by decide +kernel
theorem dX4_settle_47 : decode cX4_settle 47 = .ok (.invokevirtual 186, 3) := by decide +kernel
theorem dX4_settle_50 : decode cX4_settle 50 = .ok (.checkcast 190, 3) := by decide +kernel
theorem dX4_settle_53 : decode cX4_settle 53 = .ok (.astore_n 3, 1) := by decide +kernel
theorem dX4_settle_54 : decode cX4_settle 54 = .ok (.iload_n 2, 1) := by decide +kernel
theorem dX4_settle_55 : decode cX4_settle 55 = .ok (.ifCond .lt 11, 3) := by decide +kernel
theorem dX4_settle_58 : decode cX4_settle 58 = .ok (.iload_n 2, 1) := by decide +kernel
theorem dX4_settle_59 : decode cX4_settle 59 = .ok (.aload_n 3, 1) := by decide +kernel
theorem dX4_settle_60 : decode cX4_settle 60 = .ok (.getfield 209, 3) := by decide +kernel
theorem dX4_settle_63 : decode cX4_settle 63 = .ok (.if_icmp .le 13, 3) := by decide +kernel
theorem dX4_settle_66 : decode cX4_settle 66 = .ok (.new 65, 3) := by decide +kernel
theorem dX4_settle_69 : decode cX4_settle 69 = .ok (.dup, 1) := by decide +kernel
theorem dX4_settle_70 : decode cX4_settle 70 = .ok (.ldc 177, 2) := by decide +kernel
theorem dX4_settle_72 : decode cX4_settle 72 = .ok (.invokespecial 69, 3) := by decide +kernel
theorem dX4_settle_75 : decode cX4_settle 75 = .ok (.athrow, 1) := by decide +kernel
theorem dX4_settle_76 : decode cX4_settle 76 = .ok (.aload_n 3, 1) := by decide +kernel
theorem dX4_settle_77 : decode cX4_settle 77 = .ok (.iconst 0, 1) := by decide +kernel
theorem dX4_settle_78 : decode cX4_settle 78 = .ok (.putfield 196, 3) := by decide +kernel
theorem dX4_settle_81 : decode cX4_settle 81 = .ok (.aload_n 3, 1) := by decide +kernel
theorem dX4_settle_82 : decode cX4_settle 82 = .ok (.getfield 192, 3) := by decide +kernel
theorem dX4_settle_85 : decode cX4_settle 85 = .ok (.dup, 1) := by decide +kernel
theorem dX4_settle_86 : decode cX4_settle 86 = .ok (.getfield 174, 3) := by decide +kernel
theorem dX4_settle_89 : decode cX4_settle 89 = .ok (.iload_n 2, 1) := by decide +kernel
theorem dX4_settle_90 : decode cX4_settle 90 = .ok (.iadd, 1) := by decide +kernel
theorem dX4_settle_91 : decode cX4_settle 91 = .ok (.putfield 174, 3) := by decide +kernel
theorem dX4_settle_94 : decode cX4_settle 94 = .ok (.aload_n 0, 1) := by decide +kernel
theorem dX4_settle_95 : decode cX4_settle 95 = .ok (.aload_n 3, 1) := by decide +kernel
theorem dX4_settle_96 : decode cX4_settle 96 = .ok (.getfield 192, 3) := by decide +kernel
theorem dX4_settle_99 : decode cX4_settle 99 = .ok (.iload_n 2, 1) := by decide +kernel
theorem dX4_settle_100 : decode cX4_settle 100 = .ok (.aload_n 3, 1) := by decide +kernel
theorem dX4_settle_101 : decode cX4_settle 101 = .ok (.getfield 209, 3) := by decide +kernel
theorem dX4_settle_104 : decode cX4_settle 104 = .ok (.isub, 1) := by decide +kernel
theorem dX4_settle_105 : decode cX4_settle 105 = .ok (.iconst 0, 1) := by decide +kernel
theorem dX4_settle_106 : decode cX4_settle 106 = .ok (.invokevirtual 165, 3) := by decide +kernel
theorem dX4_settle_109 : decode cX4_settle 109 = .ok (.aload_n 0, 1) := by decide +kernel
theorem dX4_settle_110 : decode cX4_settle 110 = .ok (.invokevirtual 127, 3) := by decide +kernel
theorem dX4_settle_113 : decode cX4_settle 113 = .ok (.aload_n 3, 1) := by decide +kernel
theorem dX4_settle_114 : decode cX4_settle 114 = .ok (.getfield 192, 3) := by decide +kernel
theorem dX4_settle_117 : decode cX4_settle 117 = .ok (.getfield 174, 3) := by decide +kernel
theorem dX4_settle_120 : decode cX4_settle 120 = .ok (.ireturn, 1) := by decide +kernel
theorem dX4_setLimits_0 : decode cX4_setLimits 0 = .ok (.aload_n 0, 1) := by decide +kernel
theorem dX4_setLimits_1 : decode cX4_setLimits 1 = .ok (.iload_n 1, 1) := by decide +kernel
theorem dX4_setLimits_2 : decode cX4_setLimits 2 = .ok (.iload_n 2, 1) := by decide +kernel
theorem dX4_setLimits_3 : decode cX4_setLimits 3 = .ok (.invokevirtual 146, 3) := by decide +kernel
theorem dX4_setLimits_6 : decode cX4_setLimits 6 = .ok (.astore 6, 2) := by decide +kernel
theorem dX4_setLimits_8 : decode cX4_setLimits 8 = .ok (.iload_n 3, 1) := by decide +kernel
theorem dX4_setLimits_9 : decode cX4_setLimits 9 = .ok (.ldc 210, 2) := by decide +kernel
theorem dX4_setLimits_11 : decode cX4_setLimits 11 = .ok (.invokestatic 211, 3) := by decide +kernel
theorem dX4_setLimits_14 : decode cX4_setLimits 14 = .ok (.ifCond .eq 23, 3) := by decide +kernel
theorem dX4_setLimits_17 : decode cX4_setLimits 17 = .ok (.iload 4, 2) := by decide +kernel
theorem dX4_setLimits_19 : decode cX4_setLimits 19 = .ok (.ldc 210, 2) := by decide +kernel
theorem dX4_setLimits_21 : decode cX4_setLimits 21 = .ok (.invokestatic 211, 3) := by decide +kernel
theorem dX4_setLimits_24 : decode cX4_setLimits 24 = .ok (.ifCond .eq 13, 3) := by decide +kernel
theorem dX4_setLimits_27 : decode cX4_setLimits 27 = .ok (.iload 5, 2) := by decide +kernel
theorem dX4_setLimits_29 : decode cX4_setLimits 29 = .ok (.bipush 100, 2) := by decide +kernel
theorem dX4_setLimits_31 : decode cX4_setLimits 31 = .ok (.invokestatic 211, 3) := by decide +kernel
theorem dX4_setLimits_34 : decode cX4_setLimits 34 = .ok (.ifCond .ne 13, 3) := by decide +kernel
theorem dX4_setLimits_37 : decode cX4_setLimits 37 = .ok (.new 65, 3) := by decide +kernel
theorem dX4_setLimits_40 : decode cX4_setLimits 40 = .ok (.dup, 1) := by decide +kernel
theorem dX4_setLimits_41 : decode cX4_setLimits 41 = .ok (.ldc 215, 2) := by decide +kernel
theorem dX4_setLimits_43 : decode cX4_setLimits 43 = .ok (.invokespecial 69, 3) := by decide +kernel
theorem dX4_setLimits_46 : decode cX4_setLimits 46 = .ok (.athrow, 1) := by decide +kernel
theorem dX4_setLimits_47 : decode cX4_setLimits 47 = .ok (.aload 6, 2) := by decide +kernel
theorem dX4_setLimits_49 : decode cX4_setLimits 49 = .ok (.iload_n 3, 1) := by decide +kernel
theorem dX4_setLimits_50 : decode cX4_setLimits 50 = .ok (.putfield 217, 3) := by decide +kernel
theorem dX4_setLimits_53 : decode cX4_setLimits 53 = .ok (.aload 6, 2) := by decide +kernel
theorem dX4_setLimits_55 : decode cX4_setLimits 55 = .ok (.iload 4, 2) := by decide +kernel
theorem dX4_setLimits_57 : decode cX4_setLimits 57 = .ok (.putfield 220, 3) := by decide +kernel
theorem dX4_setLimits_60 : decode cX4_setLimits 60 = .ok (.aload 6, 2) := by decide +kernel
theorem dX4_setLimits_62 : decode cX4_setLimits 62 = .ok (.iload 5, 2) := by decide +kernel
theorem dX4_setLimits_64 : decode cX4_setLimits 64 = .ok (.putfield 223, 3) := by decide +kernel
theorem dX4_setLimits_67 : decode cX4_setLimits 67 = .ok (.aload 6, 2) := by decide +kernel
theorem dX4_setLimits_69 : decode cX4_setLimits 69 = .ok (.aload_n 0, 1) := by decide +kernel
theorem dX4_setLimits_70 : decode cX4_setLimits 70 = .ok (.getfield 38, 3) := by decide +kernel
theorem dX4_setLimits_73 : decode cX4_setLimits 73 = .ok (.invokevirtual 226, 3) := by decide +kernel
theorem dX4_setLimits_76 : decode cX4_setLimits 76 = .ok (.return_, 1) := by decide +kernel
theorem dX4_pass_0 : decode cX4_pass 0 = .ok (.iload_n 1, 1) := by decide +kernel
theorem dX4_pass_1 : decode cX4_pass 1 = .ok (.iconst 1, 1) := by decide +kernel
theorem dX4_pass_2 : decode cX4_pass 2 = .ok (.if_icmp .lt 10, 3) := by decide +kernel
theorem dX4_pass_5 : decode cX4_pass 5 = .ok (.iload_n 1, 1) := by decide +kernel
theorem dX4_pass_6 : decode cX4_pass 6 = .ok (.sipush 1000, 3) := by decide +kernel
theorem dX4_pass_9 : decode cX4_pass 9 = .ok (.if_icmp .le 13, 3) := by decide +kernel
theorem dX4_pass_12 : decode cX4_pass 12 = .ok (.new 65, 3) := by decide +kernel
theorem dX4_pass_15 : decode cX4_pass 15 = .ok (.dup, 1) := by decide +kernel
theorem dX4_pass_16 : decode cX4_pass 16 = .ok (.ldc 229, 2) := by decide +kernel
theorem dX4_pass_18 : decode cX4_pass 18 = .ok (.invokespecial 69, 3) := by decide +kernel
theorem dX4_pass_21 : decode cX4_pass 21 = .ok (.athrow, 1) := by decide +kernel
theorem dX4_pass_22 : decode cX4_pass 22 = .ok (.aload_n 0, 1) := by decide +kernel
theorem dX4_pass_23 : decode cX4_pass 23 = .ok (.getfield 38, 3) := by decide +kernel
theorem dX4_pass_26 : decode cX4_pass 26 = .ok (.iload_n 1, 1) := by decide +kernel
theorem dX4_pass_27 : decode cX4_pass 27 = .ok (.iadd, 1) := by decide +kernel
theorem dX4_pass_28 : decode cX4_pass 28 = .ok (.ldc 210, 2) := by decide +kernel
theorem dX4_pass_30 : decode cX4_pass 30 = .ok (.if_icmp .le 13, 3) := by decide +kernel
theorem dX4_pass_33 : decode cX4_pass 33 = .ok (.new 76, 3) := by decide +kernel
theorem dX4_pass_36 : decode cX4_pass 36 = .ok (.dup, 1) := by decide +kernel
theorem dX4_pass_37 : decode cX4_pass 37 = .ok (.ldc 231, 2) := by decide +kernel
theorem dX4_pass_39 : decode cX4_pass 39 = .ok (.invokespecial 80, 3) := by decide +kernel
theorem dX4_pass_42 : decode cX4_pass 42 = .ok (.athrow, 1) := by decide +kernel
theorem dX4_pass_43 : decode cX4_pass 43 = .ok (.aload_n 0, 1) := by decide +kernel
theorem dX4_pass_44 : decode cX4_pass 44 = .ok (.dup, 1) := by decide +kernel
theorem dX4_pass_45 : decode cX4_pass 45 = .ok (.getfield 38, 3) := by decide +kernel
theorem dX4_pass_48 : decode cX4_pass 48 = .ok (.iload_n 1, 1) := by decide +kernel
theorem dX4_pass_49 : decode cX4_pass 49 = .ok (.iadd, 1) := by decide +kernel
theorem dX4_pass_50 : decode cX4_pass 50 = .ok (.putfield 38, 3) := by decide +kernel
theorem dX4_pass_53 : decode cX4_pass 53 = .ok (.aload_n 0, 1) := by decide +kernel
theorem dX4_pass_54 : decode cX4_pass 54 = .ok (.getfield 38, 3) := by decide +kernel
theorem dX4_pass_57 : decode cX4_pass 57 = .ok (.ireturn, 1) := by decide +kernel
theorem dX4_used_0 : decode cX4_used 0 = .ok (.aload_n 0, 1) := by decide +kernel
theorem dX4_used_1 : decode cX4_used 1 = .ok (.iload_n 1, 1) := by decide +kernel
theorem dX4_used_2 : decode cX4_used 2 = .ok (.iload_n 2, 1) := by decide +kernel
theorem dX4_used_3 : decode cX4_used 3 = .ok (.invokevirtual 146, 3) := by decide +kernel
theorem dX4_used_6 : decode cX4_used 6 = .ok (.getfield 233, 3) := by decide +kernel
theorem dX4_used_9 : decode cX4_used 9 = .ok (.ireturn, 1) := by decide +kernel
theorem dX4_filesOf_0 : decode cX4_filesOf 0 = .ok (.aload_n 0, 1) := by decide +kernel
theorem dX4_filesOf_1 : decode cX4_filesOf 1 = .ok (.iload_n 1, 1) := by decide +kernel
theorem dX4_filesOf_2 : decode cX4_filesOf 2 = .ok (.iload_n 2, 1) := by decide +kernel
theorem dX4_filesOf_3 : decode cX4_filesOf 3 = .ok (.invokevirtual 146, 3) := by decide +kernel
theorem dX4_filesOf_6 : decode cX4_filesOf 6 = .ok (.getfield 236, 3) := by decide +kernel
theorem dX4_filesOf_9 : decode cX4_filesOf 9 = .ok (.ireturn, 1) := by decide +kernel
theorem dX4_usedByFiles_0 : decode cX4_usedByFiles 0 = .ok (.aload_n 0, 1) := by decide +kernel
theorem dX4_usedByFiles_1 : decode cX4_usedByFiles 1 = .ok (.iload_n 1, 1) := by decide +kernel
theorem dX4_usedByFiles_2 : decode cX4_usedByFiles 2 = .ok (.iload_n 2, 1) := by decide +kernel
theorem dX4_usedByFiles_3 : decode cX4_usedByFiles 3 = .ok (.invokevirtual 146, 3) := by decide +kernel
theorem dX4_usedByFiles_6 : decode cX4_usedByFiles 6 = .ok (.astore_n 3, 1) := by decide +kernel
theorem dX4_usedByFiles_7 : decode cX4_usedByFiles 7 = .ok (.iconst 0, 1) := by decide +kernel
theorem dX4_usedByFiles_8 : decode cX4_usedByFiles 8 = .ok (.istore 4, 2) := by decide +kernel
theorem dX4_usedByFiles_10 : decode cX4_usedByFiles 10 = .ok (.iconst 0, 1) := by decide +kernel
theorem dX4_usedByFiles_11 : decode cX4_usedByFiles 11 = .ok (.istore 5, 2) := by decide +kernel
theorem dX4_usedByFiles_13 : decode cX4_usedByFiles 13 = .ok (.iload 5, 2) := by decide +kernel
theorem dX4_usedByFiles_15 : decode cX4_usedByFiles 15 = .ok (.aload_n 0, 1) := by decide +kernel
theorem dX4_usedByFiles_16 : decode cX4_usedByFiles 16 = .ok (.getfield 22, 3) := by decide +kernel
theorem dX4_usedByFiles_19 : decode cX4_usedByFiles 19 = .ok (.invokevirtual 99, 3) := by decide +kernel
theorem dX4_usedByFiles_22 : decode cX4_usedByFiles 22 = .ok (.if_icmp .ge 52, 3) := by decide +kernel
theorem dX4_usedByFiles_25 : decode cX4_usedByFiles 25 = .ok (.aload_n 0, 1) := by decide +kernel
theorem dX4_usedByFiles_26 : decode cX4_usedByFiles 26 = .ok (.getfield 22, 3) := by decide +kernel
theorem dX4_usedByFiles_29 : decode cX4_usedByFiles 29 = .ok (.iload 5, 2) := by decide +kernel
theorem dX4_usedByFiles_31 : decode cX4_usedByFiles 31 = .ok (.invokevirtual 186, 3) := by decide +kernel
theorem dX4_usedByFiles_34 : decode cX4_usedByFiles 34 = .ok (.checkcast 152, 3) := by decide +kernel
theorem dX4_usedByFiles_37 : decode cX4_usedByFiles 37 = .ok (.astore 6, 2) := by decide +kernel
theorem dX4_usedByFiles_39 : decode cX4_usedByFiles 39 = .ok (.aload 6, 2) := by decide +kernel
theorem dX4_usedByFiles_41 : decode cX4_usedByFiles 41 = .ok (.getfield 183, 3) := by decide +kernel
theorem dX4_usedByFiles_44 : decode cX4_usedByFiles 44 = .ok (.ifCond .ne 24, 3) := by decide +kernel
theorem dX4_usedByFiles_47 : decode cX4_usedByFiles 47 = .ok (.aload_n 0, 1) := by decide +kernel
theorem dX4_usedByFiles_48 : decode cX4_usedByFiles 48 = .ok (.aload 6, 2) := by decide +kernel
theorem dX4_usedByFiles_50 : decode cX4_usedByFiles 50 = .ok (.aload_n 3, 1) := by decide +kernel
theorem dX4_usedByFiles_51 : decode cX4_usedByFiles 51 = .ok (.invokevirtual 239, 3) := by decide +kernel
theorem dX4_usedByFiles_54 : decode cX4_usedByFiles 54 = .ok (.ifCond .eq 14, 3) := by decide +kernel
theorem dX4_usedByFiles_57 : decode cX4_usedByFiles 57 = .ok (.iload 4, 2) := by decide +kernel
theorem dX4_usedByFiles_59 : decode cX4_usedByFiles 59 = .ok (.aload_n 0, 1) := by decide +kernel
theorem dX4_usedByFiles_60 : decode cX4_usedByFiles 60 = .ok (.aload 6, 2) := by decide +kernel
theorem dX4_usedByFiles_62 : decode cX4_usedByFiles 62 = .ok (.invokevirtual 179, 3) := by decide +kernel
theorem dX4_usedByFiles_65 : decode cX4_usedByFiles 65 = .ok (.iadd, 1) := by decide +kernel
theorem dX4_usedByFiles_66 : decode cX4_usedByFiles 66 = .ok (.istore 4, 2) := by decide +kernel
theorem dX4_usedByFiles_68 : decode cX4_usedByFiles 68 = .ok (.iinc 5 1, 3) := by decide +kernel
theorem dX4_usedByFiles_71 : decode cX4_usedByFiles 71 = .ok (.goto (-58), 3) := by decide +kernel
theorem dX4_usedByFiles_74 : decode cX4_usedByFiles 74 = .ok (.iload 4, 2) := by decide +kernel
theorem dX4_usedByFiles_76 : decode cX4_usedByFiles 76 = .ok (.ireturn, 1) := by decide +kernel
theorem dX4_grace_0 : decode cX4_grace 0 = .ok (.aload_n 0, 1) := by decide +kernel
theorem dX4_grace_1 : decode cX4_grace 1 = .ok (.iload_n 1, 1) := by decide +kernel
theorem dX4_grace_2 : decode cX4_grace 2 = .ok (.iload_n 2, 1) := by decide +kernel
theorem dX4_grace_3 : decode cX4_grace 3 = .ok (.invokevirtual 146, 3) := by decide +kernel
theorem dX4_grace_6 : decode cX4_grace 6 = .ok (.aload_n 0, 1) := by decide +kernel
theorem dX4_grace_7 : decode cX4_grace 7 = .ok (.getfield 38, 3) := by decide +kernel
theorem dX4_grace_10 : decode cX4_grace 10 = .ok (.invokevirtual 243, 3) := by decide +kernel
theorem dX4_grace_13 : decode cX4_grace 13 = .ok (.ireturn, 1) := by decide +kernel
theorem dX4_room_0 : decode cX4_room 0 = .ok (.aload_n 0, 1) := by decide +kernel
theorem dX4_room_1 : decode cX4_room 1 = .ok (.aload_n 0, 1) := by decide +kernel
theorem dX4_room_2 : decode cX4_room 2 = .ok (.iload_n 1, 1) := by decide +kernel
theorem dX4_room_3 : decode cX4_room 3 = .ok (.invokevirtual 170, 3) := by decide +kernel
theorem dX4_room_6 : decode cX4_room 6 = .ok (.invokevirtual 246, 3) := by decide +kernel
theorem dX4_room_9 : decode cX4_room 9 = .ok (.astore_n 2, 1) := by decide +kernel
theorem dX4_room_10 : decode cX4_room 10 = .ok (.iconst (-1), 1) := by decide +kernel
theorem dX4_room_11 : decode cX4_room 11 = .ok (.istore_n 3, 1) := by decide +kernel
theorem dX4_room_12 : decode cX4_room 12 = .ok (.iconst 0, 1) := by decide +kernel
theorem dX4_room_13 : decode cX4_room 13 = .ok (.istore 4, 2) := by decide +kernel
theorem dX4_room_15 : decode cX4_room 15 = .ok (.iload 4, 2) := by decide +kernel
theorem dX4_room_17 : decode cX4_room 17 = .ok (.aload_n 2, 1) := by decide +kernel
theorem dX4_room_18 : decode cX4_room 18 = .ok (.invokevirtual 99, 3) := by decide +kernel
theorem dX4_room_21 : decode cX4_room 21 = .ok (.if_icmp .ge 47, 3) := by decide +kernel
theorem dX4_room_24 : decode cX4_room 24 = .ok (.aload_n 2, 1) := by decide +kernel
theorem dX4_room_25 : decode cX4_room 25 = .ok (.iload 4, 2) := by decide +kernel
theorem dX4_room_27 : decode cX4_room 27 = .ok (.invokevirtual 186, 3) := by decide +kernel
theorem dX4_room_30 : decode cX4_room 30 = .ok (.checkcast 49, 3) := by decide +kernel
theorem dX4_room_33 : decode cX4_room 33 = .ok (.aload_n 0, 1) := by decide +kernel
theorem dX4_room_34 : decode cX4_room 34 = .ok (.getfield 38, 3) := by decide +kernel
theorem dX4_room_37 : decode cX4_room 37 = .ok (.invokevirtual 250, 3) := by decide +kernel
theorem dX4_room_40 : decode cX4_room 40 = .ok (.istore 5, 2) := by decide +kernel
theorem dX4_room_42 : decode cX4_room 42 = .ok (.iload 5, 2) := by decide +kernel
theorem dX4_room_44 : decode cX4_room 44 = .ok (.iconst (-1), 1) := by decide +kernel
theorem dX4_room_45 : decode cX4_room 45 = .ok (.if_icmp .eq 17, 3) := by decide +kernel
theorem dX4_room_48 : decode cX4_room 48 = .ok (.iload_n 3, 1) := by decide +kernel
theorem dX4_room_49 : decode cX4_room 49 = .ok (.iconst (-1), 1) := by decide +kernel
theorem dX4_room_50 : decode cX4_room 50 = .ok (.if_icmp .eq 9, 3) := by decide +kernel
theorem dX4_room_53 : decode cX4_room 53 = .ok (.iload 5, 2) := by decide +kernel
theorem dX4_room_55 : decode cX4_room 55 = .ok (.iload_n 3, 1) := by decide +kernel
theorem dX4_room_56 : decode cX4_room 56 = .ok (.if_icmp .ge 6, 3) := by decide +kernel
theorem dX4_room_59 : decode cX4_room 59 = .ok (.iload 5, 2) := by decide +kernel
theorem dX4_room_61 : decode cX4_room 61 = .ok (.istore_n 3, 1) := by decide +kernel
theorem dX4_room_62 : decode cX4_room 62 = .ok (.iinc 4 1, 3) := by decide +kernel
theorem dX4_room_65 : decode cX4_room 65 = .ok (.goto (-50), 3) := by decide +kernel
theorem dX4_room_68 : decode cX4_room 68 = .ok (.iload_n 3, 1) := by decide +kernel
theorem dX4_room_69 : decode cX4_room 69 = .ok (.ireturn, 1) := by decide +kernel
theorem dX4_beginRecount_0 : decode cX4_beginRecount 0 = .ok (.aload_n 0, 1) := by decide +kernel
theorem dX4_beginRecount_1 : decode cX4_beginRecount 1 = .ok (.iconst 1, 1) := by decide +kernel
theorem dX4_beginRecount_2 : decode cX4_beginRecount 2 = .ok (.putfield 42, 3) := by decide +kernel
theorem dX4_beginRecount_5 : decode cX4_beginRecount 5 = .ok (.aload_n 0, 1) := by decide +kernel
theorem dX4_beginRecount_6 : decode cX4_beginRecount 6 = .ok (.iconst 0, 1) := by decide +kernel
theorem dX4_beginRecount_7 : decode cX4_beginRecount 7 = .ok (.putfield 46, 3) := by decide +kernel
theorem dX4_beginRecount_10 : decode cX4_beginRecount 10 = .ok (.iconst 0, 1) := by decide +kernel
theorem dX4_beginRecount_11 : decode cX4_beginRecount 11 = .ok (.istore_n 1, 1) := by decide +kernel
theorem dX4_beginRecount_12 : decode cX4_beginRecount 12 = .ok (.iload_n 1, 1) := by decide +kernel
theorem dX4_beginRecount_13 : decode cX4_beginRecount 13 = .ok (.aload_n 0, 1) := by decide +kernel
theorem dX4_beginRecount_14 : decode cX4_beginRecount 14 = .ok (.getfield 10, 3) := by decide +kernel
theorem dX4_beginRecount_17 : decode cX4_beginRecount 17 = .ok (.invokevirtual 99, 3) := by decide +kernel
theorem dX4_beginRecount_20 : decode cX4_beginRecount 20 = .ok (.if_icmp .ge 24, 3) := by decide +kernel
theorem dX4_beginRecount_23 : decode cX4_beginRecount 23 = .ok (.aload_n 0, 1) := by decide +kernel
theorem dX4_beginRecount_24 : decode cX4_beginRecount 24 = .ok (.getfield 10, 3) := by decide +kernel
theorem dX4_beginRecount_27 : decode cX4_beginRecount 27 = .ok (.iload_n 1, 1) := by decide +kernel
theorem dX4_beginRecount_28 : decode cX4_beginRecount 28 = .ok (.invokevirtual 186, 3) := by decide +kernel
theorem dX4_beginRecount_31 : decode cX4_beginRecount 31 = .ok (.checkcast 49, 3) := by decide +kernel
theorem dX4_beginRecount_34 : decode cX4_beginRecount 34 = .ok (.iconst 0, 1) := by decide +kernel
theorem dX4_beginRecount_35 : decode cX4_beginRecount 35 = .ok (.putfield 253, 3) := by decide +kernel
theorem dX4_beginRecount_38 : decode cX4_beginRecount 38 = .ok (.iinc 1 1, 3) := by decide +kernel
theorem dX4_beginRecount_41 : decode cX4_beginRecount 41 = .ok (.goto (-29), 3) := by decide +kernel
theorem dX4_beginRecount_44 : decode cX4_beginRecount 44 = .ok (.iconst 0, 1) := by decide +kernel
theorem dX4_beginRecount_45 : decode cX4_beginRecount 45 = .ok (.istore_n 1, 1) := by decide +kernel
theorem dX4_beginRecount_46 : decode cX4_beginRecount 46 = .ok (.iload_n 1, 1) := by decide +kernel
theorem dX4_beginRecount_47 : decode cX4_beginRecount 47 = .ok (.aload_n 0, 1) := by decide +kernel
theorem dX4_beginRecount_48 : decode cX4_beginRecount 48 = .ok (.getfield 16, 3) := by decide +kernel
theorem dX4_beginRecount_51 : decode cX4_beginRecount 51 = .ok (.invokevirtual 99, 3) := by decide +kernel
theorem dX4_beginRecount_54 : decode cX4_beginRecount 54 = .ok (.if_icmp .ge 24, 3) := by decide +kernel
theorem dX4_beginRecount_57 : decode cX4_beginRecount 57 = .ok (.aload_n 0, 1) := by decide +kernel
theorem dX4_beginRecount_58 : decode cX4_beginRecount 58 = .ok (.getfield 16, 3) := by decide +kernel
theorem dX4_beginRecount_61 : decode cX4_beginRecount 61 = .ok (.iload_n 1, 1) := by decide +kernel
theorem dX4_beginRecount_62 : decode cX4_beginRecount 62 = .ok (.invokevirtual 186, 3) := by decide +kernel
theorem dX4_beginRecount_65 : decode cX4_beginRecount 65 = .ok (.checkcast 49, 3) := by decide +kernel
theorem dX4_beginRecount_68 : decode cX4_beginRecount 68 = .ok (.iconst 0, 1) := by decide +kernel
theorem dX4_beginRecount_69 : decode cX4_beginRecount 69 = .ok (.putfield 253, 3) := by decide +kernel
theorem dX4_beginRecount_72 : decode cX4_beginRecount 72 = .ok (.iinc 1 1, 3) := by decide +kernel
theorem dX4_beginRecount_75 : decode cX4_beginRecount 75 = .ok (.goto (-29), 3) := by decide +kernel
theorem dX4_beginRecount_78 : decode cX4_beginRecount 78 = .ok (.iconst 0, 1) := by decide +kernel
theorem dX4_beginRecount_79 : decode cX4_beginRecount 79 = .ok (.istore_n 1, 1) := by decide +kernel
theorem dX4_beginRecount_80 : decode cX4_beginRecount 80 = .ok (.iload_n 1, 1) := by decide +kernel
theorem dX4_beginRecount_81 : decode cX4_beginRecount 81 = .ok (.aload_n 0, 1) := by decide +kernel
theorem dX4_beginRecount_82 : decode cX4_beginRecount 82 = .ok (.getfield 19, 3) := by decide +kernel
theorem dX4_beginRecount_85 : decode cX4_beginRecount 85 = .ok (.invokevirtual 99, 3) := by decide +kernel
theorem dX4_beginRecount_88 : decode cX4_beginRecount 88 = .ok (.if_icmp .ge 27, 3) := by decide +kernel
theorem dX4_beginRecount_91 : decode cX4_beginRecount 91 = .ok (.aload_n 0, 1) := by decide +kernel
theorem dX4_beginRecount_92 : decode cX4_beginRecount 92 = .ok (.getfield 19, 3) := by decide +kernel
theorem dX4_beginRecount_95 : decode cX4_beginRecount 95 = .ok (.iload_n 1, 1) := by decide +kernel
theorem dX4_beginRecount_96 : decode cX4_beginRecount 96 = .ok (.invokevirtual 186, 3) := by decide +kernel
theorem dX4_beginRecount_99 : decode cX4_beginRecount 99 = .ok (.checkcast 56, 3) := by decide +kernel
theorem dX4_beginRecount_102 : decode cX4_beginRecount 102 = .ok (.getfield 256, 3) := by decide +kernel
theorem dX4_beginRecount_105 : decode cX4_beginRecount 105 = .ok (.iconst 0, 1) := by decide +kernel
theorem dX4_beginRecount_106 : decode cX4_beginRecount 106 = .ok (.putfield 253, 3) := by decide +kernel
theorem dX4_beginRecount_109 : decode cX4_beginRecount 109 = .ok (.iinc 1 1, 3) := by decide +kernel
theorem dX4_beginRecount_112 : decode cX4_beginRecount 112 = .ok (.goto (-32), 3) := by decide +kernel
theorem dX4_beginRecount_115 : decode cX4_beginRecount 115 = .ok (.aload_n 0, 1) := by decide +kernel
theorem dX4_beginRecount_116 : decode cX4_beginRecount 116 = .ok (.getfield 22, 3) := by decide +kernel
theorem dX4_beginRecount_119 : decode cX4_beginRecount 119 = .ok (.invokevirtual 99, 3) := by decide +kernel
theorem dX4_beginRecount_122 : decode cX4_beginRecount 122 = .ok (.ireturn, 1) := by decide +kernel
theorem dX4_recount_0 : decode cX4_recount 0 = .ok (.iload_n 1, 1) := by decide +kernel
theorem dX4_recount_1 : decode cX4_recount 1 = .ok (.iconst 1, 1) := by decide +kernel
theorem dX4_recount_2 : decode cX4_recount 2 = .ok (.if_icmp .lt 9, 3) := by decide +kernel
theorem dX4_recount_5 : decode cX4_recount 5 = .ok (.iload_n 1, 1) := by decide +kernel
theorem dX4_recount_6 : decode cX4_recount 6 = .ok (.bipush 40, 2) := by decide +kernel
theorem dX4_recount_8 : decode cX4_recount 8 = .ok (.if_icmp .le 14, 3) := by decide +kernel
theorem dX4_recount_11 : decode cX4_recount 11 = .ok (.new 65, 3) := by decide +kernel
theorem dX4_recount_14 : decode cX4_recount 14 = .ok (.dup, 1) := by decide +kernel
theorem dX4_recount_15 : decode cX4_recount 15 = .ok (.ldc_w 260, 3) := by decide +kernel
theorem dX4_recount_18 : decode cX4_recount 18 = .ok (.invokespecial 69, 3) := by decide +kernel
theorem dX4_recount_21 : decode cX4_recount 21 = .ok (.athrow, 1) := by decide +kernel
theorem dX4_recount_22 : decode cX4_recount 22 = .ok (.aload_n 0, 1) := by decide +kernel
theorem dX4_recount_23 : decode cX4_recount 23 = .ok (.getfield 42, 3) := by decide +kernel
theorem dX4_recount_26 : decode cX4_recount 26 = .ok (.ifCond .ne 14, 3) := by decide +kernel
theorem dX4_recount_29 : decode cX4_recount 29 = .ok (.new 76, 3) := by decide +kernel
theorem dX4_recount_32 : decode cX4_recount 32 = .ok (.dup, 1) := by decide +kernel
theorem dX4_recount_33 : decode cX4_recount 33 = .ok (.ldc_w 262, 3) := by decide +kernel
theorem dX4_recount_36 : decode cX4_recount 36 = .ok (.invokespecial 80, 3) := by decide +kernel
theorem dX4_recount_39 : decode cX4_recount 39 = .ok (.athrow, 1) := by decide +kernel
theorem dX4_recount_40 : decode cX4_recount 40 = .ok (.iconst 0, 1) := by decide +kernel
theorem dX4_recount_41 : decode cX4_recount 41 = .ok (.istore_n 2, 1) := by decide +kernel
theorem dX4_recount_42 : decode cX4_recount 42 = .ok (.iload_n 2, 1) := by decide +kernel
theorem dX4_recount_43 : decode cX4_recount 43 = .ok (.iload_n 1, 1) := by decide +kernel
theorem dX4_recount_44 : decode cX4_recount 44 = .ok (.if_icmp .ge 51, 3) := by decide +kernel
theorem dX4_recount_47 : decode cX4_recount 47 = .ok (.aload_n 0, 1) := by decide +kernel
theorem dX4_recount_48 : decode cX4_recount 48 = .ok (.getfield 46, 3) := by decide +kernel
theorem dX4_recount_51 : decode cX4_recount 51 = .ok (.aload_n 0, 1) := by decide +kernel
theorem dX4_recount_52 : decode cX4_recount 52 = .ok (.getfield 22, 3) := by decide +kernel
theorem dX4_recount_55 : decode cX4_recount 55 = .ok (.invokevirtual 99, 3) := by decide +kernel
theorem dX4_recount_58 : decode cX4_recount 58 = .ok (.if_icmp .ge 37, 3) := by decide +kernel
theorem dX4_recount_61 : decode cX4_recount 61 = .ok (.aload_n 0, 1) := by decide +kernel
theorem dX4_recount_62 : decode cX4_recount 62 = .ok (.aload_n 0, 1) := by decide +kernel
theorem dX4_recount_63 : decode cX4_recount 63 = .ok (.getfield 22, 3) := by decide +kernel
theorem dX4_recount_66 : decode cX4_recount 66 = .ok (.aload_n 0, 1) := by decide +kernel
theorem dX4_recount_67 : decode cX4_recount 67 = .ok (.getfield 46, 3) := by decide +kernel
theorem dX4_recount_70 : decode cX4_recount 70 = .ok (.invokevirtual 186, 3) := by decide +kernel
theorem dX4_recount_73 : decode cX4_recount 73 = .ok (.checkcast 152, 3) := by decide +kernel
theorem dX4_recount_76 : decode cX4_recount 76 = .ok (.invokevirtual 264, 3) := by decide +kernel
theorem dX4_recount_79 : decode cX4_recount 79 = .ok (.aload_n 0, 1) := by decide +kernel
theorem dX4_recount_80 : decode cX4_recount 80 = .ok (.dup, 1) := by decide +kernel
theorem dX4_recount_81 : decode cX4_recount 81 = .ok (.getfield 46, 3) := by decide +kernel
theorem dX4_recount_84 : decode cX4_recount 84 = .ok (.iconst 1, 1) := by decide +kernel
theorem dX4_recount_85 : decode cX4_recount 85 = .ok (.iadd, 1) := by decide +kernel
theorem dX4_recount_86 : decode cX4_recount 86 = .ok (.putfield 46, 3) := by decide +kernel
theorem dX4_recount_89 : decode cX4_recount 89 = .ok (.iinc 2 1, 3) := by decide +kernel
theorem dX4_recount_92 : decode cX4_recount 92 = .ok (.goto (-50), 3) := by decide +kernel
theorem dX4_recount_95 : decode cX4_recount 95 = .ok (.aload_n 0, 1) := by decide +kernel
theorem dX4_recount_96 : decode cX4_recount 96 = .ok (.getfield 22, 3) := by decide +kernel
theorem dX4_recount_99 : decode cX4_recount 99 = .ok (.invokevirtual 99, 3) := by decide +kernel
theorem dX4_recount_102 : decode cX4_recount 102 = .ok (.aload_n 0, 1) := by decide +kernel
theorem dX4_recount_103 : decode cX4_recount 103 = .ok (.getfield 46, 3) := by decide +kernel
theorem dX4_recount_106 : decode cX4_recount 106 = .ok (.isub, 1) := by decide +kernel
theorem dX4_recount_107 : decode cX4_recount 107 = .ok (.ireturn, 1) := by decide +kernel
theorem dX4_counted_0 : decode cX4_counted 0 = .ok (.aload_n 0, 1) := by decide +kernel
theorem dX4_counted_1 : decode cX4_counted 1 = .ok (.iload_n 1, 1) := by decide +kernel
theorem dX4_counted_2 : decode cX4_counted 2 = .ok (.iload_n 2, 1) := by decide +kernel
theorem dX4_counted_3 : decode cX4_counted 3 = .ok (.invokevirtual 146, 3) := by decide +kernel
theorem dX4_counted_6 : decode cX4_counted 6 = .ok (.astore_n 3, 1) := by decide +kernel
theorem dX4_counted_7 : decode cX4_counted 7 = .ok (.aload_n 0, 1) := by decide +kernel
theorem dX4_counted_8 : decode cX4_counted 8 = .ok (.getfield 42, 3) := by decide +kernel
theorem dX4_counted_11 : decode cX4_counted 11 = .ok (.ifCond .ne 14, 3) := by decide +kernel
theorem dX4_counted_14 : decode cX4_counted 14 = .ok (.new 76, 3) := by decide +kernel
theorem dX4_counted_17 : decode cX4_counted 17 = .ok (.dup, 1) := by decide +kernel
theorem dX4_counted_18 : decode cX4_counted 18 = .ok (.ldc_w 262, 3) := by decide +kernel
theorem dX4_counted_21 : decode cX4_counted 21 = .ok (.invokespecial 80, 3) := by decide +kernel
theorem dX4_counted_24 : decode cX4_counted 24 = .ok (.athrow, 1) := by decide +kernel
theorem dX4_counted_25 : decode cX4_counted 25 = .ok (.aload_n 3, 1) := by decide +kernel
theorem dX4_counted_26 : decode cX4_counted 26 = .ok (.getfield 253, 3) := by decide +kernel
theorem dX4_counted_29 : decode cX4_counted 29 = .ok (.ireturn, 1) := by decide +kernel
theorem dX4_projectOfNumber_0 : decode cX4_projectOfNumber 0 = .ok (.iload_n 1, 1) := by decide +kernel
theorem dX4_projectOfNumber_1 : decode cX4_projectOfNumber 1 = .ok (.ifCond .lt 14, 3) := by decide +kernel
theorem dX4_projectOfNumber_4 : decode cX4_projectOfNumber 4 = .ok (.iload_n 1, 1) := by decide +kernel
theorem dX4_projectOfNumber_5 : decode cX4_projectOfNumber 5 = .ok (.aload_n 0, 1) := by decide +kernel
theorem dX4_projectOfNumber_6 : decode cX4_projectOfNumber 6 = .ok (.getfield 19, 3) := by decide +kernel
theorem dX4_projectOfNumber_9 : decode cX4_projectOfNumber 9 = .ok (.invokevirtual 99, 3) := by decide +kernel
theorem dX4_projectOfNumber_12 : decode cX4_projectOfNumber 12 = .ok (.if_icmp .lt 14, 3) := by decide +kernel
theorem dX4_projectOfNumber_15 : decode cX4_projectOfNumber 15 = .ok (.new 134, 3) := by decide +kernel
theorem dX4_projectOfNumber_18 : decode cX4_projectOfNumber 18 = .ok (.dup, 1) := by decide +kernel
theorem dX4_projectOfNumber_19 : decode cX4_projectOfNumber 19 = .ok (.ldc_w 268, 3) := by decide +kernel
theorem dX4_projectOfNumber_22 : decode cX4_projectOfNumber 22 = .ok (.invokespecial 138, 3) := by decide +kernel
theorem dX4_projectOfNumber_25 : decode cX4_projectOfNumber 25 = .ok (.athrow, 1) := by decide +kernel
theorem dX4_projectOfNumber_26 : decode cX4_projectOfNumber 26 = .ok (.aload_n 0, 1) := by decide +kernel
theorem dX4_projectOfNumber_27 : decode cX4_projectOfNumber 27 = .ok (.getfield 19, 3) := by decide +kernel
theorem dX4_projectOfNumber_30 : decode cX4_projectOfNumber 30 = .ok (.iload_n 1, 1) := by decide +kernel
theorem dX4_projectOfNumber_31 : decode cX4_projectOfNumber 31 = .ok (.invokevirtual 186, 3) := by decide +kernel
theorem dX4_projectOfNumber_34 : decode cX4_projectOfNumber 34 = .ok (.checkcast 56, 3) := by decide +kernel
theorem dX4_projectOfNumber_37 : decode cX4_projectOfNumber 37 = .ok (.areturn, 1) := by decide +kernel
theorem dX4_projectOfPath_0 : decode cX4_projectOfPath 0 = .ok (.aload_n 0, 1) := by decide +kernel
theorem dX4_projectOfPath_1 : decode cX4_projectOfPath 1 = .ok (.getfield 61, 3) := by decide +kernel
theorem dX4_projectOfPath_4 : decode cX4_projectOfPath 4 = .ok (.astore_n 2, 1) := by decide +kernel
theorem dX4_projectOfPath_5 : decode cX4_projectOfPath 5 = .ok (.iconst 0, 1) := by decide +kernel
theorem dX4_projectOfPath_6 : decode cX4_projectOfPath 6 = .ok (.istore_n 3, 1) := by decide +kernel
theorem dX4_projectOfPath_7 : decode cX4_projectOfPath 7 = .ok (.iload_n 3, 1) := by decide +kernel
theorem dX4_projectOfPath_8 : decode cX4_projectOfPath 8 = .ok (.iload_n 1, 1) := by decide +kernel
theorem dX4_projectOfPath_9 : decode cX4_projectOfPath 9 = .ok (.if_icmp .ge 38, 3) := by decide +kernel
theorem dX4_projectOfPath_12 : decode cX4_projectOfPath 12 = .ok (.iload_n 3, 1) := by decide +kernel
theorem dX4_projectOfPath_13 : decode cX4_projectOfPath 13 = .ok (.aload_n 0, 1) := by decide +kernel
theorem dX4_projectOfPath_14 : decode cX4_projectOfPath 14 = .ok (.getfield 31, 3) := by decide +kernel
theorem dX4_projectOfPath_17 : decode cX4_projectOfPath 17 = .ok (.invokevirtual 72, 3) := by decide +kernel
theorem dX4_projectOfPath_20 : decode cX4_projectOfPath 20 = .ok (.if_icmp .ge 27, 3) := by decide +kernel
theorem dX4_projectOfPath_23 : decode cX4_projectOfPath 23 = .ok (.aload_n 2, 1) := by decide +kernel
theorem dX4_projectOfPath_24 : decode cX4_projectOfPath 24 = .ok (.ifnull 23, 3) := by decide +kernel
theorem dX4_projectOfPath_27 : decode cX4_projectOfPath 27 = .ok (.aload_n 0, 1) := by decide +kernel
theorem dX4_projectOfPath_28 : decode cX4_projectOfPath 28 = .ok (.aload_n 2, 1) := by decide +kernel
theorem dX4_projectOfPath_29 : decode cX4_projectOfPath 29 = .ok (.aload_n 0, 1) := by decide +kernel
theorem dX4_projectOfPath_30 : decode cX4_projectOfPath 30 = .ok (.getfield 31, 3) := by decide +kernel
theorem dX4_projectOfPath_33 : decode cX4_projectOfPath 33 = .ok (.iload_n 3, 1) := by decide +kernel
theorem dX4_projectOfPath_34 : decode cX4_projectOfPath 34 = .ok (.invokevirtual 104, 3) := by decide +kernel
theorem dX4_projectOfPath_37 : decode cX4_projectOfPath 37 = .ok (.invokevirtual 270, 3) := by decide +kernel
theorem dX4_projectOfPath_40 : decode cX4_projectOfPath 40 = .ok (.astore_n 2, 1) := by decide +kernel
theorem dX4_projectOfPath_41 : decode cX4_projectOfPath 41 = .ok (.iinc 3 1, 3) := by decide +kernel
theorem dX4_projectOfPath_44 : decode cX4_projectOfPath 44 = .ok (.goto (-37), 3) := by decide +kernel
theorem dX4_projectOfPath_47 : decode cX4_projectOfPath 47 = .ok (.aload_n 2, 1) := by decide +kernel
theorem dX4_projectOfPath_48 : decode cX4_projectOfPath 48 = .ok (.areturn, 1) := by decide +kernel
theorem dX4_childOf_0 : decode cX4_childOf 0 = .ok (.iconst 0, 1) := by decide +kernel
theorem dX4_childOf_1 : decode cX4_childOf 1 = .ok (.istore_n 3, 1) := by decide +kernel
theorem dX4_childOf_2 : decode cX4_childOf 2 = .ok (.iload_n 3, 1) := by decide +kernel
theorem dX4_childOf_3 : decode cX4_childOf 3 = .ok (.aload_n 0, 1) := by decide +kernel
theorem dX4_childOf_4 : decode cX4_childOf 4 = .ok (.getfield 19, 3) := by decide +kernel
theorem dX4_childOf_7 : decode cX4_childOf 7 = .ok (.invokevirtual 99, 3) := by decide +kernel
theorem dX4_childOf_10 : decode cX4_childOf 10 = .ok (.if_icmp .ge 43, 3) := by decide +kernel
theorem dX4_childOf_13 : decode cX4_childOf 13 = .ok (.aload_n 0, 1) := by decide +kernel
theorem dX4_childOf_14 : decode cX4_childOf 14 = .ok (.getfield 19, 3) := by decide +kernel
theorem dX4_childOf_17 : decode cX4_childOf 17 = .ok (.iload_n 3, 1) := by decide +kernel
theorem dX4_childOf_18 : decode cX4_childOf 18 = .ok (.invokevirtual 186, 3) := by decide +kernel
theorem dX4_childOf_21 : decode cX4_childOf 21 = .ok (.checkcast 56, 3) := by decide +kernel
theorem dX4_childOf_24 : decode cX4_childOf 24 = .ok (.astore 4, 2) := by decide +kernel
theorem dX4_childOf_26 : decode cX4_childOf 26 = .ok (.aload 4, 2) := by decide +kernel
theorem dX4_childOf_28 : decode cX4_childOf 28 = .ok (.getfield 120, 3) := by decide +kernel
theorem dX4_childOf_31 : decode cX4_childOf 31 = .ok (.aload_n 1, 1) := by decide +kernel
theorem dX4_childOf_32 : decode cX4_childOf 32 = .ok (.if_acmp .ne 15, 3) := by decide +kernel
theorem dX4_childOf_35 : decode cX4_childOf 35 = .ok (.aload 4, 2) := by decide +kernel
theorem dX4_childOf_37 : decode cX4_childOf 37 = .ok (.getfield 142, 3) := by decide +kernel
theorem dX4_childOf_40 : decode cX4_childOf 40 = .ok (.iload_n 2, 1) := by decide +kernel
theorem dX4_childOf_41 : decode cX4_childOf 41 = .ok (.if_icmp .ne 6, 3) := by decide +kernel
theorem dX4_childOf_44 : decode cX4_childOf 44 = .ok (.aload 4, 2) := by decide +kernel
theorem dX4_childOf_46 : decode cX4_childOf 46 = .ok (.areturn, 1) := by decide +kernel
theorem dX4_childOf_47 : decode cX4_childOf 47 = .ok (.iinc 3 1, 3) := by decide +kernel
theorem dX4_childOf_50 : decode cX4_childOf 50 = .ok (.goto (-48), 3) := by decide +kernel
theorem dX4_childOf_53 : decode cX4_childOf 53 = .ok (.aconst_null, 1) := by decide +kernel
theorem dX4_childOf_54 : decode cX4_childOf 54 = .ok (.areturn, 1) := by decide +kernel
theorem dX4_liveFile_0 : decode cX4_liveFile 0 = .ok (.iload_n 1, 1) := by decide +kernel
theorem dX4_liveFile_1 : decode cX4_liveFile 1 = .ok (.ifCond .lt 31, 3) := by decide +kernel
theorem dX4_liveFile_4 : decode cX4_liveFile 4 = .ok (.iload_n 1, 1) := by decide +kernel
theorem dX4_liveFile_5 : decode cX4_liveFile 5 = .ok (.aload_n 0, 1) := by decide +kernel
theorem dX4_liveFile_6 : decode cX4_liveFile 6 = .ok (.getfield 22, 3) := by decide +kernel
theorem dX4_liveFile_9 : decode cX4_liveFile 9 = .ok (.invokevirtual 99, 3) := by decide +kernel
theorem dX4_liveFile_12 : decode cX4_liveFile 12 = .ok (.if_icmp .ge 20, 3) := by decide +kernel
theorem dX4_liveFile_15 : decode cX4_liveFile 15 = .ok (.aload_n 0, 1) := by decide +kernel
theorem dX4_liveFile_16 : decode cX4_liveFile 16 = .ok (.getfield 22, 3) := by decide +kernel
theorem dX4_liveFile_19 : decode cX4_liveFile 19 = .ok (.iload_n 1, 1) := by decide +kernel
theorem dX4_liveFile_20 : decode cX4_liveFile 20 = .ok (.invokevirtual 186, 3) := by decide +kernel
theorem dX4_liveFile_23 : decode cX4_liveFile 23 = .ok (.checkcast 152, 3) := by decide +kernel
theorem dX4_liveFile_26 : decode cX4_liveFile 26 = .ok (.getfield 183, 3) := by decide +kernel
theorem dX4_liveFile_29 : decode cX4_liveFile 29 = .ok (.ifCond .eq 14, 3) := by decide +kernel
theorem dX4_liveFile_32 : decode cX4_liveFile 32 = .ok (.new 134, 3) := by decide +kernel
theorem dX4_liveFile_35 : decode cX4_liveFile 35 = .ok (.dup, 1) := by decide +kernel
theorem dX4_liveFile_36 : decode cX4_liveFile 36 = .ok (.ldc_w 274, 3) := by decide +kernel
theorem dX4_liveFile_39 : decode cX4_liveFile 39 = .ok (.invokespecial 138, 3) := by decide +kernel
theorem dX4_liveFile_42 : decode cX4_liveFile 42 = .ok (.athrow, 1) := by decide +kernel
theorem dX4_liveFile_43 : decode cX4_liveFile 43 = .ok (.aload_n 0, 1) := by decide +kernel
theorem dX4_liveFile_44 : decode cX4_liveFile 44 = .ok (.getfield 22, 3) := by decide +kernel
theorem dX4_liveFile_47 : decode cX4_liveFile 47 = .ok (.iload_n 1, 1) := by decide +kernel
theorem dX4_liveFile_48 : decode cX4_liveFile 48 = .ok (.invokevirtual 186, 3) := by decide +kernel
theorem dX4_liveFile_51 : decode cX4_liveFile 51 = .ok (.checkcast 152, 3) := by decide +kernel
theorem dX4_liveFile_54 : decode cX4_liveFile 54 = .ok (.areturn, 1) := by decide +kernel
theorem dX4_accountOf_0 : decode cX4_accountOf 0 = .ok (.iload_n 1, 1) := by decide +kernel
theorem dX4_accountOf_1 : decode cX4_accountOf 1 = .ok (.ifCond .ne 30, 3) := by decide +kernel
theorem dX4_accountOf_4 : decode cX4_accountOf 4 = .ok (.iload_n 2, 1) := by decide +kernel
theorem dX4_accountOf_5 : decode cX4_accountOf 5 = .ok (.ifCond .lt 26, 3) := by decide +kernel
theorem dX4_accountOf_8 : decode cX4_accountOf 8 = .ok (.iload_n 2, 1) := by decide +kernel
theorem dX4_accountOf_9 : decode cX4_accountOf 9 = .ok (.aload_n 0, 1) := by decide +kernel
theorem dX4_accountOf_10 : decode cX4_accountOf 10 = .ok (.getfield 10, 3) := by decide +kernel
theorem dX4_accountOf_13 : decode cX4_accountOf 13 = .ok (.invokevirtual 99, 3) := by decide +kernel
theorem dX4_accountOf_16 : decode cX4_accountOf 16 = .ok (.if_icmp .ge 15, 3) := by decide +kernel
theorem dX4_accountOf_19 : decode cX4_accountOf 19 = .ok (.aload_n 0, 1) := by decide +kernel
theorem dX4_accountOf_20 : decode cX4_accountOf 20 = .ok (.getfield 10, 3) := by decide +kernel
theorem dX4_accountOf_23 : decode cX4_accountOf 23 = .ok (.iload_n 2, 1) := by decide +kernel
theorem dX4_accountOf_24 : decode cX4_accountOf 24 = .ok (.invokevirtual 186, 3) := by decide +kernel
theorem dX4_accountOf_27 : decode cX4_accountOf 27 = .ok (.checkcast 49, 3) := by decide +kernel
theorem dX4_accountOf_30 : decode cX4_accountOf 30 = .ok (.areturn, 1) := by decide +kernel
theorem dX4_accountOf_31 : decode cX4_accountOf 31 = .ok (.iload_n 1, 1) := by decide +kernel
theorem dX4_accountOf_32 : decode cX4_accountOf 32 = .ok (.iconst 1, 1) := by decide +kernel
theorem dX4_accountOf_33 : decode cX4_accountOf 33 = .ok (.if_icmp .ne 30, 3) := by decide +kernel
theorem dX4_accountOf_36 : decode cX4_accountOf 36 = .ok (.iload_n 2, 1) := by decide +kernel
theorem dX4_accountOf_37 : decode cX4_accountOf 37 = .ok (.ifCond .lt 26, 3) := by decide +kernel
theorem dX4_accountOf_40 : decode cX4_accountOf 40 = .ok (.iload_n 2, 1) := by decide +kernel
theorem dX4_accountOf_41 : decode cX4_accountOf 41 = .ok (.aload_n 0, 1) := by decide +kernel
theorem dX4_accountOf_42 : decode cX4_accountOf 42 = .ok (.getfield 16, 3) := by decide +kernel
theorem dX4_accountOf_45 : decode cX4_accountOf 45 = .ok (.invokevirtual 99, 3) := by decide +kernel
theorem dX4_accountOf_48 : decode cX4_accountOf 48 = .ok (.if_icmp .ge 15, 3) := by decide +kernel
theorem dX4_accountOf_51 : decode cX4_accountOf 51 = .ok (.aload_n 0, 1) := by decide +kernel
theorem dX4_accountOf_52 : decode cX4_accountOf 52 = .ok (.getfield 16, 3) := by decide +kernel
theorem dX4_accountOf_55 : decode cX4_accountOf 55 = .ok (.iload_n 2, 1) := by decide +kernel
theorem dX4_accountOf_56 : decode cX4_accountOf 56 = .ok (.invokevirtual 186, 3) := by decide +kernel
theorem dX4_accountOf_59 : decode cX4_accountOf 59 = .ok (.checkcast 49, 3) := by decide +kernel
theorem dX4_accountOf_62 : decode cX4_accountOf 62 = .ok (.areturn, 1) := by decide +kernel
theorem dX4_accountOf_63 : decode cX4_accountOf 63 = .ok (.iload_n 1, 1) := by decide +kernel
theorem dX4_accountOf_64 : decode cX4_accountOf 64 = .ok (.iconst 2, 1) := by decide +kernel
theorem dX4_accountOf_65 : decode cX4_accountOf 65 = .ok (.if_icmp .ne 33, 3) := by decide +kernel
theorem dX4_accountOf_68 : decode cX4_accountOf 68 = .ok (.iload_n 2, 1) := by decide +kernel
theorem dX4_accountOf_69 : decode cX4_accountOf 69 = .ok (.ifCond .lt 29, 3) := by decide +kernel
theorem dX4_accountOf_72 : decode cX4_accountOf 72 = .ok (.iload_n 2, 1) := by decide +kernel
theorem dX4_accountOf_73 : decode cX4_accountOf 73 = .ok (.aload_n 0, 1) := by decide +kernel
theorem dX4_accountOf_74 : decode cX4_accountOf 74 = .ok (.getfield 19, 3) := by decide +kernel
theorem dX4_accountOf_77 : decode cX4_accountOf 77 = .ok (.invokevirtual 99, 3) := by decide +kernel
theorem dX4_accountOf_80 : decode cX4_accountOf 80 = .ok (.if_icmp .ge 18, 3) := by decide +kernel
theorem dX4_accountOf_83 : decode cX4_accountOf 83 = .ok (.aload_n 0, 1) := by decide +kernel
theorem dX4_accountOf_84 : decode cX4_accountOf 84 = .ok (.getfield 19, 3) := by decide +kernel
theorem dX4_accountOf_87 : decode cX4_accountOf 87 = .ok (.iload_n 2, 1) := by decide +kernel
theorem dX4_accountOf_88 : decode cX4_accountOf 88 = .ok (.invokevirtual 186, 3) := by decide +kernel
theorem dX4_accountOf_91 : decode cX4_accountOf 91 = .ok (.checkcast 56, 3) := by decide +kernel
theorem dX4_accountOf_94 : decode cX4_accountOf 94 = .ok (.getfield 256, 3) := by decide +kernel
theorem dX4_accountOf_97 : decode cX4_accountOf 97 = .ok (.areturn, 1) := by decide +kernel
theorem dX4_accountOf_98 : decode cX4_accountOf 98 = .ok (.new 134, 3) := by decide +kernel
theorem dX4_accountOf_101 : decode cX4_accountOf 101 = .ok (.dup, 1) := by decide +kernel
theorem dX4_accountOf_102 : decode cX4_accountOf 102 = .ok (.ldc_w 276, 3) := by decide +kernel
theorem dX4_accountOf_105 : decode cX4_accountOf 105 = .ok (.invokespecial 138, 3) := by decide +kernel
theorem dX4_accountOf_108 : decode cX4_accountOf 108 = .ok (.athrow, 1) := by decide +kernel
theorem dX4_accountsOf_0 : decode cX4_accountsOf 0 = .ok (.aload_n 0, 1) := by decide +kernel
theorem dX4_accountsOf_1 : decode cX4_accountsOf 1 = .ok (.getfield 35, 3) := by decide +kernel
theorem dX4_accountsOf_4 : decode cX4_accountsOf 4 = .ok (.invokevirtual 278, 3) := by decide +kernel
theorem dX4_accountsOf_7 : decode cX4_accountsOf 7 = .ok (.aload_n 0, 1) := by decide +kernel
theorem dX4_accountsOf_8 : decode cX4_accountsOf 8 = .ok (.getfield 35, 3) := by decide +kernel
theorem dX4_accountsOf_11 : decode cX4_accountsOf 11 = .ok (.aload_n 1, 1) := by decide +kernel
theorem dX4_accountsOf_12 : decode cX4_accountsOf 12 = .ok (.getfield 281, 3) := by decide +kernel
theorem dX4_accountsOf_15 : decode cX4_accountsOf 15 = .ok (.invokevirtual 52, 3) := by decide +kernel
theorem dX4_accountsOf_18 : decode cX4_accountsOf 18 = .ok (.pop, 1) := by decide +kernel
theorem dX4_accountsOf_19 : decode cX4_accountsOf 19 = .ok (.aload_n 0, 1) := by decide +kernel
theorem dX4_accountsOf_20 : decode cX4_accountsOf 20 = .ok (.getfield 35, 3) := by decide +kernel
theorem dX4_accountsOf_23 : decode cX4_accountsOf 23 = .ok (.aload_n 1, 1) := by decide +kernel
theorem dX4_accountsOf_24 : decode cX4_accountsOf 24 = .ok (.getfield 284, 3) := by decide +kernel
theorem dX4_accountsOf_27 : decode cX4_accountsOf 27 = .ok (.invokevirtual 52, 3) := by decide +kernel
theorem dX4_accountsOf_30 : decode cX4_accountsOf 30 = .ok (.pop, 1) := by decide +kernel
theorem dX4_accountsOf_31 : decode cX4_accountsOf 31 = .ok (.aload_n 1, 1) := by decide +kernel
theorem dX4_accountsOf_32 : decode cX4_accountsOf 32 = .ok (.getfield 199, 3) := by decide +kernel
theorem dX4_accountsOf_35 : decode cX4_accountsOf 35 = .ok (.astore_n 2, 1) := by decide +kernel
theorem dX4_accountsOf_36 : decode cX4_accountsOf 36 = .ok (.aload_n 2, 1) := by decide +kernel
theorem dX4_accountsOf_37 : decode cX4_accountsOf 37 = .ok (.ifnull 23, 3) := by decide +kernel
theorem dX4_accountsOf_40 : decode cX4_accountsOf 40 = .ok (.aload_n 0, 1) := by decide +kernel
theorem dX4_accountsOf_41 : decode cX4_accountsOf 41 = .ok (.getfield 35, 3) := by decide +kernel
theorem dX4_accountsOf_44 : decode cX4_accountsOf 44 = .ok (.aload_n 2, 1) := by decide +kernel
theorem dX4_accountsOf_45 : decode cX4_accountsOf 45 = .ok (.getfield 256, 3) := by decide +kernel
theorem dX4_accountsOf_48 : decode cX4_accountsOf 48 = .ok (.invokevirtual 52, 3) := by decide +kernel
theorem dX4_accountsOf_51 : decode cX4_accountsOf 51 = .ok (.pop, 1) := by decide +kernel
theorem dX4_accountsOf_52 : decode cX4_accountsOf 52 = .ok (.aload_n 2, 1) := by decide +kernel
theorem dX4_accountsOf_53 : decode cX4_accountsOf 53 = .ok (.getfield 120, 3) := by decide +kernel
theorem dX4_accountsOf_56 : decode cX4_accountsOf 56 = .ok (.astore_n 2, 1) := by decide +kernel
theorem dX4_accountsOf_57 : decode cX4_accountsOf 57 = .ok (.goto (-21), 3) := by decide +kernel
theorem dX4_accountsOf_60 : decode cX4_accountsOf 60 = .ok (.aload_n 0, 1) := by decide +kernel
theorem dX4_accountsOf_61 : decode cX4_accountsOf 61 = .ok (.getfield 35, 3) := by decide +kernel
theorem dX4_accountsOf_64 : decode cX4_accountsOf 64 = .ok (.areturn, 1) := by decide +kernel
theorem dX4_countsIn_0 : decode cX4_countsIn 0 = .ok (.aload_n 0, 1) := by decide +kernel
theorem dX4_countsIn_1 : decode cX4_countsIn 1 = .ok (.aload_n 1, 1) := by decide +kernel
theorem dX4_countsIn_2 : decode cX4_countsIn 2 = .ok (.invokevirtual 246, 3) := by decide +kernel
theorem dX4_countsIn_5 : decode cX4_countsIn 5 = .ok (.astore_n 3, 1) := by decide +kernel
theorem dX4_countsIn_6 : decode cX4_countsIn 6 = .ok (.iconst 0, 1) := by decide +kernel
theorem dX4_countsIn_7 : decode cX4_countsIn 7 = .ok (.istore 4, 2) := by decide +kernel
theorem dX4_countsIn_9 : decode cX4_countsIn 9 = .ok (.iload 4, 2) := by decide +kernel
theorem dX4_countsIn_11 : decode cX4_countsIn 11 = .ok (.aload_n 3, 1) := by decide +kernel
theorem dX4_countsIn_12 : decode cX4_countsIn 12 = .ok (.invokevirtual 99, 3) := by decide +kernel
theorem dX4_countsIn_15 : decode cX4_countsIn 15 = .ok (.if_icmp .ge 21, 3) := by decide +kernel
theorem dX4_countsIn_18 : decode cX4_countsIn 18 = .ok (.aload_n 3, 1) := by decide +kernel
theorem dX4_countsIn_19 : decode cX4_countsIn 19 = .ok (.iload 4, 2) := by decide +kernel
theorem dX4_countsIn_21 : decode cX4_countsIn 21 = .ok (.invokevirtual 186, 3) := by decide +kernel
theorem dX4_countsIn_24 : decode cX4_countsIn 24 = .ok (.aload_n 2, 1) := by decide +kernel
theorem dX4_countsIn_25 : decode cX4_countsIn 25 = .ok (.if_acmp .ne 5, 3) := by decide +kernel
theorem dX4_countsIn_28 : decode cX4_countsIn 28 = .ok (.iconst 1, 1) := by decide +kernel
theorem dX4_countsIn_29 : decode cX4_countsIn 29 = .ok (.ireturn, 1) := by decide +kernel
theorem dX4_countsIn_30 : decode cX4_countsIn 30 = .ok (.iinc 4 1, 3) := by decide +kernel
theorem dX4_countsIn_33 : decode cX4_countsIn 33 = .ok (.goto (-24), 3) := by decide +kernel
theorem dX4_countsIn_36 : decode cX4_countsIn 36 = .ok (.iconst 0, 1) := by decide +kernel
theorem dX4_countsIn_37 : decode cX4_countsIn 37 = .ok (.ireturn, 1) := by decide +kernel
theorem dX4_blocksUsedBy_0 : decode cX4_blocksUsedBy 0 = .ok (.aload_n 1, 1) := by decide +kernel
theorem dX4_blocksUsedBy_1 : decode cX4_blocksUsedBy 1 = .ok (.getfield 174, 3) := by decide +kernel
theorem dX4_blocksUsedBy_4 : decode cX4_blocksUsedBy 4 = .ok (.istore_n 2, 1) := by decide +kernel
theorem dX4_blocksUsedBy_5 : decode cX4_blocksUsedBy 5 = .ok (.iconst 0, 1) := by decide +kernel
theorem dX4_blocksUsedBy_6 : decode cX4_blocksUsedBy 6 = .ok (.istore_n 3, 1) := by decide +kernel
theorem dX4_blocksUsedBy_7 : decode cX4_blocksUsedBy 7 = .ok (.iload_n 3, 1) := by decide +kernel
theorem dX4_blocksUsedBy_8 : decode cX4_blocksUsedBy 8 = .ok (.aload_n 0, 1) := by decide +kernel
theorem dX4_blocksUsedBy_9 : decode cX4_blocksUsedBy 9 = .ok (.getfield 25, 3) := by decide +kernel
theorem dX4_blocksUsedBy_12 : decode cX4_blocksUsedBy 12 = .ok (.invokevirtual 99, 3) := by decide +kernel
theorem dX4_blocksUsedBy_15 : decode cX4_blocksUsedBy 15 = .ok (.if_icmp .ge 47, 3) := by decide +kernel
theorem dX4_blocksUsedBy_18 : decode cX4_blocksUsedBy 18 = .ok (.aload_n 0, 1) := by decide +kernel
theorem dX4_blocksUsedBy_19 : decode cX4_blocksUsedBy 19 = .ok (.getfield 25, 3) := by decide +kernel
theorem dX4_blocksUsedBy_22 : decode cX4_blocksUsedBy 22 = .ok (.iload_n 3, 1) := by decide +kernel
theorem dX4_blocksUsedBy_23 : decode cX4_blocksUsedBy 23 = .ok (.invokevirtual 186, 3) := by decide +kernel
theorem dX4_blocksUsedBy_26 : decode cX4_blocksUsedBy 26 = .ok (.checkcast 190, 3) := by decide +kernel
theorem dX4_blocksUsedBy_29 : decode cX4_blocksUsedBy 29 = .ok (.astore 4, 2) := by decide +kernel
theorem dX4_blocksUsedBy_31 : decode cX4_blocksUsedBy 31 = .ok (.aload 4, 2) := by decide +kernel
theorem dX4_blocksUsedBy_33 : decode cX4_blocksUsedBy 33 = .ok (.getfield 196, 3) := by decide +kernel
theorem dX4_blocksUsedBy_36 : decode cX4_blocksUsedBy 36 = .ok (.ifCond .eq 20, 3) := by decide +kernel
theorem dX4_blocksUsedBy_39 : decode cX4_blocksUsedBy 39 = .ok (.aload 4, 2) := by decide +kernel
theorem dX4_blocksUsedBy_41 : decode cX4_blocksUsedBy 41 = .ok (.getfield 192, 3) := by decide +kernel
theorem dX4_blocksUsedBy_44 : decode cX4_blocksUsedBy 44 = .ok (.aload_n 1, 1) := by decide +kernel
theorem dX4_blocksUsedBy_45 : decode cX4_blocksUsedBy 45 = .ok (.if_acmp .ne 11, 3) := by decide +kernel
theorem dX4_blocksUsedBy_48 : decode cX4_blocksUsedBy 48 = .ok (.iload_n 2, 1) := by decide +kernel
theorem dX4_blocksUsedBy_49 : decode cX4_blocksUsedBy 49 = .ok (.aload 4, 2) := by decide +kernel
theorem dX4_blocksUsedBy_51 : decode cX4_blocksUsedBy 51 = .ok (.getfield 209, 3) := by decide +kernel
theorem dX4_blocksUsedBy_54 : decode cX4_blocksUsedBy 54 = .ok (.iadd, 1) := by decide +kernel
theorem dX4_blocksUsedBy_55 : decode cX4_blocksUsedBy 55 = .ok (.istore_n 2, 1) := by decide +kernel
theorem dX4_blocksUsedBy_56 : decode cX4_blocksUsedBy 56 = .ok (.iinc 3 1, 3) := by decide +kernel
theorem dX4_blocksUsedBy_59 : decode cX4_blocksUsedBy 59 = .ok (.goto (-52), 3) := by decide +kernel
theorem dX4_blocksUsedBy_62 : decode cX4_blocksUsedBy 62 = .ok (.iload_n 2, 1) := by decide +kernel
theorem dX4_blocksUsedBy_63 : decode cX4_blocksUsedBy 63 = .ok (.ireturn, 1) := by decide +kernel
theorem dX4_canMove_0 : decode cX4_canMove 0 = .ok (.aload_n 1, 1) := by decide +kernel
theorem dX4_canMove_1 : decode cX4_canMove 1 = .ok (.aload_n 0, 1) := by decide +kernel
theorem dX4_canMove_2 : decode cX4_canMove 2 = .ok (.getfield 61, 3) := by decide +kernel
theorem dX4_canMove_5 : decode cX4_canMove 5 = .ok (.if_acmp .eq 11, 3) := by decide +kernel
theorem dX4_canMove_8 : decode cX4_canMove 8 = .ok (.aload_n 2, 1) := by decide +kernel
theorem dX4_canMove_9 : decode cX4_canMove 9 = .ok (.aload_n 1, 1) := by decide +kernel
theorem dX4_canMove_10 : decode cX4_canMove 10 = .ok (.invokevirtual 287, 3) := by decide +kernel
theorem dX4_canMove_13 : decode cX4_canMove 13 = .ok (.ifCond .eq 5, 3) := by decide +kernel
theorem dX4_canMove_16 : decode cX4_canMove 16 = .ok (.iconst 0, 1) := by decide +kernel
theorem dX4_canMove_17 : decode cX4_canMove 17 = .ok (.ireturn, 1) := by decide +kernel
theorem dX4_canMove_18 : decode cX4_canMove 18 = .ok (.aload_n 0, 1) := by decide +kernel
theorem dX4_canMove_19 : decode cX4_canMove 19 = .ok (.aload_n 1, 1) := by decide +kernel
theorem dX4_canMove_20 : decode cX4_canMove 20 = .ok (.invokevirtual 291, 3) := by decide +kernel
theorem dX4_canMove_23 : decode cX4_canMove 23 = .ok (.aload_n 1, 1) := by decide +kernel
theorem dX4_canMove_24 : decode cX4_canMove 24 = .ok (.invokevirtual 139, 3) := by decide +kernel
theorem dX4_canMove_27 : decode cX4_canMove 27 = .ok (.isub, 1) := by decide +kernel
theorem dX4_canMove_28 : decode cX4_canMove 28 = .ok (.iconst 1, 1) := by decide +kernel
theorem dX4_canMove_29 : decode cX4_canMove 29 = .ok (.iadd, 1) := by decide +kernel
theorem dX4_canMove_30 : decode cX4_canMove 30 = .ok (.istore_n 3, 1) := by decide +kernel
theorem dX4_canMove_31 : decode cX4_canMove 31 = .ok (.aload_n 2, 1) := by decide +kernel
theorem dX4_canMove_32 : decode cX4_canMove 32 = .ok (.invokevirtual 139, 3) := by decide +kernel
theorem dX4_canMove_35 : decode cX4_canMove 35 = .ok (.iload_n 3, 1) := by decide +kernel
theorem dX4_canMove_36 : decode cX4_canMove 36 = .ok (.iadd, 1) := by decide +kernel
theorem dX4_canMove_37 : decode cX4_canMove 37 = .ok (.bipush 8, 2) := by decide +kernel
theorem dX4_canMove_39 : decode cX4_canMove 39 = .ok (.if_icmp .le 5, 3) := by decide +kernel
theorem dX4_canMove_42 : decode cX4_canMove 42 = .ok (.iconst 0, 1) := by decide +kernel
theorem dX4_canMove_43 : decode cX4_canMove 43 = .ok (.ireturn, 1) := by decide +kernel
theorem dX4_canMove_44 : decode cX4_canMove 44 = .ok (.aload_n 0, 1) := by decide +kernel
theorem dX4_canMove_45 : decode cX4_canMove 45 = .ok (.aload_n 2, 1) := by decide +kernel
theorem dX4_canMove_46 : decode cX4_canMove 46 = .ok (.aload_n 1, 1) := by decide +kernel
theorem dX4_canMove_47 : decode cX4_canMove 47 = .ok (.getfield 142, 3) := by decide +kernel
theorem dX4_canMove_50 : decode cX4_canMove 50 = .ok (.invokevirtual 270, 3) := by decide +kernel
theorem dX4_canMove_53 : decode cX4_canMove 53 = .ok (.astore 4, 2) := by decide +kernel
theorem dX4_canMove_55 : decode cX4_canMove 55 = .ok (.aload 4, 2) := by decide +kernel
theorem dX4_canMove_57 : decode cX4_canMove 57 = .ok (.ifnull 9, 3) := by decide +kernel
theorem dX4_canMove_60 : decode cX4_canMove 60 = .ok (.aload 4, 2) := by decide +kernel
theorem dX4_canMove_62 : decode cX4_canMove 62 = .ok (.aload_n 1, 1) := by decide +kernel
theorem dX4_canMove_63 : decode cX4_canMove 63 = .ok (.if_acmp .ne 7, 3) := by decide +kernel
theorem dX4_canMove_66 : decode cX4_canMove 66 = .ok (.iconst 1, 1) := by decide +kernel
theorem dX4_canMove_67 : decode cX4_canMove 67 = .ok (.goto 4, 3) := by decide +kernel
theorem dX4_canMove_70 : decode cX4_canMove 70 = .ok (.iconst 0, 1) := by decide +kernel
theorem dX4_canMove_71 : decode cX4_canMove 71 = .ok (.ireturn, 1) := by decide +kernel
theorem dX4_deepestWithin_0 : decode cX4_deepestWithin 0 = .ok (.iconst 0, 1) := by decide +kernel
theorem dX4_deepestWithin_1 : decode cX4_deepestWithin 1 = .ok (.istore_n 2, 1) := by decide +kernel
theorem dX4_deepestWithin_2 : decode cX4_deepestWithin 2 = .ok (.iconst 0, 1) := by decide +kernel
theorem dX4_deepestWithin_3 : decode cX4_deepestWithin 3 = .ok (.istore_n 3, 1) := by decide +kernel
theorem dX4_deepestWithin_4 : decode cX4_deepestWithin 4 = .ok (.iload_n 3, 1) := by decide +kernel
theorem dX4_deepestWithin_5 : decode cX4_deepestWithin 5 = .ok (.aload_n 0, 1) := by decide +kernel
theorem dX4_deepestWithin_6 : decode cX4_deepestWithin 6 = .ok (.getfield 19, 3) := by decide +kernel
theorem dX4_deepestWithin_9 : decode cX4_deepestWithin 9 = .ok (.invokevirtual 99, 3) := by decide +kernel
theorem dX4_deepestWithin_12 : decode cX4_deepestWithin 12 = .ok (.if_icmp .ge 41, 3) := by decide +kernel
theorem dX4_deepestWithin_15 : decode cX4_deepestWithin 15 = .ok (.aload_n 0, 1) := by decide +kernel
theorem dX4_deepestWithin_16 : decode cX4_deepestWithin 16 = .ok (.getfield 19, 3) := by decide +kernel
theorem dX4_deepestWithin_19 : decode cX4_deepestWithin 19 = .ok (.iload_n 3, 1) := by decide +kernel
theorem dX4_deepestWithin_20 : decode cX4_deepestWithin 20 = .ok (.invokevirtual 186, 3) := by decide +kernel
theorem dX4_deepestWithin_23 : decode cX4_deepestWithin 23 = .ok (.checkcast 56, 3) := by decide +kernel
theorem dX4_deepestWithin_26 : decode cX4_deepestWithin 26 = .ok (.astore 4, 2) := by decide +kernel
theorem dX4_deepestWithin_28 : decode cX4_deepestWithin 28 = .ok (.aload 4, 2) := by decide +kernel
theorem dX4_deepestWithin_30 : decode cX4_deepestWithin 30 = .ok (.aload_n 1, 1) := by decide +kernel
theorem dX4_deepestWithin_31 : decode cX4_deepestWithin 31 = .ok (.invokevirtual 287, 3) := by decide +kernel
theorem dX4_deepestWithin_34 : decode cX4_deepestWithin 34 = .ok (.ifCond .eq 13, 3) := by decide +kernel
theorem dX4_deepestWithin_37 : decode cX4_deepestWithin 37 = .ok (.iload_n 2, 1) := by decide +kernel
theorem dX4_deepestWithin_38 : decode cX4_deepestWithin 38 = .ok (.aload 4, 2) := by decide +kernel
theorem dX4_deepestWithin_40 : decode cX4_deepestWithin 40 = .ok (.invokevirtual 139, 3) := by decide +kernel
theorem dX4_deepestWithin_43 : decode cX4_deepestWithin 43 = .ok (.invokestatic 294, 3) := by decide +kernel
theorem dX4_deepestWithin_46 : decode cX4_deepestWithin 46 = .ok (.istore_n 2, 1) := by decide +kernel
theorem dX4_deepestWithin_47 : decode cX4_deepestWithin 47 = .ok (.iinc 3 1, 3) := by decide +kernel
theorem dX4_deepestWithin_50 : decode cX4_deepestWithin 50 = .ok (.goto (-46), 3) := by decide +kernel
theorem dX4_deepestWithin_53 : decode cX4_deepestWithin 53 = .ok (.iload_n 2, 1) := by decide +kernel
theorem dX4_deepestWithin_54 : decode cX4_deepestWithin 54 = .ok (.ireturn, 1) := by decide +kernel
theorem dX4_projectsWithin_0 : decode cX4_projectsWithin 0 = .ok (.iconst 0, 1) := by decide +kernel
theorem dX4_projectsWithin_1 : decode cX4_projectsWithin 1 = .ok (.istore_n 2, 1) := by decide +kernel
theorem dX4_projectsWithin_2 : decode cX4_projectsWithin 2 = .ok (.iconst 0, 1) := by decide +kernel
theorem dX4_projectsWithin_3 : decode cX4_projectsWithin 3 = .ok (.istore_n 3, 1) := by decide +kernel
theorem dX4_projectsWithin_4 : decode cX4_projectsWithin 4 = .ok (.iload_n 3, 1) := by decide +kernel
theorem dX4_projectsWithin_5 : decode cX4_projectsWithin 5 = .ok (.aload_n 0, 1) := by decide +kernel
theorem dX4_projectsWithin_6 : decode cX4_projectsWithin 6 = .ok (.getfield 19, 3) := by decide +kernel
theorem dX4_projectsWithin_9 : decode cX4_projectsWithin 9 = .ok (.invokevirtual 99, 3) := by decide +kernel
theorem dX4_projectsWithin_12 : decode cX4_projectsWithin 12 = .ok (.if_icmp .ge 30, 3) := by decide +kernel
theorem dX4_projectsWithin_15 : decode cX4_projectsWithin 15 = .ok (.aload_n 0, 1) := by decide +kernel
theorem dX4_projectsWithin_16 : decode cX4_projectsWithin 16 = .ok (.getfield 19, 3) := by decide +kernel
theorem dX4_projectsWithin_19 : decode cX4_projectsWithin 19 = .ok (.iload_n 3, 1) := by decide +kernel
theorem dX4_projectsWithin_20 : decode cX4_projectsWithin 20 = .ok (.invokevirtual 186, 3) := by decide +kernel
theorem dX4_projectsWithin_23 : decode cX4_projectsWithin 23 = .ok (.checkcast 56, 3) := by decide +kernel
theorem dX4_projectsWithin_26 : decode cX4_projectsWithin 26 = .ok (.aload_n 1, 1) := by decide +kernel
theorem dX4_projectsWithin_27 : decode cX4_projectsWithin 27 = .ok (.invokevirtual 287, 3) := by decide +kernel
theorem dX4_projectsWithin_30 : decode cX4_projectsWithin 30 = .ok (.ifCond .eq 6, 3) := by decide +kernel
theorem dX4_projectsWithin_33 : decode cX4_projectsWithin 33 = .ok (.iinc 2 1, 3) := by decide +kernel
theorem dX4_projectsWithin_36 : decode cX4_projectsWithin 36 = .ok (.iinc 3 1, 3) := by decide +kernel
theorem dX4_projectsWithin_39 : decode cX4_projectsWithin 39 = .ok (.goto (-35), 3) := by decide +kernel
theorem dX4_projectsWithin_42 : decode cX4_projectsWithin 42 = .ok (.iload_n 2, 1) := by decide +kernel
theorem dX4_projectsWithin_43 : decode cX4_projectsWithin 43 = .ok (.ireturn, 1) := by decide +kernel
theorem dX4_chargeFilesWithin_0 : decode cX4_chargeFilesWithin 0 = .ok (.iconst 0, 1) := by decide +kernel
theorem dX4_chargeFilesWithin_1 : decode cX4_chargeFilesWithin 1 = .ok (.istore_n 3, 1) := by decide +kernel
theorem dX4_chargeFilesWithin_2 : decode cX4_chargeFilesWithin 2 = .ok (.iload_n 3, 1) := by decide +kernel
theorem dX4_chargeFilesWithin_3 : decode cX4_chargeFilesWithin 3 = .ok (.aload_n 0, 1) := by decide +kernel
theorem dX4_chargeFilesWithin_4 : decode cX4_chargeFilesWithin 4 = .ok (.getfield 22, 3) := by decide +kernel
theorem dX4_chargeFilesWithin_7 : decode cX4_chargeFilesWithin 7 = .ok (.invokevirtual 99, 3) := by decide +kernel
theorem dX4_chargeFilesWithin_10 : decode cX4_chargeFilesWithin 10 = .ok (.if_icmp .ge 57, 3) := by decide +kernel
theorem dX4_chargeFilesWithin_13 : decode cX4_chargeFilesWithin 13 = .ok (.aload_n 0, 1) := by decide +kernel
theorem dX4_chargeFilesWithin_14 : decode cX4_chargeFilesWithin 14 = .ok (.getfield 22, 3) := by decide +kernel
theorem dX4_chargeFilesWithin_17 : decode cX4_chargeFilesWithin 17 = .ok (.iload_n 3, 1) := by decide +kernel
theorem dX4_chargeFilesWithin_18 : decode cX4_chargeFilesWithin 18 = .ok (.invokevirtual 186, 3) := by decide +kernel
theorem dX4_chargeFilesWithin_21 : decode cX4_chargeFilesWithin 21 = .ok (.checkcast 152, 3) := by decide +kernel
theorem dX4_chargeFilesWithin_24 : decode cX4_chargeFilesWithin 24 = .ok (.astore 4, 2) := by decide +kernel
theorem dX4_chargeFilesWithin_26 : decode cX4_chargeFilesWithin 26 = .ok (.aload 4, 2) := by decide +kernel
theorem dX4_chargeFilesWithin_28 : decode cX4_chargeFilesWithin 28 = .ok (.getfield 183, 3) := by decide +kernel
theorem dX4_chargeFilesWithin_31 : decode cX4_chargeFilesWithin 31 = .ok (.ifCond .ne 30, 3) := by decide +kernel
theorem dX4_chargeFilesWithin_34 : decode cX4_chargeFilesWithin 34 = .ok (.aload 4, 2) := by decide +kernel
theorem dX4_chargeFilesWithin_36 : decode cX4_chargeFilesWithin 36 = .ok (.getfield 199, 3) := by decide +kernel
theorem dX4_chargeFilesWithin_39 : decode cX4_chargeFilesWithin 39 = .ok (.aload_n 1, 1) := by decide +kernel
theorem dX4_chargeFilesWithin_40 : decode cX4_chargeFilesWithin 40 = .ok (.invokevirtual 287, 3) := by decide +kernel
theorem dX4_chargeFilesWithin_43 : decode cX4_chargeFilesWithin 43 = .ok (.ifCond .eq 18, 3) := by decide +kernel
theorem dX4_chargeFilesWithin_46 : decode cX4_chargeFilesWithin 46 = .ok (.aload_n 0, 1) := by decide +kernel
theorem dX4_chargeFilesWithin_47 : decode cX4_chargeFilesWithin 47 = .ok (.aload 4, 2) := by decide +kernel
theorem dX4_chargeFilesWithin_49 : decode cX4_chargeFilesWithin 49 = .ok (.iload_n 2, 1) := by decide +kernel
theorem dX4_chargeFilesWithin_50 : decode cX4_chargeFilesWithin 50 = .ok (.aload_n 0, 1) := by decide +kernel
theorem dX4_chargeFilesWithin_51 : decode cX4_chargeFilesWithin 51 = .ok (.aload 4, 2) := by decide +kernel
theorem dX4_chargeFilesWithin_53 : decode cX4_chargeFilesWithin 53 = .ok (.invokevirtual 179, 3) := by decide +kernel
theorem dX4_chargeFilesWithin_56 : decode cX4_chargeFilesWithin 56 = .ok (.imul, 1) := by decide +kernel
theorem dX4_chargeFilesWithin_57 : decode cX4_chargeFilesWithin 57 = .ok (.iload_n 2, 1) := by decide +kernel
theorem dX4_chargeFilesWithin_58 : decode cX4_chargeFilesWithin 58 = .ok (.invokevirtual 165, 3) := by decide +kernel
theorem dX4_chargeFilesWithin_61 : decode cX4_chargeFilesWithin 61 = .ok (.iinc 3 1, 3) := by decide +kernel
theorem dX4_chargeFilesWithin_64 : decode cX4_chargeFilesWithin 64 = .ok (.goto (-62), 3) := by decide +kernel
theorem dX4_chargeFilesWithin_67 : decode cX4_chargeFilesWithin 67 = .ok (.return_, 1) := by decide +kernel
theorem dX4_charge_0 : decode cX4_charge 0 = .ok (.aload_n 1, 1) := by decide +kernel
theorem dX4_charge_1 : decode cX4_charge 1 = .ok (.getfield 169, 3) := by decide +kernel
theorem dX4_charge_4 : decode cX4_charge 4 = .ok (.aload_n 0, 1) := by decide +kernel
theorem dX4_charge_5 : decode cX4_charge 5 = .ok (.getfield 46, 3) := by decide +kernel
theorem dX4_charge_8 : decode cX4_charge 8 = .ok (.if_icmp .ge 7, 3) := by decide +kernel
theorem dX4_charge_11 : decode cX4_charge 11 = .ok (.iconst 1, 1) := by decide +kernel
theorem dX4_charge_12 : decode cX4_charge 12 = .ok (.goto 4, 3) := by decide +kernel
theorem dX4_charge_15 : decode cX4_charge 15 = .ok (.iconst 0, 1) := by decide +kernel
theorem dX4_charge_16 : decode cX4_charge 16 = .ok (.istore 4, 2) := by decide +kernel
theorem dX4_charge_18 : decode cX4_charge 18 = .ok (.aload_n 0, 1) := by decide +kernel
theorem dX4_charge_19 : decode cX4_charge 19 = .ok (.aload_n 1, 1) := by decide +kernel
theorem dX4_charge_20 : decode cX4_charge 20 = .ok (.invokevirtual 246, 3) := by decide +kernel
theorem dX4_charge_23 : decode cX4_charge 23 = .ok (.astore 5, 2) := by decide +kernel
theorem dX4_charge_25 : decode cX4_charge 25 = .ok (.iconst 0, 1) := by decide +kernel
theorem dX4_charge_26 : decode cX4_charge 26 = .ok (.istore 6, 2) := by decide +kernel
theorem dX4_charge_28 : decode cX4_charge 28 = .ok (.iload 6, 2) := by decide +kernel
theorem dX4_charge_30 : decode cX4_charge 30 = .ok (.aload 5, 2) := by decide +kernel
theorem dX4_charge_32 : decode cX4_charge 32 = .ok (.invokevirtual 99, 3) := by decide +kernel
theorem dX4_charge_35 : decode cX4_charge 35 = .ok (.if_icmp .ge 44, 3) := by decide +kernel
theorem dX4_charge_38 : decode cX4_charge 38 = .ok (.aload 5, 2) := by decide +kernel
theorem dX4_charge_40 : decode cX4_charge 40 = .ok (.iload 6, 2) := by decide +kernel
theorem dX4_charge_42 : decode cX4_charge 42 = .ok (.invokevirtual 186, 3) := by decide +kernel
theorem dX4_charge_45 : decode cX4_charge 45 = .ok (.checkcast 49, 3) := by decide +kernel
theorem dX4_charge_48 : decode cX4_charge 48 = .ok (.astore 7, 2) := by decide +kernel
theorem dX4_charge_50 : decode cX4_charge 50 = .ok (.aload 7, 2) := by decide +kernel
theorem dX4_charge_52 : decode cX4_charge 52 = .ok (.iload_n 2, 1) := by decide +kernel
theorem dX4_charge_53 : decode cX4_charge 53 = .ok (.iload_n 3, 1) := by decide +kernel
theorem dX4_charge_54 : decode cX4_charge 54 = .ok (.invokevirtual 300, 3) := by decide +kernel
theorem dX4_charge_57 : decode cX4_charge 57 = .ok (.iload 4, 2) := by decide +kernel
theorem dX4_charge_59 : decode cX4_charge 59 = .ok (.ifCond .eq 14, 3) := by decide +kernel
theorem dX4_charge_62 : decode cX4_charge 62 = .ok (.aload 7, 2) := by decide +kernel
theorem dX4_charge_64 : decode cX4_charge 64 = .ok (.dup, 1) := by decide +kernel
theorem dX4_charge_65 : decode cX4_charge 65 = .ok (.getfield 253, 3) := by decide +kernel
theorem dX4_charge_68 : decode cX4_charge 68 = .ok (.iload_n 2, 1) := by decide +kernel
theorem dX4_charge_69 : decode cX4_charge 69 = .ok (.iadd, 1) := by decide +kernel
theorem dX4_charge_70 : decode cX4_charge 70 = .ok (.putfield 253, 3) := by decide +kernel
theorem dX4_charge_73 : decode cX4_charge 73 = .ok (.iinc 6 1, 3) := by decide +kernel
theorem dX4_charge_76 : decode cX4_charge 76 = .ok (.goto (-48), 3) := by decide +kernel
theorem dX4_charge_79 : decode cX4_charge 79 = .ok (.return_, 1) := by decide +kernel
theorem dX4_take_0 : decode cX4_take 0 = .ok (.aload_n 1, 1) := by decide +kernel
theorem dX4_take_1 : decode cX4_take 1 = .ok (.getfield 183, 3) := by decide +kernel
theorem dX4_take_4 : decode cX4_take 4 = .ok (.ifCond .eq 4, 3) := by decide +kernel
theorem dX4_take_7 : decode cX4_take 7 = .ok (.return_, 1) := by decide +kernel
theorem dX4_take_8 : decode cX4_take 8 = .ok (.aload_n 0, 1) := by decide +kernel
theorem dX4_take_9 : decode cX4_take 9 = .ok (.aload_n 1, 1) := by decide +kernel
theorem dX4_take_10 : decode cX4_take 10 = .ok (.invokevirtual 179, 3) := by decide +kernel
theorem dX4_take_13 : decode cX4_take 13 = .ok (.istore_n 2, 1) := by decide +kernel
theorem dX4_take_14 : decode cX4_take 14 = .ok (.aload_n 0, 1) := by decide +kernel
theorem dX4_take_15 : decode cX4_take 15 = .ok (.aload_n 1, 1) := by decide +kernel
theorem dX4_take_16 : decode cX4_take 16 = .ok (.invokevirtual 246, 3) := by decide +kernel
theorem dX4_take_19 : decode cX4_take 19 = .ok (.astore_n 3, 1) := by decide +kernel
theorem dX4_take_20 : decode cX4_take 20 = .ok (.iconst 0, 1) := by decide +kernel
theorem dX4_take_21 : decode cX4_take 21 = .ok (.istore 4, 2) := by decide +kernel
theorem dX4_take_23 : decode cX4_take 23 = .ok (.iload 4, 2) := by decide +kernel
theorem dX4_take_25 : decode cX4_take 25 = .ok (.aload_n 3, 1) := by decide +kernel
theorem dX4_take_26 : decode cX4_take 26 = .ok (.invokevirtual 99, 3) := by decide +kernel
theorem dX4_take_29 : decode cX4_take 29 = .ok (.if_icmp .ge 27, 3) := by decide +kernel
theorem dX4_take_32 : decode cX4_take 32 = .ok (.aload_n 3, 1) := by decide +kernel
theorem dX4_take_33 : decode cX4_take 33 = .ok (.iload 4, 2) := by decide +kernel
theorem dX4_take_35 : decode cX4_take 35 = .ok (.invokevirtual 186, 3) := by decide +kernel
theorem dX4_take_38 : decode cX4_take 38 = .ok (.checkcast 49, 3) := by decide +kernel
theorem dX4_take_41 : decode cX4_take 41 = .ok (.dup, 1) := by decide +kernel
theorem dX4_take_42 : decode cX4_take 42 = .ok (.getfield 253, 3) := by decide +kernel
theorem dX4_take_45 : decode cX4_take 45 = .ok (.iload_n 2, 1) := by decide +kernel
theorem dX4_take_46 : decode cX4_take 46 = .ok (.iadd, 1) := by decide +kernel
theorem dX4_take_47 : decode cX4_take 47 = .ok (.putfield 253, 3) := by decide +kernel
theorem dX4_take_50 : decode cX4_take 50 = .ok (.iinc 4 1, 3) := by decide +kernel
theorem dX4_take_53 : decode cX4_take 53 = .ok (.goto (-30), 3) := by decide +kernel
theorem dX4_take_56 : decode cX4_take 56 = .ok (.return_, 1) := by decide +kernel
theorem dX4_noteOverAccounts_0 : decode cX4_noteOverAccounts 0 = .ok (.iconst 0, 1) := by decide +kernel
theorem dX4_noteOverAccounts_1 : decode cX4_noteOverAccounts 1 = .ok (.istore_n 1, 1) := by decide +kernel
theorem dX4_noteOverAccounts_2 : decode cX4_noteOverAccounts 2 = .ok (.iload_n 1, 1) := by decide +kernel
theorem dX4_noteOverAccounts_3 : decode cX4_noteOverAccounts 3 = .ok (.aload_n 0, 1) := by decide +kernel
theorem dX4_noteOverAccounts_4 : decode cX4_noteOverAccounts 4 = .ok (.getfield 10, 3) := by decide +kernel
theorem dX4_noteOverAccounts_7 : decode cX4_noteOverAccounts 7 = .ok (.invokevirtual 99, 3) := by decide +kernel
theorem dX4_noteOverAccounts_10 : decode cX4_noteOverAccounts 10 = .ok (.if_icmp .ge 27, 3) := by decide +kernel
theorem dX4_noteOverAccounts_13 : decode cX4_noteOverAccounts 13 = .ok (.aload_n 0, 1) := by decide +kernel
theorem dX4_noteOverAccounts_14 : decode cX4_noteOverAccounts 14 = .ok (.getfield 10, 3) := by decide +kernel
theorem dX4_noteOverAccounts_17 : decode cX4_noteOverAccounts 17 = .ok (.iload_n 1, 1) := by decide +kernel
theorem dX4_noteOverAccounts_18 : decode cX4_noteOverAccounts 18 = .ok (.invokevirtual 186, 3) := by decide +kernel
theorem dX4_noteOverAccounts_21 : decode cX4_noteOverAccounts 21 = .ok (.checkcast 49, 3) := by decide +kernel
theorem dX4_noteOverAccounts_24 : decode cX4_noteOverAccounts 24 = .ok (.aload_n 0, 1) := by decide +kernel
theorem dX4_noteOverAccounts_25 : decode cX4_noteOverAccounts 25 = .ok (.getfield 38, 3) := by decide +kernel
theorem dX4_noteOverAccounts_28 : decode cX4_noteOverAccounts 28 = .ok (.invokevirtual 226, 3) := by decide +kernel
theorem dX4_noteOverAccounts_31 : decode cX4_noteOverAccounts 31 = .ok (.iinc 1 1, 3) := by decide +kernel
theorem dX4_noteOverAccounts_34 : decode cX4_noteOverAccounts 34 = .ok (.goto (-32), 3) := by decide +kernel
theorem dX4_noteOverAccounts_37 : decode cX4_noteOverAccounts 37 = .ok (.iconst 0, 1) := by decide +kernel
theorem dX4_noteOverAccounts_38 : decode cX4_noteOverAccounts 38 = .ok (.istore_n 1, 1) := by decide +kernel
theorem dX4_noteOverAccounts_39 : decode cX4_noteOverAccounts 39 = .ok (.iload_n 1, 1) := by decide +kernel
theorem dX4_noteOverAccounts_40 : decode cX4_noteOverAccounts 40 = .ok (.aload_n 0, 1) := by decide +kernel
theorem dX4_noteOverAccounts_41 : decode cX4_noteOverAccounts 41 = .ok (.getfield 16, 3) := by decide +kernel
theorem dX4_noteOverAccounts_44 : decode cX4_noteOverAccounts 44 = .ok (.invokevirtual 99, 3) := by decide +kernel
theorem dX4_noteOverAccounts_47 : decode cX4_noteOverAccounts 47 = .ok (.if_icmp .ge 27, 3) := by decide +kernel
theorem dX4_noteOverAccounts_50 : decode cX4_noteOverAccounts 50 = .ok (.aload_n 0, 1) := by decide +kernel
theorem dX4_noteOverAccounts_51 : decode cX4_noteOverAccounts 51 = .ok (.getfield 16, 3) := by decide +kernel
theorem dX4_noteOverAccounts_54 : decode cX4_noteOverAccounts 54 = .ok (.iload_n 1, 1) := by decide +kernel
theorem dX4_noteOverAccounts_55 : decode cX4_noteOverAccounts 55 = .ok (.invokevirtual 186, 3) := by decide +kernel
theorem dX4_noteOverAccounts_58 : decode cX4_noteOverAccounts 58 = .ok (.checkcast 49, 3) := by decide +kernel
theorem dX4_noteOverAccounts_61 : decode cX4_noteOverAccounts 61 = .ok (.aload_n 0, 1) := by decide +kernel
theorem dX4_noteOverAccounts_62 : decode cX4_noteOverAccounts 62 = .ok (.getfield 38, 3) := by decide +kernel
theorem dX4_noteOverAccounts_65 : decode cX4_noteOverAccounts 65 = .ok (.invokevirtual 226, 3) := by decide +kernel
theorem dX4_noteOverAccounts_68 : decode cX4_noteOverAccounts 68 = .ok (.iinc 1 1, 3) := by decide +kernel
theorem dX4_noteOverAccounts_71 : decode cX4_noteOverAccounts 71 = .ok (.goto (-32), 3) := by decide +kernel
theorem dX4_noteOverAccounts_74 : decode cX4_noteOverAccounts 74 = .ok (.iconst 0, 1) := by decide +kernel
theorem dX4_noteOverAccounts_75 : decode cX4_noteOverAccounts 75 = .ok (.istore_n 1, 1) := by decide +kernel
theorem dX4_noteOverAccounts_76 : decode cX4_noteOverAccounts 76 = .ok (.iload_n 1, 1) := by decide +kernel
theorem dX4_noteOverAccounts_77 : decode cX4_noteOverAccounts 77 = .ok (.aload_n 0, 1) := by decide +kernel
theorem dX4_noteOverAccounts_78 : decode cX4_noteOverAccounts 78 = .ok (.getfield 19, 3) := by decide +kernel
theorem dX4_noteOverAccounts_81 : decode cX4_noteOverAccounts 81 = .ok (.invokevirtual 99, 3) := by decide +kernel
theorem dX4_noteOverAccounts_84 : decode cX4_noteOverAccounts 84 = .ok (.if_icmp .ge 30, 3) := by decide +kernel
theorem dX4_noteOverAccounts_87 : decode cX4_noteOverAccounts 87 = .ok (.aload_n 0, 1) := by decide +kernel
theorem dX4_noteOverAccounts_88 : decode cX4_noteOverAccounts 88 = .ok (.getfield 19, 3) := by decide +kernel
theorem dX4_noteOverAccounts_91 : decode cX4_noteOverAccounts 91 = .ok (.iload_n 1, 1) := by decide +kernel
theorem dX4_noteOverAccounts_92 : decode cX4_noteOverAccounts 92 = .ok (.invokevirtual 186, 3) := by decide +kernel
theorem dX4_noteOverAccounts_95 : decode cX4_noteOverAccounts 95 = .ok (.checkcast 56, 3) := by decide +kernel
theorem dX4_noteOverAccounts_98 : decode cX4_noteOverAccounts 98 = .ok (.getfield 256, 3) := by decide +kernel
theorem dX4_noteOverAccounts_101 : decode cX4_noteOverAccounts 101 = .ok (.aload_n 0, 1) := by decide +kernel
theorem dX4_noteOverAccounts_102 : decode cX4_noteOverAccounts 102 = .ok (.getfield 38, 3) := by decide +kernel
theorem dX4_noteOverAccounts_105 : decode cX4_noteOverAccounts 105 = .ok (.invokevirtual 226, 3) := by decide +kernel
theorem dX4_noteOverAccounts_108 : decode cX4_noteOverAccounts 108 = .ok (.iinc 1 1, 3) := by decide +kernel
theorem dX4_noteOverAccounts_111 : decode cX4_noteOverAccounts 111 = .ok (.goto (-35), 3) := by decide +kernel
theorem dX4_noteOverAccounts_114 : decode cX4_noteOverAccounts 114 = .ok (.return_, 1) := by decide +kernel
theorem dX4_barringPlace_0 : decode cX4_barringPlace 0 = .ok (.aload_n 0, 1) := by decide +kernel
theorem dX4_barringPlace_1 : decode cX4_barringPlace 1 = .ok (.aload_n 1, 1) := by decide +kernel
theorem dX4_barringPlace_2 : decode cX4_barringPlace 2 = .ok (.invokevirtual 246, 3) := by decide +kernel
theorem dX4_barringPlace_5 : decode cX4_barringPlace 5 = .ok (.astore 4, 2) := by decide +kernel
theorem dX4_barringPlace_7 : decode cX4_barringPlace 7 = .ok (.iconst 0, 1) := by decide +kernel
theorem dX4_barringPlace_8 : decode cX4_barringPlace 8 = .ok (.istore 5, 2) := by decide +kernel
theorem dX4_barringPlace_10 : decode cX4_barringPlace 10 = .ok (.iload 5, 2) := by decide +kernel
theorem dX4_barringPlace_12 : decode cX4_barringPlace 12 = .ok (.aload 4, 2) := by decide +kernel
theorem dX4_barringPlace_14 : decode cX4_barringPlace 14 = .ok (.invokevirtual 99, 3) := by decide +kernel
theorem dX4_barringPlace_17 : decode cX4_barringPlace 17 = .ok (.if_icmp .ge 34, 3) := by decide +kernel
theorem dX4_barringPlace_20 : decode cX4_barringPlace 20 = .ok (.aload 4, 2) := by decide +kernel
theorem dX4_barringPlace_22 : decode cX4_barringPlace 22 = .ok (.iload 5, 2) := by decide +kernel
theorem dX4_barringPlace_24 : decode cX4_barringPlace 24 = .ok (.invokevirtual 186, 3) := by decide +kernel
theorem dX4_barringPlace_27 : decode cX4_barringPlace 27 = .ok (.checkcast 49, 3) := by decide +kernel
theorem dX4_barringPlace_30 : decode cX4_barringPlace 30 = .ok (.iload_n 2, 1) := by decide +kernel
theorem dX4_barringPlace_31 : decode cX4_barringPlace 31 = .ok (.iload_n 3, 1) := by decide +kernel
theorem dX4_barringPlace_32 : decode cX4_barringPlace 32 = .ok (.aload_n 0, 1) := by decide +kernel
theorem dX4_barringPlace_33 : decode cX4_barringPlace 33 = .ok (.getfield 38, 3) := by decide +kernel
theorem dX4_barringPlace_36 : decode cX4_barringPlace 36 = .ok (.invokevirtual 303, 3) := by decide +kernel
theorem dX4_barringPlace_39 : decode cX4_barringPlace 39 = .ok (.ifCond .eq 6, 3) := by decide +kernel
theorem dX4_barringPlace_42 : decode cX4_barringPlace 42 = .ok (.iload 5, 2) := by decide +kernel
theorem dX4_barringPlace_44 : decode cX4_barringPlace 44 = .ok (.ireturn, 1) := by decide +kernel
theorem dX4_barringPlace_45 : decode cX4_barringPlace 45 = .ok (.iinc 5 1, 3) := by decide +kernel
theorem dX4_barringPlace_48 : decode cX4_barringPlace 48 = .ok (.goto (-38), 3) := by decide +kernel
theorem dX4_barringPlace_51 : decode cX4_barringPlace 51 = .ok (.iconst (-1), 1) := by decide +kernel
theorem dX4_barringPlace_52 : decode cX4_barringPlace 52 = .ok (.ireturn, 1) := by decide +kernel
theorem dX4_barredAnswer_0 : decode cX4_barredAnswer 0 = .ok (.bipush (-2), 2) := by decide +kernel
theorem dX4_barredAnswer_2 : decode cX4_barredAnswer 2 = .ok (.iload_n 0, 1) := by decide +kernel
theorem dX4_barredAnswer_3 : decode cX4_barredAnswer 3 = .ok (.isub, 1) := by decide +kernel
theorem dX4_barredAnswer_4 : decode cX4_barredAnswer 4 = .ok (.ireturn, 1) := by decide +kernel
theorem dX4_isLimit_0 : decode cX4_isLimit 0 = .ok (.iload_n 0, 1) := by decide +kernel
theorem dX4_isLimit_1 : decode cX4_isLimit 1 = .ok (.iconst (-1), 1) := by decide +kernel
theorem dX4_isLimit_2 : decode cX4_isLimit 2 = .ok (.if_icmp .eq 12, 3) := by decide +kernel
theorem dX4_isLimit_5 : decode cX4_isLimit 5 = .ok (.iload_n 0, 1) := by decide +kernel
theorem dX4_isLimit_6 : decode cX4_isLimit 6 = .ok (.ifCond .lt 12, 3) := by decide +kernel
theorem dX4_isLimit_9 : decode cX4_isLimit 9 = .ok (.iload_n 0, 1) := by decide +kernel
theorem dX4_isLimit_10 : decode cX4_isLimit 10 = .ok (.iload_n 1, 1) := by decide +kernel
theorem dX4_isLimit_11 : decode cX4_isLimit 11 = .ok (.if_icmp .gt 7, 3) := by decide +kernel
theorem dX4_isLimit_14 : decode cX4_isLimit 14 = .ok (.iconst 1, 1) := by decide +kernel
theorem dX4_isLimit_15 : decode cX4_isLimit 15 = .ok (.goto 4, 3) := by decide +kernel
theorem dX4_isLimit_18 : decode cX4_isLimit 18 = .ok (.iconst 0, 1) := by decide +kernel
theorem dX4_isLimit_19 : decode cX4_isLimit 19 = .ok (.ireturn, 1) := by decide +kernel
theorem dJ5_init_d00df_0 : decode cJ5_init_d00df 0 = .ok (.aload_n 0, 1) := by decide +kernel
theorem dJ5_init_d00df_1 : decode cJ5_init_d00df 1 = .ok (.invokespecial 3, 3) := by decide +kernel
theorem dJ5_init_d00df_4 : decode cJ5_init_d00df 4 = .ok (.getstatic 18, 3) := by decide +kernel
theorem dJ5_init_d00df_7 : decode cJ5_init_d00df 7 = .ok (.ifCond .eq 18, 3) := by decide +kernel
theorem dJ5_init_d00df_10 : decode cJ5_init_d00df 10 = .ok (.aload_n 0, 1) := by decide +kernel
theorem dJ5_init_d00df_11 : decode cJ5_init_d00df 11 = .ok (.iload_n 1, 1) := by decide +kernel
theorem dJ5_init_d00df_12 : decode cJ5_init_d00df 12 = .ok (.newarray .byte, 2) := by decide +kernel
theorem dJ5_init_d00df_14 : decode cJ5_init_d00df 14 = .ok (.putfield 15, 3) := by decide +kernel
theorem dJ5_init_d00df_17 : decode cJ5_init_d00df 17 = .ok (.aload_n 0, 1) := by decide +kernel
theorem dJ5_init_d00df_18 : decode cJ5_init_d00df 18 = .ok (.iconst 0, 1) := by decide +kernel
theorem dJ5_init_d00df_19 : decode cJ5_init_d00df 19 = .ok (.putfield 22, 3) := by decide +kernel
theorem dJ5_init_d00df_22 : decode cJ5_init_d00df 22 = .ok (.goto 16, 3) := by decide +kernel
theorem dJ5_init_d00df_25 : decode cJ5_init_d00df 25 = .ok (.aload_n 0, 1) := by decide +kernel
theorem dJ5_init_d00df_26 : decode cJ5_init_d00df 26 = .ok (.iload_n 1, 1) := by decide +kernel
theorem dJ5_init_d00df_27 : decode cJ5_init_d00df 27 = .ok (.invokestatic 26, 3) := by decide +kernel
theorem dJ5_init_d00df_30 : decode cJ5_init_d00df 30 = .ok (.putfield 15, 3) := by decide +kernel
theorem dJ5_init_d00df_33 : decode cJ5_init_d00df 33 = .ok (.aload_n 0, 1) := by decide +kernel
theorem dJ5_init_d00df_34 : decode cJ5_init_d00df 34 = .ok (.iconst 1, 1) := by decide +kernel
theorem dJ5_init_d00df_35 : decode cJ5_init_d00df 35 = .ok (.putfield 22, 3) := by decide +kernel
theorem dJ5_init_d00df_38 : decode cJ5_init_d00df 38 = .ok (.return_, 1) := by decide +kernel
theorem dJ5_length_8abf5_0 : decode cJ5_length_8abf5 0 = .ok (.aload_n 0, 1) := by decide +kernel
theorem dJ5_length_8abf5_1 : decode cJ5_length_8abf5 1 = .ok (.getfield 79, 3) := by decide +kernel
theorem dJ5_length_8abf5_4 : decode cJ5_length_8abf5 4 = .ok (.ireturn, 1) := by decide +kernel
theorem dJ5_ensureCapacityInternal_d00df_0 : decode cJ5_ensureCapacityInternal_d00df 0 = .ok (.aload_n 0, 1) := by decide +kernel
theorem dJ5_ensureCapacityInternal_d00df_1 : decode cJ5_ensureCapacityInternal_d00df 1 = .ok (.getfield 15, 3) := by decide +kernel
theorem dJ5_ensureCapacityInternal_d00df_4 : decode cJ5_ensureCapacityInternal_d00df 4 = .ok (.arraylength, 1) := by decide +kernel
theorem dJ5_ensureCapacityInternal_d00df_5 : decode cJ5_ensureCapacityInternal_d00df 5 = .ok (.aload_n 0, 1) := by decide +kernel
theorem dJ5_ensureCapacityInternal_d00df_6 : decode cJ5_ensureCapacityInternal_d00df 6 = .ok (.getfield 22, 3) := by decide +kernel
theorem dJ5_ensureCapacityInternal_d00df_9 : decode cJ5_ensureCapacityInternal_d00df 9 = .ok (.ishr, 1) := by decide +kernel
theorem dJ5_ensureCapacityInternal_d00df_10 : decode cJ5_ensureCapacityInternal_d00df 10 = .ok (.istore_n 2, 1) := by decide +kernel
theorem dJ5_ensureCapacityInternal_d00df_11 : decode cJ5_ensureCapacityInternal_d00df 11 = .ok (.iload_n 1, 1) := by decide +kernel
theorem dJ5_ensureCapacityInternal_d00df_12 : decode cJ5_ensureCapacityInternal_d00df 12 = .ok (.iload_n 2, 1) := by decide +kernel
theorem dJ5_ensureCapacityInternal_d00df_13 : decode cJ5_ensureCapacityInternal_d00df 13 = .ok (.isub, 1) := by decide +kernel
theorem dJ5_ensureCapacityInternal_d00df_14 : decode cJ5_ensureCapacityInternal_d00df 14 = .ok (.ifCond .le 24, 3) := by decide +kernel
theorem dJ5_ensureCapacityInternal_d00df_17 : decode cJ5_ensureCapacityInternal_d00df 17 = .ok (.aload_n 0, 1) := by decide +kernel
theorem dJ5_ensureCapacityInternal_d00df_18 : decode cJ5_ensureCapacityInternal_d00df 18 = .ok (.aload_n 0, 1) := by decide +kernel
theorem dJ5_ensureCapacityInternal_d00df_19 : decode cJ5_ensureCapacityInternal_d00df 19 = .ok (.getfield 15, 3) := by decide +kernel
theorem dJ5_ensureCapacityInternal_d00df_22 : decode cJ5_ensureCapacityInternal_d00df 22 = .ok (.aload_n 0, 1) := by decide +kernel
theorem dJ5_ensureCapacityInternal_d00df_23 : decode cJ5_ensureCapacityInternal_d00df 23 = .ok (.iload_n 1, 1) := by decide +kernel
theorem dJ5_ensureCapacityInternal_d00df_24 : decode cJ5_ensureCapacityInternal_d00df 24 = .ok (.invokevirtual 104, 3) := by decide +kernel
theorem dJ5_ensureCapacityInternal_d00df_27 : decode cJ5_ensureCapacityInternal_d00df 27 = .ok (.aload_n 0, 1) := by decide +kernel
theorem dJ5_ensureCapacityInternal_d00df_28 : decode cJ5_ensureCapacityInternal_d00df 28 = .ok (.getfield 22, 3) := by decide +kernel
theorem dJ5_ensureCapacityInternal_d00df_31 : decode cJ5_ensureCapacityInternal_d00df 31 = .ok (.ishl, 1) := by decide +kernel
theorem dJ5_ensureCapacityInternal_d00df_32 : decode cJ5_ensureCapacityInternal_d00df 32 = .ok (.invokestatic 108, 3) := by decide +kernel
theorem dJ5_ensureCapacityInternal_d00df_35 : decode cJ5_ensureCapacityInternal_d00df 35 = .ok (.putfield 15, 3) := by decide +kernel
theorem dJ5_ensureCapacityInternal_d00df_38 : decode cJ5_ensureCapacityInternal_d00df 38 = .ok (.return_, 1) := by decide +kernel
theorem dJ5_setLength_d00df_0 : decode cJ5_setLength_d00df 0 = .ok (.iload_n 1, 1) := by decide +kernel
theorem dJ5_setLength_d00df_1 : decode cJ5_setLength_d00df 1 = .ok (.ifCond .ge 12, 3) := by decide +kernel
theorem dJ5_setLength_d00df_4 : decode cJ5_setLength_d00df 4 = .ok (.new 129, 3) := by decide +kernel
theorem dJ5_setLength_d00df_7 : decode cJ5_setLength_d00df 7 = .ok (.dup, 1) := by decide +kernel
theorem dJ5_setLength_d00df_8 : decode cJ5_setLength_d00df 8 = .ok (.iload_n 1, 1) := by decide +kernel
theorem dJ5_setLength_d00df_9 : decode cJ5_setLength_d00df 9 = .ok (.invokespecial 131, 3) := by decide +kernel
theorem dJ5_setLength_d00df_12 : decode cJ5_setLength_d00df 12 = .ok (.athrow, 1) := by decide +kernel
theorem dJ5_setLength_d00df_13 : decode cJ5_setLength_d00df 13 = .ok (.aload_n 0, 1) := by decide +kernel
theorem dJ5_setLength_d00df_14 : decode cJ5_setLength_d00df 14 = .ok (.iload_n 1, 1) := by decide +kernel
theorem dJ5_setLength_d00df_15 : decode cJ5_setLength_d00df 15 = .ok (.invokevirtual 100, 3) := by decide +kernel
theorem dJ5_setLength_d00df_18 : decode cJ5_setLength_d00df 18 = .ok (.aload_n 0, 1) := by decide +kernel
theorem dJ5_setLength_d00df_19 : decode cJ5_setLength_d00df 19 = .ok (.getfield 79, 3) := by decide +kernel
theorem dJ5_setLength_d00df_22 : decode cJ5_setLength_d00df 22 = .ok (.iload_n 1, 1) := by decide +kernel
theorem dJ5_setLength_d00df_23 : decode cJ5_setLength_d00df 23 = .ok (.if_icmp .ge 40, 3) := by decide +kernel
theorem dJ5_setLength_d00df_26 : decode cJ5_setLength_d00df 26 = .ok (.aload_n 0, 1) := by decide +kernel
theorem dJ5_setLength_d00df_27 : decode cJ5_setLength_d00df 27 = .ok (.invokevirtual 83, 3) := by decide +kernel
theorem dJ5_setLength_d00df_30 : decode cJ5_setLength_d00df 30 = .ok (.ifCond .eq 18, 3) := by decide +kernel
theorem dJ5_setLength_d00df_33 : decode cJ5_setLength_d00df 33 = .ok (.aload_n 0, 1) := by decide +kernel
theorem dJ5_setLength_d00df_34 : decode cJ5_setLength_d00df 34 = .ok (.getfield 15, 3) := by decide +kernel
theorem dJ5_setLength_d00df_37 : decode cJ5_setLength_d00df 37 = .ok (.aload_n 0, 1) := by decide +kernel
theorem dJ5_setLength_d00df_38 : decode cJ5_setLength_d00df 38 = .ok (.getfield 79, 3) := by decide +kernel
theorem dJ5_setLength_d00df_41 : decode cJ5_setLength_d00df 41 = .ok (.iload_n 1, 1) := by decide +kernel
theorem dJ5_setLength_d00df_42 : decode cJ5_setLength_d00df 42 = .ok (.invokestatic 133, 3) := by decide +kernel
theorem dJ5_setLength_d00df_45 : decode cJ5_setLength_d00df 45 = .ok (.goto 31, 3) := by decide +kernel
theorem dJ5_setLength_d00df_48 : decode cJ5_setLength_d00df 48 = .ok (.aload_n 0, 1) := by decide +kernel
theorem dJ5_setLength_d00df_49 : decode cJ5_setLength_d00df 49 = .ok (.getfield 15, 3) := by decide +kernel
theorem dJ5_setLength_d00df_52 : decode cJ5_setLength_d00df 52 = .ok (.aload_n 0, 1) := by decide +kernel
theorem dJ5_setLength_d00df_53 : decode cJ5_setLength_d00df 53 = .ok (.getfield 79, 3) := by decide +kernel
theorem dJ5_setLength_d00df_56 : decode cJ5_setLength_d00df 56 = .ok (.iload_n 1, 1) := by decide +kernel
theorem dJ5_setLength_d00df_57 : decode cJ5_setLength_d00df 57 = .ok (.invokestatic 137, 3) := by decide +kernel
theorem dJ5_setLength_d00df_60 : decode cJ5_setLength_d00df 60 = .ok (.goto 16, 3) := by decide +kernel
theorem dJ5_setLength_d00df_63 : decode cJ5_setLength_d00df 63 = .ok (.aload_n 0, 1) := by decide +kernel
theorem dJ5_setLength_d00df_64 : decode cJ5_setLength_d00df 64 = .ok (.getfield 79, 3) := by decide +kernel
theorem dJ5_setLength_d00df_67 : decode cJ5_setLength_d00df 67 = .ok (.iload_n 1, 1) := by decide +kernel
theorem dJ5_setLength_d00df_68 : decode cJ5_setLength_d00df 68 = .ok (.if_icmp .le 8, 3) := by decide +kernel
theorem dJ5_setLength_d00df_71 : decode cJ5_setLength_d00df 71 = .ok (.aload_n 0, 1) := by decide +kernel
theorem dJ5_setLength_d00df_72 : decode cJ5_setLength_d00df 72 = .ok (.iconst 1, 1) := by decide +kernel
theorem dJ5_setLength_d00df_73 : decode cJ5_setLength_d00df 73 = .ok (.putfield 73, 3) := by decide +kernel
theorem dJ5_setLength_d00df_76 : decode cJ5_setLength_d00df 76 = .ok (.aload_n 0, 1) := by decide +kernel
theorem dJ5_setLength_d00df_77 : decode cJ5_setLength_d00df 77 = .ok (.iload_n 1, 1) := by decide +kernel
theorem dJ5_setLength_d00df_78 : decode cJ5_setLength_d00df 78 = .ok (.putfield 79, 3) := by decide +kernel
theorem dJ5_setLength_d00df_81 : decode cJ5_setLength_d00df 81 = .ok (.return_, 1) := by decide +kernel
theorem dJ5_charAt_5068e_0 : decode cJ5_charAt_5068e 0 = .ok (.aload_n 0, 1) := by decide +kernel
theorem dJ5_charAt_5068e_1 : decode cJ5_charAt_5068e 1 = .ok (.getfield 22, 3) := by decide +kernel
theorem dJ5_charAt_5068e_4 : decode cJ5_charAt_5068e 4 = .ok (.istore_n 2, 1) := by decide +kernel
theorem dJ5_charAt_5068e_5 : decode cJ5_charAt_5068e 5 = .ok (.aload_n 0, 1) := by decide +kernel
theorem dJ5_charAt_5068e_6 : decode cJ5_charAt_5068e 6 = .ok (.getfield 15, 3) := by decide +kernel
theorem dJ5_charAt_5068e_9 : decode cJ5_charAt_5068e 9 = .ok (.astore_n 3, 1) := by decide +kernel
theorem dJ5_charAt_5068e_10 : decode cJ5_charAt_5068e 10 = .ok (.aload_n 0, 1) := by decide +kernel
theorem dJ5_charAt_5068e_11 : decode cJ5_charAt_5068e 11 = .ok (.getfield 79, 3) := by decide +kernel
theorem dJ5_charAt_5068e_14 : decode cJ5_charAt_5068e 14 = .ok (.aload_n 3, 1) := by decide +kernel
theorem dJ5_charAt_5068e_15 : decode cJ5_charAt_5068e 15 = .ok (.arraylength, 1) := by decide +kernel
theorem dJ5_charAt_5068e_16 : decode cJ5_charAt_5068e 16 = .ok (.iload_n 2, 1) := by decide +kernel
theorem dJ5_charAt_5068e_17 : decode cJ5_charAt_5068e 17 = .ok (.ishr, 1) := by decide +kernel
theorem dJ5_charAt_5068e_18 : decode cJ5_charAt_5068e 18 = .ok (.invokestatic 138, 3) := by decide +kernel
theorem dJ5_charAt_5068e_21 : decode cJ5_charAt_5068e 21 = .ok (.istore 4, 2) := by decide +kernel
theorem dJ5_charAt_5068e_23 : decode cJ5_charAt_5068e 23 = .ok (.iload_n 1, 1) := by decide +kernel
theorem dJ5_charAt_5068e_24 : decode cJ5_charAt_5068e 24 = .ok (.iload 4, 2) := by decide +kernel
theorem dJ5_charAt_5068e_26 : decode cJ5_charAt_5068e 26 = .ok (.invokestatic 144, 3) := by decide +kernel
theorem dJ5_charAt_5068e_29 : decode cJ5_charAt_5068e 29 = .ok (.iload_n 2, 1) := by decide +kernel
theorem dJ5_charAt_5068e_30 : decode cJ5_charAt_5068e 30 = .ok (.ifCond .ne 12, 3) := by decide +kernel
theorem dJ5_charAt_5068e_33 : decode cJ5_charAt_5068e 33 = .ok (.aload_n 3, 1) := by decide +kernel
theorem dJ5_charAt_5068e_34 : decode cJ5_charAt_5068e 34 = .ok (.iload_n 1, 1) := by decide +kernel
theorem dJ5_charAt_5068e_35 : decode cJ5_charAt_5068e 35 = .ok (.baload, 1) := by decide +kernel
theorem dJ5_charAt_5068e_36 : decode cJ5_charAt_5068e 36 = .ok (.sipush 255, 3) := by decide +kernel
theorem dJ5_charAt_5068e_39 : decode cJ5_charAt_5068e 39 = .ok (.iand, 1) := by decide +kernel
theorem dJ5_charAt_5068e_40 : decode cJ5_charAt_5068e 40 = .ok (.i2c, 1) := by decide +kernel
theorem dJ5_charAt_5068e_41 : decode cJ5_charAt_5068e 41 = .ok (.ireturn, 1) := by decide +kernel
theorem dJ5_charAt_5068e_42 : decode cJ5_charAt_5068e 42 = .ok (.aload_n 3, 1) := by decide +kernel
theorem dJ5_charAt_5068e_43 : decode cJ5_charAt_5068e 43 = .ok (.iload_n 1, 1) := by decide +kernel
theorem dJ5_charAt_5068e_44 : decode cJ5_charAt_5068e 44 = .ok (.invokestatic 148, 3) := by decide +kernel
theorem dJ5_charAt_5068e_47 : decode cJ5_charAt_5068e 47 = .ok (.ireturn, 1) := by decide +kernel
theorem dJ5_append_3fe6f_0 : decode cJ5_append_3fe6f 0 = .ok (.aload_n 0, 1) := by decide +kernel
theorem dJ5_append_3fe6f_1 : decode cJ5_append_3fe6f 1 = .ok (.aload_n 0, 1) := by decide +kernel
theorem dJ5_append_3fe6f_2 : decode cJ5_append_3fe6f 2 = .ok (.getfield 79, 3) := by decide +kernel
theorem dJ5_append_3fe6f_5 : decode cJ5_append_3fe6f 5 = .ok (.iconst 1, 1) := by decide +kernel
theorem dJ5_append_3fe6f_6 : decode cJ5_append_3fe6f 6 = .ok (.iadd, 1) := by decide +kernel
theorem dJ5_append_3fe6f_7 : decode cJ5_append_3fe6f 7 = .ok (.invokevirtual 100, 3) := by decide +kernel
theorem dJ5_append_3fe6f_10 : decode cJ5_append_3fe6f 10 = .ok (.aload_n 0, 1) := by decide +kernel
theorem dJ5_append_3fe6f_11 : decode cJ5_append_3fe6f 11 = .ok (.invokevirtual 83, 3) := by decide +kernel
theorem dJ5_append_3fe6f_14 : decode cJ5_append_3fe6f 14 = .ok (.ifCond .eq 31, 3) := by decide +kernel
theorem dJ5_append_3fe6f_17 : decode cJ5_append_3fe6f 17 = .ok (.iload_n 1, 1) := by decide +kernel
theorem dJ5_append_3fe6f_18 : decode cJ5_append_3fe6f 18 = .ok (.invokestatic 191, 3) := by decide +kernel
theorem dJ5_append_3fe6f_21 : decode cJ5_append_3fe6f 21 = .ok (.ifCond .eq 24, 3) := by decide +kernel
theorem dJ5_append_3fe6f_24 : decode cJ5_append_3fe6f 24 = .ok (.aload_n 0, 1) := by decide +kernel
theorem dJ5_append_3fe6f_25 : decode cJ5_append_3fe6f 25 = .ok (.getfield 15, 3) := by decide +kernel
theorem dJ5_append_3fe6f_28 : decode cJ5_append_3fe6f 28 = .ok (.aload_n 0, 1) := by decide +kernel
theorem dJ5_append_3fe6f_29 : decode cJ5_append_3fe6f 29 = .ok (.dup, 1) := by decide +kernel
theorem dJ5_append_3fe6f_30 : decode cJ5_append_3fe6f 30 = .ok (.getfield 79, 3) := by decide +kernel
theorem dJ5_append_3fe6f_33 : decode cJ5_append_3fe6f 33 = .ok (.dup_x1, 1) := by decide +kernel
theorem dJ5_append_3fe6f_34 : decode cJ5_append_3fe6f 34 = .ok (.iconst 1, 1) := by decide +kernel
theorem dJ5_append_3fe6f_35 : decode cJ5_append_3fe6f 35 = .ok (.iadd, 1) := by decide +kernel
theorem dJ5_append_3fe6f_36 : decode cJ5_append_3fe6f 36 = .ok (.putfield 79, 3) := by decide +kernel
theorem dJ5_append_3fe6f_39 : decode cJ5_append_3fe6f 39 = .ok (.iload_n 1, 1) := by decide +kernel
theorem dJ5_append_3fe6f_40 : decode cJ5_append_3fe6f 40 = .ok (.i2b, 1) := by decide +kernel
theorem dJ5_append_3fe6f_41 : decode cJ5_append_3fe6f 41 = .ok (.bastore, 1) := by decide +kernel
theorem dJ5_append_3fe6f_42 : decode cJ5_append_3fe6f 42 = .ok (.goto 33, 3) := by decide +kernel
theorem dJ5_append_3fe6f_45 : decode cJ5_append_3fe6f 45 = .ok (.aload_n 0, 1) := by decide +kernel
theorem dJ5_append_3fe6f_46 : decode cJ5_append_3fe6f 46 = .ok (.invokevirtual 83, 3) := by decide +kernel
theorem dJ5_append_3fe6f_49 : decode cJ5_append_3fe6f 49 = .ok (.ifCond .eq 7, 3) := by decide +kernel
theorem dJ5_append_3fe6f_52 : decode cJ5_append_3fe6f 52 = .ok (.aload_n 0, 1) := by decide +kernel
theorem dJ5_append_3fe6f_53 : decode cJ5_append_3fe6f 53 = .ok (.invokevirtual 195, 3) := by decide +kernel
theorem dJ5_append_3fe6f_56 : decode cJ5_append_3fe6f 56 = .ok (.aload_n 0, 1) := by decide +kernel
theorem dJ5_append_3fe6f_57 : decode cJ5_append_3fe6f 57 = .ok (.getfield 15, 3) := by decide +kernel
theorem dJ5_append_3fe6f_60 : decode cJ5_append_3fe6f 60 = .ok (.aload_n 0, 1) := by decide +kernel
theorem dJ5_append_3fe6f_61 : decode cJ5_append_3fe6f 61 = .ok (.dup, 1) := by decide +kernel
theorem dJ5_append_3fe6f_62 : decode cJ5_append_3fe6f 62 = .ok (.getfield 79, 3) := by decide +kernel
theorem dJ5_append_3fe6f_65 : decode cJ5_append_3fe6f 65 = .ok (.dup_x1, 1) := by decide +kernel
theorem dJ5_append_3fe6f_66 : decode cJ5_append_3fe6f 66 = .ok (.iconst 1, 1) := by decide +kernel
theorem dJ5_append_3fe6f_67 : decode cJ5_append_3fe6f 67 = .ok (.iadd, 1) := by decide +kernel
theorem dJ5_append_3fe6f_68 : decode cJ5_append_3fe6f 68 = .ok (.putfield 79, 3) := by decide +kernel
theorem dJ5_append_3fe6f_71 : decode cJ5_append_3fe6f 71 = .ok (.iload_n 1, 1) := by decide +kernel
theorem dJ5_append_3fe6f_72 : decode cJ5_append_3fe6f 72 = .ok (.invokestatic 197, 3) := by decide +kernel
theorem dJ5_append_3fe6f_75 : decode cJ5_append_3fe6f 75 = .ok (.aload_n 0, 1) := by decide +kernel
theorem dJ5_append_3fe6f_76 : decode cJ5_append_3fe6f 76 = .ok (.areturn, 1) := by decide +kernel
theorem dJ5_isLatin1_aae02_0 : decode cJ5_isLatin1_aae02 0 = .ok (.getstatic 18, 3) := by decide +kernel
theorem dJ5_isLatin1_aae02_3 : decode cJ5_isLatin1_aae02 3 = .ok (.ifCond .eq 14, 3) := by decide +kernel
theorem dJ5_isLatin1_aae02_6 : decode cJ5_isLatin1_aae02 6 = .ok (.aload_n 0, 1) := by decide +kernel
theorem dJ5_isLatin1_aae02_7 : decode cJ5_isLatin1_aae02 7 = .ok (.getfield 22, 3) := by decide +kernel
theorem dJ5_isLatin1_aae02_10 : decode cJ5_isLatin1_aae02 10 = .ok (.ifCond .ne 7, 3) := by decide +kernel
theorem dJ5_isLatin1_aae02_13 : decode cJ5_isLatin1_aae02 13 = .ok (.iconst 1, 1) := by decide +kernel
theorem dJ5_isLatin1_aae02_14 : decode cJ5_isLatin1_aae02 14 = .ok (.goto 4, 3) := by decide +kernel
theorem dJ5_isLatin1_aae02_17 : decode cJ5_isLatin1_aae02 17 = .ok (.iconst 0, 1) := by decide +kernel
theorem dJ5_isLatin1_aae02_18 : decode cJ5_isLatin1_aae02 18 = .ok (.ireturn, 1) := by decide +kernel
theorem dJ9_max_7cf53_0 : decode cJ9_max_7cf53 0 = .ok (.iload_n 0, 1) := by decide +kernel
theorem dJ9_max_7cf53_1 : decode cJ9_max_7cf53 1 = .ok (.iload_n 1, 1) := by decide +kernel
theorem dJ9_max_7cf53_2 : decode cJ9_max_7cf53 2 = .ok (.if_icmp .lt 7, 3) := by decide +kernel
theorem dJ9_max_7cf53_5 : decode cJ9_max_7cf53 5 = .ok (.iload_n 0, 1) := by decide +kernel
theorem dJ9_max_7cf53_6 : decode cJ9_max_7cf53 6 = .ok (.goto 4, 3) := by decide +kernel
theorem dJ9_max_7cf53_9 : decode cJ9_max_7cf53 9 = .ok (.iload_n 1, 1) := by decide +kernel
theorem dJ9_max_7cf53_10 : decode cJ9_max_7cf53 10 = .ok (.ireturn, 1) := by decide +kernel
theorem dJ9_min_7cf53_0 : decode cJ9_min_7cf53 0 = .ok (.iload_n 0, 1) := by decide +kernel
theorem dJ9_min_7cf53_1 : decode cJ9_min_7cf53 1 = .ok (.iload_n 1, 1) := by decide +kernel
theorem dJ9_min_7cf53_2 : decode cJ9_min_7cf53 2 = .ok (.if_icmp .gt 7, 3) := by decide +kernel
theorem dJ9_min_7cf53_5 : decode cJ9_min_7cf53 5 = .ok (.iload_n 0, 1) := by decide +kernel
theorem dJ9_min_7cf53_6 : decode cJ9_min_7cf53 6 = .ok (.goto 4, 3) := by decide +kernel
theorem dJ9_min_7cf53_9 : decode cJ9_min_7cf53 9 = .ok (.iload_n 1, 1) := by decide +kernel
theorem dJ9_min_7cf53_10 : decode cJ9_min_7cf53 10 = .ok (.ireturn, 1) := by decide +kernel
theorem dJ0_checkIndex_df160_0 : decode cJ0_checkIndex_df160 0 = .ok (.iload_n 0, 1) := by decide +kernel
theorem dJ0_checkIndex_df160_1 : decode cJ0_checkIndex_df160 1 = .ok (.iload_n 1, 1) := by decide +kernel
theorem dJ0_checkIndex_df160_2 : decode cJ0_checkIndex_df160 2 = .ok (.getstatic 1053, 3) := by decide +kernel
theorem dJ0_checkIndex_df160_5 : decode cJ0_checkIndex_df160 5 = .ok (.invokestatic 1059, 3) := by decide +kernel
theorem dJ0_checkIndex_df160_8 : decode cJ0_checkIndex_df160 8 = .ok (.pop, 1) := by decide +kernel
theorem dJ0_checkIndex_df160_9 : decode cJ0_checkIndex_df160 9 = .ok (.return_, 1) := by decide +kernel
theorem dJ4_init_da8c8_0 : decode cJ4_init_da8c8 0 = .ok (.aload_n 0, 1) := by decide +kernel
theorem dJ4_init_da8c8_1 : decode cJ4_init_da8c8 1 = .ok (.bipush 16, 2) := by decide +kernel
theorem dJ4_init_da8c8_3 : decode cJ4_init_da8c8 3 = .ok (.invokespecial 1, 3) := by decide +kernel
theorem dJ4_init_da8c8_6 : decode cJ4_init_da8c8 6 = .ok (.return_, 1) := by decide +kernel
theorem dJ4_append_cf468_0 : decode cJ4_append_cf468 0 = .ok (.aload_n 0, 1) := by decide +kernel
theorem dJ4_append_cf468_1 : decode cJ4_append_cf468 1 = .ok (.iload_n 1, 1) := by decide +kernel
theorem dJ4_append_cf468_2 : decode cJ4_append_cf468 2 = .ok (.invokespecial 50, 3) := by decide +kernel
theorem dJ4_append_cf468_5 : decode cJ4_append_cf468 5 = .ok (.pop, 1) := by decide +kernel
theorem dJ4_append_cf468_6 : decode cJ4_append_cf468 6 = .ok (.aload_n 0, 1) := by decide +kernel
theorem dJ4_append_cf468_7 : decode cJ4_append_cf468 7 = .ok (.areturn, 1) := by decide +kernel
theorem dJ4_charAt_5068e_0 : decode cJ4_charAt_5068e 0 = .ok (.aload_n 0, 1) := by decide +kernel
theorem dJ4_charAt_5068e_1 : decode cJ4_charAt_5068e 1 = .ok (.iload_n 1, 1) := by decide +kernel
theorem dJ4_charAt_5068e_2 : decode cJ4_charAt_5068e 2 = .ok (.invokespecial 329, 3) := by decide +kernel
theorem dJ4_charAt_5068e_5 : decode cJ4_charAt_5068e 5 = .ok (.ireturn, 1) := by decide +kernel
theorem dJ4_setLength_d00df_0 : decode cJ4_setLength_d00df 0 = .ok (.aload_n 0, 1) := by decide +kernel
theorem dJ4_setLength_d00df_1 : decode cJ4_setLength_d00df 1 = .ok (.iload_n 1, 1) := by decide +kernel
theorem dJ4_setLength_d00df_2 : decode cJ4_setLength_d00df 2 = .ok (.invokespecial 333, 3) := by decide +kernel
theorem dJ4_setLength_d00df_5 : decode cJ4_setLength_d00df 5 = .ok (.return_, 1) := by decide +kernel
theorem dJ4_length_8abf5_0 : decode cJ4_length_8abf5 0 = .ok (.aload_n 0, 1) := by decide +kernel
theorem dJ4_length_8abf5_1 : decode cJ4_length_8abf5 1 = .ok (.invokespecial 343, 3) := by decide +kernel
theorem dJ4_length_8abf5_4 : decode cJ4_length_8abf5 4 = .ok (.ireturn, 1) := by decide +kernel
theorem dJ1_canEncode_fc78d_0 : decode cJ1_canEncode_fc78d 0 = .ok (.iload_n 0, 1) := by decide +kernel
theorem dJ1_canEncode_fc78d_1 : decode cJ1_canEncode_fc78d 1 = .ok (.sipush 255, 3) := by decide +kernel
theorem dJ1_canEncode_fc78d_4 : decode cJ1_canEncode_fc78d 4 = .ok (.if_icmp .gt 7, 3) := by decide +kernel
theorem dJ1_canEncode_fc78d_7 : decode cJ1_canEncode_fc78d 7 = .ok (.iconst 1, 1) := by decide +kernel
theorem dJ1_canEncode_fc78d_8 : decode cJ1_canEncode_fc78d 8 = .ok (.goto 4, 3) := by decide +kernel
theorem dJ1_canEncode_fc78d_11 : decode cJ1_canEncode_fc78d 11 = .ok (.iconst 0, 1) := by decide +kernel
theorem dJ1_canEncode_fc78d_12 : decode cJ1_canEncode_fc78d 12 = .ok (.ireturn, 1) := by decide +kernel
theorem dJxa1e45_init_da8c8_0 : decode cJxa1e45_init_da8c8 0 = .ok (.aload_n 0, 1) := by decide +kernel
theorem dJxa1e45_init_da8c8_1 : decode cJxa1e45_init_da8c8 1 = .ok (.invokespecial 1, 3) := by decide +kernel
theorem dJxa1e45_init_da8c8_4 : decode cJxa1e45_init_da8c8 4 = .ok (.return_, 1) := by decide +kernel
theorem dJxc12de_init_da8c8_0 : decode cJxc12de_init_da8c8 0 = .ok (.aload_n 0, 1) := by decide +kernel
theorem dJxc12de_init_da8c8_1 : decode cJxc12de_init_da8c8 1 = .ok (.invokespecial 1, 3) := by decide +kernel
theorem dJxc12de_init_da8c8_4 : decode cJxc12de_init_da8c8 4 = .ok (.aload_n 0, 1) := by decide +kernel
theorem dJxc12de_init_da8c8_5 : decode cJxc12de_init_da8c8 5 = .ok (.iconst 0, 1) := by decide +kernel
theorem dJxc12de_init_da8c8_6 : decode cJxc12de_init_da8c8 6 = .ok (.putfield 7, 3) := by decide +kernel
theorem dJxc12de_init_da8c8_9 : decode cJxc12de_init_da8c8 9 = .ok (.return_, 1) := by decide +kernel
theorem dJx4a65c_init_da8c8_0 : decode cJx4a65c_init_da8c8 0 = .ok (.aload_n 0, 1) := by decide +kernel
theorem dJx4a65c_init_da8c8_1 : decode cJx4a65c_init_da8c8 1 = .ok (.invokespecial 1, 3) := by decide +kernel
theorem dJx4a65c_init_da8c8_4 : decode cJx4a65c_init_da8c8 4 = .ok (.aload_n 0, 1) := by decide +kernel
theorem dJx4a65c_init_da8c8_5 : decode cJx4a65c_init_da8c8 5 = .ok (.getstatic 39, 3) := by decide +kernel
theorem dJx4a65c_init_da8c8_8 : decode cJx4a65c_init_da8c8 8 = .ok (.putfield 9, 3) := by decide +kernel
theorem dJx4a65c_init_da8c8_11 : decode cJx4a65c_init_da8c8 11 = .ok (.return_, 1) := by decide +kernel
theorem dJx4a65c_grow_92f84_0 : decode cJx4a65c_grow_92f84 0 = .ok (.aload_n 0, 1) := by decide +kernel
theorem dJx4a65c_grow_92f84_1 : decode cJx4a65c_grow_92f84 1 = .ok (.getfield 9, 3) := by decide +kernel
theorem dJx4a65c_grow_92f84_4 : decode cJx4a65c_grow_92f84 4 = .ok (.arraylength, 1) := by decide +kernel
theorem dJx4a65c_grow_92f84_5 : decode cJx4a65c_grow_92f84 5 = .ok (.istore_n 2, 1) := by decide +kernel
theorem dJx4a65c_grow_92f84_6 : decode cJx4a65c_grow_92f84 6 = .ok (.iload_n 2, 1) := by decide +kernel
theorem dJx4a65c_grow_92f84_7 : decode cJx4a65c_grow_92f84 7 = .ok (.ifCond .gt 13, 3) := by decide +kernel
theorem dJx4a65c_grow_92f84_10 : decode cJx4a65c_grow_92f84 10 = .ok (.aload_n 0, 1) := by decide +kernel
theorem dJx4a65c_grow_92f84_11 : decode cJx4a65c_grow_92f84 11 = .ok (.getfield 9, 3) := by decide +kernel
theorem dJx4a65c_grow_92f84_14 : decode cJx4a65c_grow_92f84 14 = .ok (.getstatic 39, 3) := by decide +kernel
theorem dJx4a65c_grow_92f84_17 : decode cJx4a65c_grow_92f84 17 = .ok (.if_acmp .eq 28, 3) := by decide +kernel
theorem dJx4a65c_grow_92f84_20 : decode cJx4a65c_grow_92f84 20 = .ok (.iload_n 2, 1) := by decide +kernel
theorem dJx4a65c_grow_92f84_21 : decode cJx4a65c_grow_92f84 21 = .ok (.iload_n 1, 1) := by decide +kernel
theorem dJx4a65c_grow_92f84_22 : decode cJx4a65c_grow_92f84 22 = .ok (.iload_n 2, 1) := by decide +kernel
theorem dJx4a65c_grow_92f84_23 : decode cJx4a65c_grow_92f84 23 = .ok (.isub, 1) := by decide +kernel
theorem dJx4a65c_grow_92f84_24 : decode cJx4a65c_grow_92f84 24 = .ok (.iload_n 2, 1) := by decide +kernel
theorem dJx4a65c_grow_92f84_25 : decode cJx4a65c_grow_92f84 25 = .ok (.iconst 1, 1) := by decide +kernel
theorem dJx4a65c_grow_92f84_26 : decode cJx4a65c_grow_92f84 26 = .ok (.ishr, 1) := by decide +kernel
theorem dJx4a65c_grow_92f84_27 : decode cJx4a65c_grow_92f84 27 = .ok (.invokestatic 73, 3) := by decide +kernel
theorem dJx4a65c_grow_92f84_30 : decode cJx4a65c_grow_92f84 30 = .ok (.istore_n 3, 1) := by decide +kernel
theorem dJx4a65c_grow_92f84_31 : decode cJx4a65c_grow_92f84 31 = .ok (.aload_n 0, 1) := by decide +kernel
theorem dJx4a65c_grow_92f84_32 : decode cJx4a65c_grow_92f84 32 = .ok (.aload_n 0, 1) := by decide +kernel
theorem dJx4a65c_grow_92f84_33 : decode cJx4a65c_grow_92f84 33 = .ok (.getfield 9, 3) := by decide +kernel
theorem dJx4a65c_grow_92f84_36 : decode cJx4a65c_grow_92f84 36 = .ok (.iload_n 3, 1) := by decide +kernel
theorem dJx4a65c_grow_92f84_37 : decode cJx4a65c_grow_92f84 37 = .ok (.invokestatic 66, 3) := by decide +kernel
theorem dJx4a65c_grow_92f84_40 : decode cJx4a65c_grow_92f84 40 = .ok (.dup_x1, 1) := by decide +kernel
theorem dJx4a65c_grow_92f84_41 : decode cJx4a65c_grow_92f84 41 = .ok (.putfield 9, 3) := by decide +kernel
theorem dJx4a65c_grow_92f84_44 : decode cJx4a65c_grow_92f84 44 = .ok (.areturn, 1) := by decide +kernel
theorem dJx4a65c_grow_92f84_45 : decode cJx4a65c_grow_92f84 45 = .ok (.aload_n 0, 1) := by decide +kernel
theorem dJx4a65c_grow_92f84_46 : decode cJx4a65c_grow_92f84 46 = .ok (.bipush 10, 2) := by decide +kernel
theorem dJx4a65c_grow_92f84_48 : decode cJx4a65c_grow_92f84 48 = .ok (.iload_n 1, 1) := by decide +kernel
theorem dJx4a65c_grow_92f84_49 : decode cJx4a65c_grow_92f84 49 = .ok (.invokestatic 79, 3) := by decide +kernel
theorem dJx4a65c_grow_92f84_52 : decode cJx4a65c_grow_92f84 52 = .ok (.anewarray 7, 3) := by decide +kernel
theorem dJx4a65c_grow_92f84_55 : decode cJx4a65c_grow_92f84 55 = .ok (.dup_x1, 1) := by decide +kernel
theorem dJx4a65c_grow_92f84_56 : decode cJx4a65c_grow_92f84 56 = .ok (.putfield 9, 3) := by decide +kernel
theorem dJx4a65c_grow_92f84_59 : decode cJx4a65c_grow_92f84 59 = .ok (.areturn, 1) := by decide +kernel
theorem dJx4a65c_grow_d5877_0 : decode cJx4a65c_grow_d5877 0 = .ok (.aload_n 0, 1) := by decide +kernel
theorem dJx4a65c_grow_d5877_1 : decode cJx4a65c_grow_d5877 1 = .ok (.aload_n 0, 1) := by decide +kernel
theorem dJx4a65c_grow_d5877_2 : decode cJx4a65c_grow_d5877 2 = .ok (.getfield 48, 3) := by decide +kernel
theorem dJx4a65c_grow_d5877_5 : decode cJx4a65c_grow_d5877 5 = .ok (.iconst 1, 1) := by decide +kernel
theorem dJx4a65c_grow_d5877_6 : decode cJx4a65c_grow_d5877 6 = .ok (.iadd, 1) := by decide +kernel
theorem dJx4a65c_grow_d5877_7 : decode cJx4a65c_grow_d5877 7 = .ok (.invokevirtual 69, 3) := by decide +kernel
theorem dJx4a65c_grow_d5877_10 : decode cJx4a65c_grow_d5877 10 = .ok (.areturn, 1) := by decide +kernel
theorem dJx4a65c_size_8abf5_0 : decode cJx4a65c_size_8abf5 0 = .ok (.aload_n 0, 1) := by decide +kernel
theorem dJx4a65c_size_8abf5_1 : decode cJx4a65c_size_8abf5 1 = .ok (.getfield 48, 3) := by decide +kernel
theorem dJx4a65c_size_8abf5_4 : decode cJx4a65c_size_8abf5 4 = .ok (.ireturn, 1) := by decide +kernel
theorem dJx4a65c_elementData_915e3_0 : decode cJx4a65c_elementData_915e3 0 = .ok (.aload_n 0, 1) := by decide +kernel
theorem dJx4a65c_elementData_915e3_1 : decode cJx4a65c_elementData_915e3 1 = .ok (.getfield 9, 3) := by decide +kernel
theorem dJx4a65c_elementData_915e3_4 : decode cJx4a65c_elementData_915e3 4 = .ok (.iload_n 1, 1) := by decide +kernel
theorem dJx4a65c_elementData_915e3_5 : decode cJx4a65c_elementData_915e3 5 = .ok (.aaload, 1) := by decide +kernel
theorem dJx4a65c_elementData_915e3_6 : decode cJx4a65c_elementData_915e3 6 = .ok (.areturn, 1) := by decide +kernel
theorem dJx4a65c_get_915e3_0 : decode cJx4a65c_get_915e3 0 = .ok (.iload_n 1, 1) := by decide +kernel
theorem dJx4a65c_get_915e3_1 : decode cJx4a65c_get_915e3 1 = .ok (.aload_n 0, 1) := by decide +kernel
theorem dJx4a65c_get_915e3_2 : decode cJx4a65c_get_915e3 2 = .ok (.getfield 48, 3) := by decide +kernel
theorem dJx4a65c_get_915e3_5 : decode cJx4a65c_get_915e3 5 = .ok (.invokestatic 118, 3) := by decide +kernel
theorem dJx4a65c_get_915e3_8 : decode cJx4a65c_get_915e3 8 = .ok (.pop, 1) := by decide +kernel
theorem dJx4a65c_get_915e3_9 : decode cJx4a65c_get_915e3 9 = .ok (.aload_n 0, 1) := by decide +kernel
theorem dJx4a65c_get_915e3_10 : decode cJx4a65c_get_915e3 10 = .ok (.iload_n 1, 1) := by decide +kernel
theorem dJx4a65c_get_915e3_11 : decode cJx4a65c_get_915e3 11 = .ok (.invokevirtual 123, 3) := by decide +kernel
theorem dJx4a65c_get_915e3_14 : decode cJx4a65c_get_915e3 14 = .ok (.areturn, 1) := by decide +kernel
theorem dJx4a65c_add_72be8_0 : decode cJx4a65c_add_72be8 0 = .ok (.iload_n 3, 1) := by decide +kernel
theorem dJx4a65c_add_72be8_1 : decode cJx4a65c_add_72be8 1 = .ok (.aload_n 2, 1) := by decide +kernel
theorem dJx4a65c_add_72be8_2 : decode cJx4a65c_add_72be8 2 = .ok (.arraylength, 1) := by decide +kernel
theorem dJx4a65c_add_72be8_3 : decode cJx4a65c_add_72be8 3 = .ok (.if_icmp .ne 8, 3) := by decide +kernel
theorem dJx4a65c_add_72be8_6 : decode cJx4a65c_add_72be8 6 = .ok (.aload_n 0, 1) := by decide +kernel
theorem dJx4a65c_add_72be8_7 : decode cJx4a65c_add_72be8 7 = .ok (.invokevirtual 129, 3) := by decide +kernel
theorem dJx4a65c_add_72be8_10 : decode cJx4a65c_add_72be8 10 = .ok (.astore_n 2, 1) := by decide +kernel
theorem dJx4a65c_add_72be8_11 : decode cJx4a65c_add_72be8 11 = .ok (.aload_n 2, 1) := by decide +kernel
theorem dJx4a65c_add_72be8_12 : decode cJx4a65c_add_72be8 12 = .ok (.iload_n 3, 1) := by decide +kernel
theorem dJx4a65c_add_72be8_13 : decode cJx4a65c_add_72be8 13 = .ok (.aload_n 1, 1) := by decide +kernel
theorem dJx4a65c_add_72be8_14 : decode cJx4a65c_add_72be8 14 = .ok (.aastore, 1) := by decide +kernel
theorem dJx4a65c_add_72be8_15 : decode cJx4a65c_add_72be8 15 = .ok (.aload_n 0, 1) := by decide +kernel
theorem dJx4a65c_add_72be8_16 : decode cJx4a65c_add_72be8 16 = .ok (.iload_n 3, 1) := by decide +kernel
theorem dJx4a65c_add_72be8_17 : decode cJx4a65c_add_72be8 17 = .ok (.iconst 1, 1) := by decide +kernel
theorem dJx4a65c_add_72be8_18 : decode cJx4a65c_add_72be8 18 = .ok (.iadd, 1) := by decide +kernel
theorem dJx4a65c_add_72be8_19 : decode cJx4a65c_add_72be8 19 = .ok (.putfield 48, 3) := by decide +kernel
theorem dJx4a65c_add_72be8_22 : decode cJx4a65c_add_72be8 22 = .ok (.return_, 1) := by decide +kernel
theorem dJx4a65c_add_9ea2d_0 : decode cJx4a65c_add_9ea2d 0 = .ok (.aload_n 0, 1) := by decide +kernel
theorem dJx4a65c_add_9ea2d_1 : decode cJx4a65c_add_9ea2d 1 = .ok (.dup, 1) := by decide +kernel
theorem dJx4a65c_add_9ea2d_2 : decode cJx4a65c_add_9ea2d 2 = .ok (.getfield 63, 3) := by decide +kernel
theorem dJx4a65c_add_9ea2d_5 : decode cJx4a65c_add_9ea2d 5 = .ok (.iconst 1, 1) := by decide +kernel
theorem dJx4a65c_add_9ea2d_6 : decode cJx4a65c_add_9ea2d 6 = .ok (.iadd, 1) := by decide +kernel
theorem dJx4a65c_add_9ea2d_7 : decode cJx4a65c_add_9ea2d 7 = .ok (.putfield 63, 3) := by decide +kernel
theorem dJx4a65c_add_9ea2d_10 : decode cJx4a65c_add_9ea2d 10 = .ok (.aload_n 0, 1) := by decide +kernel
theorem dJx4a65c_add_9ea2d_11 : decode cJx4a65c_add_9ea2d 11 = .ok (.aload_n 1, 1) := by decide +kernel
theorem dJx4a65c_add_9ea2d_12 : decode cJx4a65c_add_9ea2d 12 = .ok (.aload_n 0, 1) := by decide +kernel
theorem dJx4a65c_add_9ea2d_13 : decode cJx4a65c_add_9ea2d 13 = .ok (.getfield 9, 3) := by decide +kernel
theorem dJx4a65c_add_9ea2d_16 : decode cJx4a65c_add_9ea2d 16 = .ok (.aload_n 0, 1) := by decide +kernel
theorem dJx4a65c_add_9ea2d_17 : decode cJx4a65c_add_9ea2d 17 = .ok (.getfield 48, 3) := by decide +kernel
theorem dJx4a65c_add_9ea2d_20 : decode cJx4a65c_add_9ea2d 20 = .ok (.invokevirtual 131, 3) := by decide +kernel
theorem dJx4a65c_add_9ea2d_23 : decode cJx4a65c_add_9ea2d 23 = .ok (.iconst 1, 1) := by decide +kernel
theorem dJx4a65c_add_9ea2d_24 : decode cJx4a65c_add_9ea2d 24 = .ok (.ireturn, 1) := by decide +kernel
theorem dJx4a65c_clear_da8c8_0 : decode cJx4a65c_clear_da8c8 0 = .ok (.aload_n 0, 1) := by decide +kernel
theorem dJx4a65c_clear_da8c8_1 : decode cJx4a65c_clear_da8c8 1 = .ok (.dup, 1) := by decide +kernel
theorem dJx4a65c_clear_da8c8_2 : decode cJx4a65c_clear_da8c8 2 = .ok (.getfield 63, 3) := by decide +kernel
theorem dJx4a65c_clear_da8c8_5 : decode cJx4a65c_clear_da8c8 5 = .ok (.iconst 1, 1) := by decide +kernel
theorem dJx4a65c_clear_da8c8_6 : decode cJx4a65c_clear_da8c8 6 = .ok (.iadd, 1) := by decide +kernel
theorem dJx4a65c_clear_da8c8_7 : decode cJx4a65c_clear_da8c8 7 = .ok (.putfield 63, 3) := by decide +kernel
theorem dJx4a65c_clear_da8c8_10 : decode cJx4a65c_clear_da8c8 10 = .ok (.aload_n 0, 1) := by decide +kernel
theorem dJx4a65c_clear_da8c8_11 : decode cJx4a65c_clear_da8c8 11 = .ok (.getfield 9, 3) := by decide +kernel
theorem dJx4a65c_clear_da8c8_14 : decode cJx4a65c_clear_da8c8 14 = .ok (.astore_n 1, 1) := by decide +kernel
theorem dJx4a65c_clear_da8c8_15 : decode cJx4a65c_clear_da8c8 15 = .ok (.aload_n 0, 1) := by decide +kernel
theorem dJx4a65c_clear_da8c8_16 : decode cJx4a65c_clear_da8c8 16 = .ok (.getfield 48, 3) := by decide +kernel
theorem dJx4a65c_clear_da8c8_19 : decode cJx4a65c_clear_da8c8 19 = .ok (.istore_n 2, 1) := by decide +kernel
theorem dJx4a65c_clear_da8c8_20 : decode cJx4a65c_clear_da8c8 20 = .ok (.aload_n 0, 1) := by decide +kernel
theorem dJx4a65c_clear_da8c8_21 : decode cJx4a65c_clear_da8c8 21 = .ok (.iconst 0, 1) := by decide +kernel
theorem dJx4a65c_clear_da8c8_22 : decode cJx4a65c_clear_da8c8 22 = .ok (.dup_x1, 1) := by decide +kernel
theorem dJx4a65c_clear_da8c8_23 : decode cJx4a65c_clear_da8c8 23 = .ok (.putfield 48, 3) := by decide +kernel
theorem dJx4a65c_clear_da8c8_26 : decode cJx4a65c_clear_da8c8 26 = .ok (.istore_n 3, 1) := by decide +kernel
theorem dJx4a65c_clear_da8c8_27 : decode cJx4a65c_clear_da8c8 27 = .ok (.iload_n 3, 1) := by decide +kernel
theorem dJx4a65c_clear_da8c8_28 : decode cJx4a65c_clear_da8c8 28 = .ok (.iload_n 2, 1) := by decide +kernel
theorem dJx4a65c_clear_da8c8_29 : decode cJx4a65c_clear_da8c8 29 = .ok (.if_icmp .ge 13, 3) := by decide +kernel
theorem dJx4a65c_clear_da8c8_32 : decode cJx4a65c_clear_da8c8 32 = .ok (.aload_n 1, 1) := by decide +kernel
theorem dJx4a65c_clear_da8c8_33 : decode cJx4a65c_clear_da8c8 33 = .ok (.iload_n 3, 1) := by decide +kernel
theorem dJx4a65c_clear_da8c8_34 : decode cJx4a65c_clear_da8c8 34 = .ok (.aconst_null, 1) := by decide +kernel
theorem dJx4a65c_clear_da8c8_35 : decode cJx4a65c_clear_da8c8 35 = .ok (.aastore, 1) := by decide +kernel
theorem dJx4a65c_clear_da8c8_36 : decode cJx4a65c_clear_da8c8 36 = .ok (.iinc 3 1, 3) := by decide +kernel
theorem dJx4a65c_clear_da8c8_39 : decode cJx4a65c_clear_da8c8 39 = .ok (.goto (-12), 3) := by decide +kernel
theorem dJx4a65c_clear_da8c8_42 : decode cJx4a65c_clear_da8c8 42 = .ok (.return_, 1) := by decide +kernel
theorem dJ7_copyOf_1904c_0 : decode cJ7_copyOf_1904c 0 = .ok (.aload_n 0, 1) := by decide +kernel
theorem dJ7_copyOf_1904c_1 : decode cJ7_copyOf_1904c 1 = .ok (.iload_n 1, 1) := by decide +kernel
theorem dJ7_copyOf_1904c_2 : decode cJ7_copyOf_1904c 2 = .ok (.aload_n 0, 1) := by decide +kernel
theorem dJ7_copyOf_1904c_3 : decode cJ7_copyOf_1904c 3 = .ok (.invokevirtual 86, 3) := by decide +kernel
theorem dJ7_copyOf_1904c_6 : decode cJ7_copyOf_1904c 6 = .ok (.invokestatic 300, 3) := by decide +kernel
theorem dJ7_copyOf_1904c_9 : decode cJ7_copyOf_1904c 9 = .ok (.areturn, 1) := by decide +kernel
theorem dJ7_copyOf_6403c_0 : decode cJ7_copyOf_6403c 0 = .ok (.aload_n 2, 1) := by decide +kernel
theorem dJ7_copyOf_6403c_1 : decode cJ7_copyOf_6403c 1 = .ok (.ldc 110, 2) := by decide +kernel
theorem dJ7_copyOf_6403c_3 : decode cJ7_copyOf_6403c 3 = .ok (.if_acmp .ne 10, 3) := by decide +kernel
theorem dJ7_copyOf_6403c_6 : decode cJ7_copyOf_6403c 6 = .ok (.iload_n 1, 1) := by decide +kernel
theorem dJ7_copyOf_6403c_7 : decode cJ7_copyOf_6403c 7 = .ok (.anewarray 2, 3) := by decide +kernel
theorem dJ7_copyOf_6403c_10 : decode cJ7_copyOf_6403c 10 = .ok (.goto 14, 3) := by decide +kernel
theorem dJ7_copyOf_6403c_13 : decode cJ7_copyOf_6403c 13 = .ok (.aload_n 2, 1) := by decide +kernel
theorem dJ7_copyOf_6403c_14 : decode cJ7_copyOf_6403c 14 = .ok (.invokevirtual 90, 3) := by decide +kernel
theorem dJ7_copyOf_6403c_17 : decode cJ7_copyOf_6403c 17 = .ok (.iload_n 1, 1) := by decide +kernel
theorem dJ7_copyOf_6403c_18 : decode cJ7_copyOf_6403c 18 = .ok (.invokestatic 95, 3) := by decide +kernel
theorem dJ7_copyOf_6403c_21 : decode cJ7_copyOf_6403c 21 = .ok (.checkcast 110, 3) := by decide +kernel
theorem dJ7_copyOf_6403c_24 : decode cJ7_copyOf_6403c 24 = .ok (.astore_n 3, 1) := by decide +kernel
theorem dJ7_copyOf_6403c_25 : decode cJ7_copyOf_6403c 25 = .ok (.aload_n 0, 1) := by decide +kernel
theorem dJ7_copyOf_6403c_26 : decode cJ7_copyOf_6403c 26 = .ok (.iconst 0, 1) := by decide +kernel
theorem dJ7_copyOf_6403c_27 : decode cJ7_copyOf_6403c 27 = .ok (.aload_n 3, 1) := by decide +kernel
theorem dJ7_copyOf_6403c_28 : decode cJ7_copyOf_6403c 28 = .ok (.iconst 0, 1) := by decide +kernel
theorem dJ7_copyOf_6403c_29 : decode cJ7_copyOf_6403c 29 = .ok (.aload_n 0, 1) := by decide +kernel
theorem dJ7_copyOf_6403c_30 : decode cJ7_copyOf_6403c 30 = .ok (.arraylength, 1) := by decide +kernel
theorem dJ7_copyOf_6403c_31 : decode cJ7_copyOf_6403c 31 = .ok (.iload_n 1, 1) := by decide +kernel
theorem dJ7_copyOf_6403c_32 : decode cJ7_copyOf_6403c 32 = .ok (.invokestatic 304, 3) := by decide +kernel
theorem dJ7_copyOf_6403c_35 : decode cJ7_copyOf_6403c 35 = .ok (.invokestatic 150, 3) := by decide +kernel
theorem dJ7_copyOf_6403c_38 : decode cJ7_copyOf_6403c 38 = .ok (.aload_n 3, 1) := by decide +kernel
theorem dJ7_copyOf_6403c_39 : decode cJ7_copyOf_6403c 39 = .ok (.areturn, 1) := by decide +kernel
theorem dJ15_checkIndex_7cf53_0 : decode cJ15_checkIndex_7cf53 0 = .ok (.iload_n 0, 1) := by decide +kernel
theorem dJ15_checkIndex_7cf53_1 : decode cJ15_checkIndex_7cf53 1 = .ok (.iload_n 1, 1) := by decide +kernel
theorem dJ15_checkIndex_7cf53_2 : decode cJ15_checkIndex_7cf53 2 = .ok (.aconst_null, 1) := by decide +kernel
theorem dJ15_checkIndex_7cf53_3 : decode cJ15_checkIndex_7cf53 3 = .ok (.invokestatic 105, 3) := by decide +kernel
theorem dJ15_checkIndex_7cf53_6 : decode cJ15_checkIndex_7cf53 6 = .ok (.ireturn, 1) := by decide +kernel
theorem dJ8_newLength_cabcc_0 : decode cJ8_newLength_cabcc 0 = .ok (.iload_n 0, 1) := by decide +kernel
theorem dJ8_newLength_cabcc_1 : decode cJ8_newLength_cabcc 1 = .ok (.iload_n 1, 1) := by decide +kernel
theorem dJ8_newLength_cabcc_2 : decode cJ8_newLength_cabcc 2 = .ok (.iload_n 2, 1) := by decide +kernel
theorem dJ8_newLength_cabcc_3 : decode cJ8_newLength_cabcc 3 = .ok (.invokestatic 194, 3) := by decide +kernel
theorem dJ8_newLength_cabcc_6 : decode cJ8_newLength_cabcc 6 = .ok (.iadd, 1) := by decide +kernel
theorem dJ8_newLength_cabcc_7 : decode cJ8_newLength_cabcc 7 = .ok (.istore_n 3, 1) := by decide +kernel
theorem dJ8_newLength_cabcc_8 : decode cJ8_newLength_cabcc 8 = .ok (.iconst 0, 1) := by decide +kernel
theorem dJ8_newLength_cabcc_9 : decode cJ8_newLength_cabcc 9 = .ok (.iload_n 3, 1) := by decide +kernel
theorem dJ8_newLength_cabcc_10 : decode cJ8_newLength_cabcc 10 = .ok (.if_icmp .ge 11, 3) := by decide +kernel
theorem dJ8_newLength_cabcc_13 : decode cJ8_newLength_cabcc 13 = .ok (.iload_n 3, 1) := by decide +kernel
theorem dJ8_newLength_cabcc_14 : decode cJ8_newLength_cabcc 14 = .ok (.ldc 200, 2) := by decide +kernel
theorem dJ8_newLength_cabcc_16 : decode cJ8_newLength_cabcc 16 = .ok (.if_icmp .gt 5, 3) := by decide +kernel
theorem dJ8_newLength_cabcc_19 : decode cJ8_newLength_cabcc 19 = .ok (.iload_n 3, 1) := by decide +kernel
theorem dJ8_newLength_cabcc_20 : decode cJ8_newLength_cabcc 20 = .ok (.ireturn, 1) := by decide +kernel
theorem dJ8_newLength_cabcc_21 : decode cJ8_newLength_cabcc 21 = .ok (.iload_n 0, 1) := by decide +kernel
theorem dJ8_newLength_cabcc_22 : decode cJ8_newLength_cabcc 22 = .ok (.iload_n 1, 1) := by decide +kernel
theorem dJ8_newLength_cabcc_23 : decode cJ8_newLength_cabcc 23 = .ok (.invokestatic 201, 3) := by decide +kernel
theorem dJ8_newLength_cabcc_26 : decode cJ8_newLength_cabcc 26 = .ok (.ireturn, 1) := by decide +kernel
theorem dJ3_checkIndex_8e157_0 : decode cJ3_checkIndex_8e157 0 = .ok (.iload_n 0, 1) := by decide +kernel
theorem dJ3_checkIndex_8e157_1 : decode cJ3_checkIndex_8e157 1 = .ok (.ifCond .lt 8, 3) := by decide +kernel
theorem dJ3_checkIndex_8e157_4 : decode cJ3_checkIndex_8e157 4 = .ok (.iload_n 0, 1) := by decide +kernel
theorem dJ3_checkIndex_8e157_5 : decode cJ3_checkIndex_8e157 5 = .ok (.iload_n 1, 1) := by decide +kernel
theorem dJ3_checkIndex_8e157_6 : decode cJ3_checkIndex_8e157 6 = .ok (.if_icmp .lt 10, 3) := by decide +kernel
theorem dJ3_checkIndex_8e157_9 : decode cJ3_checkIndex_8e157 9 = .ok (.aload_n 2, 1) := by decide +kernel
theorem dJ3_checkIndex_8e157_10 : decode cJ3_checkIndex_8e157 10 = .ok (.iload_n 0, 1) := by decide +kernel
theorem dJ3_checkIndex_8e157_11 : decode cJ3_checkIndex_8e157 11 = .ok (.iload_n 1, 1) := by decide +kernel
theorem dJ3_checkIndex_8e157_12 : decode cJ3_checkIndex_8e157 12 = .ok (.invokestatic 95, 3) := by decide +kernel
theorem dJ3_checkIndex_8e157_15 : decode cJ3_checkIndex_8e157 15 = .ok (.athrow, 1) := by decide +kernel
theorem dJ3_checkIndex_8e157_16 : decode cJ3_checkIndex_8e157 16 = .ok (.iload_n 0, 1) := by decide +kernel
theorem dJ3_checkIndex_8e157_17 : decode cJ3_checkIndex_8e157 17 = .ok (.ireturn, 1) := by decide +kernel
theorem dL_types_0 : decode cL_types 0 = .ok (.aload_n 0, 1) := by decide +kernel
theorem dL_types_1 : decode cL_types 1 = .ok (.iload_n 1, 1) := by decide +kernel
theorem dL_types_2 : decode cL_types 2 = .ok (.invokevirtual 7, 3) := by decide +kernel
theorem dL_types_5 : decode cL_types 5 = .ok (.ireturn, 1) := by decide +kernel
theorem dL_types_6 : decode cL_types 6 = .ok (.astore_n 2, 1) := by decide +kernel
theorem dL_types_7 : decode cL_types 7 = .ok (.ldc 15, 2) := by decide +kernel
theorem dL_types_9 : decode cL_types 9 = .ok (.ireturn, 1) := by decide +kernel
theorem dL_types_10 : decode cL_types 10 = .ok (.astore_n 2, 1) := by decide +kernel
theorem dL_types_11 : decode cL_types 11 = .ok (.ldc 18, 2) := by decide +kernel
theorem dL_types_13 : decode cL_types 13 = .ok (.ireturn, 1) := by decide +kernel
theorem dL_backs_0 : decode cL_backs 0 = .ok (.aload_n 0, 1) := by decide +kernel
theorem dL_backs_1 : decode cL_backs 1 = .ok (.invokevirtual 19, 3) := by decide +kernel
theorem dL_backs_4 : decode cL_backs 4 = .ok (.ireturn, 1) := by decide +kernel
theorem dL_backs_5 : decode cL_backs 5 = .ok (.astore_n 1, 1) := by decide +kernel
theorem dL_backs_6 : decode cL_backs 6 = .ok (.ldc 18, 2) := by decide +kernel
theorem dL_backs_8 : decode cL_backs 8 = .ok (.ireturn, 1) := by decide +kernel
theorem dL_makes_0 : decode cL_makes 0 = .ok (.aload_n 0, 1) := by decide +kernel
theorem dL_makes_1 : decode cL_makes 1 = .ok (.invokevirtual 23, 3) := by decide +kernel
theorem dL_makes_4 : decode cL_makes 4 = .ok (.ireturn, 1) := by decide +kernel
theorem dL_makes_5 : decode cL_makes 5 = .ok (.astore_n 1, 1) := by decide +kernel
theorem dL_makes_6 : decode cL_makes 6 = .ok (.ldc 18, 2) := by decide +kernel
theorem dL_makes_8 : decode cL_makes 8 = .ok (.ireturn, 1) := by decide +kernel
theorem dL_movesProject_0 : decode cL_movesProject 0 = .ok (.aload_n 0, 1) := by decide +kernel
theorem dL_movesProject_1 : decode cL_movesProject 1 = .ok (.iload_n 1, 1) := by decide +kernel
theorem dL_movesProject_2 : decode cL_movesProject 2 = .ok (.invokevirtual 26, 3) := by decide +kernel
theorem dL_movesProject_5 : decode cL_movesProject 5 = .ok (.ireturn, 1) := by decide +kernel
theorem dL_movesProject_6 : decode cL_movesProject 6 = .ok (.astore_n 2, 1) := by decide +kernel
theorem dL_movesProject_7 : decode cL_movesProject 7 = .ok (.ldc 32, 2) := by decide +kernel
theorem dL_movesProject_9 : decode cL_movesProject 9 = .ok (.ireturn, 1) := by decide +kernel
theorem dL_movesProject_10 : decode cL_movesProject 10 = .ok (.astore_n 2, 1) := by decide +kernel
theorem dL_movesProject_11 : decode cL_movesProject 11 = .ok (.ldc 18, 2) := by decide +kernel
theorem dL_movesProject_13 : decode cL_movesProject 13 = .ok (.ireturn, 1) := by decide +kernel
theorem dL_letter_0 : decode cL_letter 0 = .ok (.aload_n 0, 1) := by decide +kernel
theorem dL_letter_1 : decode cL_letter 1 = .ok (.iload_n 1, 1) := by decide +kernel
theorem dL_letter_2 : decode cL_letter 2 = .ok (.iload_n 2, 1) := by decide +kernel
theorem dL_letter_3 : decode cL_letter 3 = .ok (.invokevirtual 33, 3) := by decide +kernel
theorem dL_letter_6 : decode cL_letter 6 = .ok (.ireturn, 1) := by decide +kernel
theorem dL_letter_7 : decode cL_letter 7 = .ok (.astore_n 3, 1) := by decide +kernel
theorem dL_letter_8 : decode cL_letter 8 = .ok (.ldc 32, 2) := by decide +kernel
theorem dL_letter_10 : decode cL_letter 10 = .ok (.ireturn, 1) := by decide +kernel
theorem dL_makesFile_0 : decode cL_makesFile 0 = .ok (.aload_n 0, 1) := by decide +kernel
theorem dL_makesFile_1 : decode cL_makesFile 1 = .ok (.iload_n 1, 1) := by decide +kernel
theorem dL_makesFile_2 : decode cL_makesFile 2 = .ok (.iload_n 2, 1) := by decide +kernel
theorem dL_makesFile_3 : decode cL_makesFile 3 = .ok (.invokevirtual 37, 3) := by decide +kernel
theorem dL_makesFile_6 : decode cL_makesFile 6 = .ok (.ireturn, 1) := by decide +kernel
theorem dL_makesFile_7 : decode cL_makesFile 7 = .ok (.astore_n 3, 1) := by decide +kernel
theorem dL_makesFile_8 : decode cL_makesFile 8 = .ok (.ldc 32, 2) := by decide +kernel
theorem dL_makesFile_10 : decode cL_makesFile 10 = .ok (.ireturn, 1) := by decide +kernel
theorem dL_makesFile_11 : decode cL_makesFile 11 = .ok (.astore_n 3, 1) := by decide +kernel
theorem dL_makesFile_12 : decode cL_makesFile 12 = .ok (.ldc 18, 2) := by decide +kernel
theorem dL_makesFile_14 : decode cL_makesFile 14 = .ok (.ireturn, 1) := by decide +kernel
theorem dL_writes_0 : decode cL_writes 0 = .ok (.aload_n 0, 1) := by decide +kernel
theorem dL_writes_1 : decode cL_writes 1 = .ok (.iload_n 1, 1) := by decide +kernel
theorem dL_writes_2 : decode cL_writes 2 = .ok (.iload_n 2, 1) := by decide +kernel
theorem dL_writes_3 : decode cL_writes 3 = .ok (.invokevirtual 41, 3) := by decide +kernel
theorem dL_writes_6 : decode cL_writes 6 = .ok (.ireturn, 1) := by decide +kernel
theorem dL_writes_7 : decode cL_writes 7 = .ok (.astore_n 3, 1) := by decide +kernel
theorem dL_writes_8 : decode cL_writes 8 = .ok (.ldc 32, 2) := by decide +kernel
theorem dL_writes_10 : decode cL_writes 10 = .ok (.ireturn, 1) := by decide +kernel
theorem dL_writes_11 : decode cL_writes 11 = .ok (.astore_n 3, 1) := by decide +kernel
theorem dL_writes_12 : decode cL_writes 12 = .ok (.ldc 15, 2) := by decide +kernel
theorem dL_writes_14 : decode cL_writes 14 = .ok (.ireturn, 1) := by decide +kernel
theorem dL_deletes_0 : decode cL_deletes 0 = .ok (.aload_n 0, 1) := by decide +kernel
theorem dL_deletes_1 : decode cL_deletes 1 = .ok (.iload_n 1, 1) := by decide +kernel
theorem dL_deletes_2 : decode cL_deletes 2 = .ok (.invokevirtual 44, 3) := by decide +kernel
theorem dL_deletes_5 : decode cL_deletes 5 = .ok (.ireturn, 1) := by decide +kernel
theorem dL_deletes_6 : decode cL_deletes 6 = .ok (.astore_n 2, 1) := by decide +kernel
theorem dL_deletes_7 : decode cL_deletes 7 = .ok (.ldc 32, 2) := by decide +kernel
theorem dL_deletes_9 : decode cL_deletes 9 = .ok (.ireturn, 1) := by decide +kernel
theorem dL_movesFile_0 : decode cL_movesFile 0 = .ok (.aload_n 0, 1) := by decide +kernel
theorem dL_movesFile_1 : decode cL_movesFile 1 = .ok (.iload_n 1, 1) := by decide +kernel
theorem dL_movesFile_2 : decode cL_movesFile 2 = .ok (.iload_n 2, 1) := by decide +kernel
theorem dL_movesFile_3 : decode cL_movesFile 3 = .ok (.invokevirtual 47, 3) := by decide +kernel
theorem dL_movesFile_6 : decode cL_movesFile 6 = .ok (.ireturn, 1) := by decide +kernel
theorem dL_movesFile_7 : decode cL_movesFile 7 = .ok (.astore_n 3, 1) := by decide +kernel
theorem dL_movesFile_8 : decode cL_movesFile 8 = .ok (.ldc 32, 2) := by decide +kernel
theorem dL_movesFile_10 : decode cL_movesFile 10 = .ok (.ireturn, 1) := by decide +kernel
theorem dL_reserves_0 : decode cL_reserves 0 = .ok (.aload_n 0, 1) := by decide +kernel
theorem dL_reserves_1 : decode cL_reserves 1 = .ok (.iload_n 1, 1) := by decide +kernel
theorem dL_reserves_2 : decode cL_reserves 2 = .ok (.iload_n 2, 1) := by decide +kernel
theorem dL_reserves_3 : decode cL_reserves 3 = .ok (.invokevirtual 50, 3) := by decide +kernel
theorem dL_reserves_6 : decode cL_reserves 6 = .ok (.ireturn, 1) := by decide +kernel
theorem dL_reserves_7 : decode cL_reserves 7 = .ok (.astore_n 3, 1) := by decide +kernel
theorem dL_reserves_8 : decode cL_reserves 8 = .ok (.ldc 32, 2) := by decide +kernel
theorem dL_reserves_10 : decode cL_reserves 10 = .ok (.ireturn, 1) := by decide +kernel
theorem dL_reserves_11 : decode cL_reserves 11 = .ok (.astore_n 3, 1) := by decide +kernel
theorem dL_reserves_12 : decode cL_reserves 12 = .ok (.ldc 15, 2) := by decide +kernel
theorem dL_reserves_14 : decode cL_reserves 14 = .ok (.ireturn, 1) := by decide +kernel
theorem dL_reserves_15 : decode cL_reserves 15 = .ok (.astore_n 3, 1) := by decide +kernel
theorem dL_reserves_16 : decode cL_reserves 16 = .ok (.ldc 18, 2) := by decide +kernel
theorem dL_reserves_18 : decode cL_reserves 18 = .ok (.ireturn, 1) := by decide +kernel
theorem dL_settles_0 : decode cL_settles 0 = .ok (.aload_n 0, 1) := by decide +kernel
theorem dL_settles_1 : decode cL_settles 1 = .ok (.iload_n 1, 1) := by decide +kernel
theorem dL_settles_2 : decode cL_settles 2 = .ok (.iload_n 2, 1) := by decide +kernel
theorem dL_settles_3 : decode cL_settles 3 = .ok (.invokevirtual 53, 3) := by decide +kernel
theorem dL_settles_6 : decode cL_settles 6 = .ok (.ireturn, 1) := by decide +kernel
theorem dL_settles_7 : decode cL_settles 7 = .ok (.astore_n 3, 1) := by decide +kernel
theorem dL_settles_8 : decode cL_settles 8 = .ok (.ldc 32, 2) := by decide +kernel
theorem dL_settles_10 : decode cL_settles 10 = .ok (.ireturn, 1) := by decide +kernel
theorem dL_settles_11 : decode cL_settles 11 = .ok (.astore_n 3, 1) := by decide +kernel
theorem dL_settles_12 : decode cL_settles 12 = .ok (.ldc 15, 2) := by decide +kernel
theorem dL_settles_14 : decode cL_settles 14 = .ok (.ireturn, 1) := by decide +kernel
theorem dL_limits_0 : decode cL_limits 0 = .ok (.aload_n 0, 1) := by decide +kernel
theorem dL_limits_1 : decode cL_limits 1 = .ok (.iload_n 1, 1) := by decide +kernel
theorem dL_limits_2 : decode cL_limits 2 = .ok (.iload_n 2, 1) := by decide +kernel
theorem dL_limits_3 : decode cL_limits 3 = .ok (.iload_n 3, 1) := by decide +kernel
theorem dL_limits_4 : decode cL_limits 4 = .ok (.iload 4, 2) := by decide +kernel
theorem dL_limits_6 : decode cL_limits 6 = .ok (.iload 5, 2) := by decide +kernel
theorem dL_limits_8 : decode cL_limits 8 = .ok (.invokevirtual 56, 3) := by decide +kernel
theorem dL_limits_11 : decode cL_limits 11 = .ok (.goto 13, 3) := by decide +kernel
theorem dL_limits_14 : decode cL_limits 14 = .ok (.astore 6, 2) := by decide +kernel
theorem dL_limits_16 : decode cL_limits 16 = .ok (.ldc 32, 2) := by decide +kernel
theorem dL_limits_18 : decode cL_limits 18 = .ok (.ireturn, 1) := by decide +kernel
theorem dL_limits_19 : decode cL_limits 19 = .ok (.astore 6, 2) := by decide +kernel
theorem dL_limits_21 : decode cL_limits 21 = .ok (.ldc 15, 2) := by decide +kernel
theorem dL_limits_23 : decode cL_limits 23 = .ok (.ireturn, 1) := by decide +kernel
theorem dL_limits_24 : decode cL_limits 24 = .ok (.iconst 0, 1) := by decide +kernel
theorem dL_limits_25 : decode cL_limits 25 = .ok (.ireturn, 1) := by decide +kernel
theorem dL_passes_0 : decode cL_passes 0 = .ok (.aload_n 0, 1) := by decide +kernel
theorem dL_passes_1 : decode cL_passes 1 = .ok (.iload_n 1, 1) := by decide +kernel
theorem dL_passes_2 : decode cL_passes 2 = .ok (.invokevirtual 60, 3) := by decide +kernel
theorem dL_passes_5 : decode cL_passes 5 = .ok (.ireturn, 1) := by decide +kernel
theorem dL_passes_6 : decode cL_passes 6 = .ok (.astore_n 2, 1) := by decide +kernel
theorem dL_passes_7 : decode cL_passes 7 = .ok (.ldc 15, 2) := by decide +kernel
theorem dL_passes_9 : decode cL_passes 9 = .ok (.ireturn, 1) := by decide +kernel
theorem dL_passes_10 : decode cL_passes 10 = .ok (.astore_n 2, 1) := by decide +kernel
theorem dL_passes_11 : decode cL_passes 11 = .ok (.ldc 18, 2) := by decide +kernel
theorem dL_passes_13 : decode cL_passes 13 = .ok (.ireturn, 1) := by decide +kernel
theorem dL_used_0 : decode cL_used 0 = .ok (.aload_n 0, 1) := by decide +kernel
theorem dL_used_1 : decode cL_used 1 = .ok (.iload_n 1, 1) := by decide +kernel
theorem dL_used_2 : decode cL_used 2 = .ok (.iload_n 2, 1) := by decide +kernel
theorem dL_used_3 : decode cL_used 3 = .ok (.invokevirtual 63, 3) := by decide +kernel
theorem dL_used_6 : decode cL_used 6 = .ok (.ireturn, 1) := by decide +kernel
theorem dL_used_7 : decode cL_used 7 = .ok (.astore_n 3, 1) := by decide +kernel
theorem dL_used_8 : decode cL_used 8 = .ok (.ldc 32, 2) := by decide +kernel
theorem dL_used_10 : decode cL_used 10 = .ok (.ireturn, 1) := by decide +kernel
theorem dL_files_0 : decode cL_files 0 = .ok (.aload_n 0, 1) := by decide +kernel
theorem dL_files_1 : decode cL_files 1 = .ok (.iload_n 1, 1) := by decide +kernel
theorem dL_files_2 : decode cL_files 2 = .ok (.iload_n 2, 1) := by decide +kernel
theorem dL_files_3 : decode cL_files 3 = .ok (.invokevirtual 66, 3) := by decide +kernel
theorem dL_files_6 : decode cL_files 6 = .ok (.ireturn, 1) := by decide +kernel
theorem dL_files_7 : decode cL_files 7 = .ok (.astore_n 3, 1) := by decide +kernel
theorem dL_files_8 : decode cL_files 8 = .ok (.ldc 32, 2) := by decide +kernel
theorem dL_files_10 : decode cL_files 10 = .ok (.ireturn, 1) := by decide +kernel
theorem dL_usedAnew_0 : decode cL_usedAnew 0 = .ok (.aload_n 0, 1) := by decide +kernel
theorem dL_usedAnew_1 : decode cL_usedAnew 1 = .ok (.iload_n 1, 1) := by decide +kernel
theorem dL_usedAnew_2 : decode cL_usedAnew 2 = .ok (.iload_n 2, 1) := by decide +kernel
theorem dL_usedAnew_3 : decode cL_usedAnew 3 = .ok (.invokevirtual 69, 3) := by decide +kernel
theorem dL_usedAnew_6 : decode cL_usedAnew 6 = .ok (.ireturn, 1) := by decide +kernel
theorem dL_usedAnew_7 : decode cL_usedAnew 7 = .ok (.astore_n 3, 1) := by decide +kernel
theorem dL_usedAnew_8 : decode cL_usedAnew 8 = .ok (.ldc 32, 2) := by decide +kernel
theorem dL_usedAnew_10 : decode cL_usedAnew 10 = .ok (.ireturn, 1) := by decide +kernel
theorem dL_grace_0 : decode cL_grace 0 = .ok (.aload_n 0, 1) := by decide +kernel
theorem dL_grace_1 : decode cL_grace 1 = .ok (.iload_n 1, 1) := by decide +kernel
theorem dL_grace_2 : decode cL_grace 2 = .ok (.iload_n 2, 1) := by decide +kernel
theorem dL_grace_3 : decode cL_grace 3 = .ok (.invokevirtual 72, 3) := by decide +kernel
theorem dL_grace_6 : decode cL_grace 6 = .ok (.ireturn, 1) := by decide +kernel
theorem dL_grace_7 : decode cL_grace 7 = .ok (.astore_n 3, 1) := by decide +kernel
theorem dL_grace_8 : decode cL_grace 8 = .ok (.ldc 32, 2) := by decide +kernel
theorem dL_grace_10 : decode cL_grace 10 = .ok (.ireturn, 1) := by decide +kernel
theorem dL_room_0 : decode cL_room 0 = .ok (.aload_n 0, 1) := by decide +kernel
theorem dL_room_1 : decode cL_room 1 = .ok (.iload_n 1, 1) := by decide +kernel
theorem dL_room_2 : decode cL_room 2 = .ok (.invokevirtual 75, 3) := by decide +kernel
theorem dL_room_5 : decode cL_room 5 = .ok (.ireturn, 1) := by decide +kernel
theorem dL_room_6 : decode cL_room 6 = .ok (.astore_n 2, 1) := by decide +kernel
theorem dL_room_7 : decode cL_room 7 = .ok (.ldc 32, 2) := by decide +kernel
theorem dL_room_9 : decode cL_room 9 = .ok (.ireturn, 1) := by decide +kernel
theorem dL_recounts_0 : decode cL_recounts 0 = .ok (.aload_n 0, 1) := by decide +kernel
theorem dL_recounts_1 : decode cL_recounts 1 = .ok (.iload_n 1, 1) := by decide +kernel
theorem dL_recounts_2 : decode cL_recounts 2 = .ok (.invokevirtual 78, 3) := by decide +kernel
theorem dL_recounts_5 : decode cL_recounts 5 = .ok (.ireturn, 1) := by decide +kernel
theorem dL_recounts_6 : decode cL_recounts 6 = .ok (.astore_n 2, 1) := by decide +kernel
theorem dL_recounts_7 : decode cL_recounts 7 = .ok (.ldc 15, 2) := by decide +kernel
theorem dL_recounts_9 : decode cL_recounts 9 = .ok (.ireturn, 1) := by decide +kernel
theorem dL_recounts_10 : decode cL_recounts 10 = .ok (.astore_n 2, 1) := by decide +kernel
theorem dL_recounts_11 : decode cL_recounts 11 = .ok (.ldc 18, 2) := by decide +kernel
theorem dL_recounts_13 : decode cL_recounts 13 = .ok (.ireturn, 1) := by decide +kernel
theorem dL_counted_0 : decode cL_counted 0 = .ok (.aload_n 0, 1) := by decide +kernel
theorem dL_counted_1 : decode cL_counted 1 = .ok (.iload_n 1, 1) := by decide +kernel
theorem dL_counted_2 : decode cL_counted 2 = .ok (.iload_n 2, 1) := by decide +kernel
theorem dL_counted_3 : decode cL_counted 3 = .ok (.invokevirtual 81, 3) := by decide +kernel
theorem dL_counted_6 : decode cL_counted 6 = .ok (.ireturn, 1) := by decide +kernel
theorem dL_counted_7 : decode cL_counted 7 = .ok (.astore_n 3, 1) := by decide +kernel
theorem dL_counted_8 : decode cL_counted 8 = .ok (.ldc 32, 2) := by decide +kernel
theorem dL_counted_10 : decode cL_counted 10 = .ok (.ireturn, 1) := by decide +kernel
theorem dL_counted_11 : decode cL_counted 11 = .ok (.astore_n 3, 1) := by decide +kernel
theorem dL_counted_12 : decode cL_counted 12 = .ok (.ldc 18, 2) := by decide +kernel
theorem dL_counted_14 : decode cL_counted 14 = .ok (.ireturn, 1) := by decide +kernel
theorem dL_drawn_0 : decode cL_drawn 0 = .ok (.iload_n 1, 1) := by decide +kernel
theorem dL_drawn_1 : decode cL_drawn 1 = .ok (.aload_n 0, 1) := by decide +kernel
theorem dL_drawn_2 : decode cL_drawn 2 = .ok (.arraylength, 1) := by decide +kernel
theorem dL_drawn_3 : decode cL_drawn 3 = .ok (.if_icmp .ge 9, 3) := by decide +kernel
theorem dL_drawn_6 : decode cL_drawn 6 = .ok (.aload_n 0, 1) := by decide +kernel
theorem dL_drawn_7 : decode cL_drawn 7 = .ok (.iload_n 1, 1) := by decide +kernel
theorem dL_drawn_8 : decode cL_drawn 8 = .ok (.iaload, 1) := by decide +kernel
theorem dL_drawn_9 : decode cL_drawn 9 = .ok (.goto 13, 3) := by decide +kernel
theorem dL_drawn_12 : decode cL_drawn 12 = .ok (.ldc 84, 2) := by decide +kernel
theorem dL_drawn_14 : decode cL_drawn 14 = .ok (.iload_n 1, 1) := by decide +kernel
theorem dL_drawn_15 : decode cL_drawn 15 = .ok (.iconst 3, 1) := by decide +kernel
theorem dL_drawn_16 : decode cL_drawn 16 = .ok (.iadd, 1) := by decide +kernel
theorem dL_drawn_17 : decode cL_drawn 17 = .ok (.imul, 1) := by decide +kernel
theorem dL_drawn_18 : decode cL_drawn 18 = .ok (.sipush 13619, 3) := by decide +kernel
theorem dL_drawn_21 : decode cL_drawn 21 = .ok (.iadd, 1) := by decide +kernel
theorem dL_drawn_22 : decode cL_drawn 22 = .ok (.ldc 85, 2) := by decide +kernel
theorem dL_drawn_24 : decode cL_drawn 24 = .ok (.iand, 1) := by decide +kernel
theorem dL_drawn_25 : decode cL_drawn 25 = .ok (.ireturn, 1) := by decide +kernel
theorem dL_refuses_0 : decode cL_refuses 0 = .ok (.aload_n 0, 1) := by decide +kernel
theorem dL_refuses_1 : decode cL_refuses 1 = .ok (.invokevirtual 86, 3) := by decide +kernel
theorem dL_refuses_4 : decode cL_refuses 4 = .ok (.istore_n 3, 1) := by decide +kernel
theorem dL_refuses_5 : decode cL_refuses 5 = .ok (.iload_n 2, 1) := by decide +kernel
theorem dL_refuses_6 : decode cL_refuses 6 = .ok (.iconst 2, 1) := by decide +kernel
theorem dL_refuses_7 : decode cL_refuses 7 = .ok (.irem, 1) := by decide +kernel
theorem dL_refuses_8 : decode cL_refuses 8 = .ok (.ifCond .ne 12, 3) := by decide +kernel
theorem dL_refuses_11 : decode cL_refuses 11 = .ok (.iconst (-1), 1) := by decide +kernel
theorem dL_refuses_12 : decode cL_refuses 12 = .ok (.iload_n 2, 1) := by decide +kernel
theorem dL_refuses_13 : decode cL_refuses 13 = .ok (.bipush 60, 2) := by decide +kernel
theorem dL_refuses_15 : decode cL_refuses 15 = .ok (.irem, 1) := by decide +kernel
theorem dL_refuses_16 : decode cL_refuses 16 = .ok (.isub, 1) := by decide +kernel
theorem dL_refuses_17 : decode cL_refuses 17 = .ok (.goto 9, 3) := by decide +kernel
theorem dL_refuses_20 : decode cL_refuses 20 = .ok (.iload_n 3, 1) := by decide +kernel
theorem dL_refuses_21 : decode cL_refuses 21 = .ok (.iload_n 2, 1) := by decide +kernel
theorem dL_refuses_22 : decode cL_refuses 22 = .ok (.bipush 60, 2) := by decide +kernel
theorem dL_refuses_24 : decode cL_refuses 24 = .ok (.irem, 1) := by decide +kernel
theorem dL_refuses_25 : decode cL_refuses 25 = .ok (.iadd, 1) := by decide +kernel
theorem dL_refuses_26 : decode cL_refuses 26 = .ok (.istore 4, 2) := by decide +kernel
theorem dL_refuses_28 : decode cL_refuses 28 = .ok (.iload_n 2, 1) := by decide +kernel
theorem dL_refuses_29 : decode cL_refuses 29 = .ok (.iconst 2, 1) := by decide +kernel
theorem dL_refuses_30 : decode cL_refuses 30 = .ok (.irem, 1) := by decide +kernel
theorem dL_refuses_31 : decode cL_refuses 31 = .ok (.ifCond .ne 12, 3) := by decide +kernel
theorem dL_refuses_34 : decode cL_refuses 34 = .ok (.iconst (-1), 1) := by decide +kernel
theorem dL_refuses_35 : decode cL_refuses 35 = .ok (.iload_n 2, 1) := by decide +kernel
theorem dL_refuses_36 : decode cL_refuses 36 = .ok (.bipush 60, 2) := by decide +kernel
theorem dL_refuses_38 : decode cL_refuses 38 = .ok (.irem, 1) := by decide +kernel
theorem dL_refuses_39 : decode cL_refuses 39 = .ok (.isub, 1) := by decide +kernel
theorem dL_refuses_40 : decode cL_refuses 40 = .ok (.goto 10, 3) := by decide +kernel
theorem dL_refuses_43 : decode cL_refuses 43 = .ok (.bipush 6, 2) := by decide +kernel
theorem dL_refuses_45 : decode cL_refuses 45 = .ok (.iload_n 2, 1) := by decide +kernel
theorem dL_refuses_46 : decode cL_refuses 46 = .ok (.bipush 60, 2) := by decide +kernel
theorem dL_refuses_48 : decode cL_refuses 48 = .ok (.irem, 1) := by decide +kernel
theorem dL_refuses_49 : decode cL_refuses 49 = .ok (.iadd, 1) := by decide +kernel
theorem dL_refuses_50 : decode cL_refuses 50 = .ok (.istore 5, 2) := by decide +kernel
theorem dL_refuses_52 : decode cL_refuses 52 = .ok (.aload_n 0, 1) := by decide +kernel
theorem dL_refuses_53 : decode cL_refuses 53 = .ok (.bipush 123, 2) := by decide +kernel
theorem dL_refuses_55 : decode cL_refuses 55 = .ok (.iload_n 2, 1) := by decide +kernel
theorem dL_refuses_56 : decode cL_refuses 56 = .ok (.sipush 900, 3) := by decide +kernel
theorem dL_refuses_59 : decode cL_refuses 59 = .ok (.irem, 1) := by decide +kernel
theorem dL_refuses_60 : decode cL_refuses 60 = .ok (.iadd, 1) := by decide +kernel
theorem dL_refuses_61 : decode cL_refuses 61 = .ok (.i2c, 1) := by decide +kernel
theorem dL_refuses_62 : decode cL_refuses 62 = .ok (.invokestatic 89, 3) := by decide +kernel
theorem dL_refuses_65 : decode cL_refuses 65 = .ok (.ldc 15, 2) := by decide +kernel
theorem dL_refuses_67 : decode cL_refuses 67 = .ok (.if_icmp .ne 331, 3) := by decide +kernel
theorem dL_refuses_70 : decode cL_refuses 70 = .ok (.aload_n 0, 1) := by decide +kernel
theorem dL_refuses_71 : decode cL_refuses 71 = .ok (.iload_n 2, 1) := by decide +kernel
theorem dL_refuses_72 : decode cL_refuses 72 = .ok (.bipush 97, 2) := by decide +kernel
theorem dL_refuses_74 : decode cL_refuses 74 = .ok (.irem, 1) := by decide +kernel
theorem dL_refuses_75 : decode cL_refuses 75 = .ok (.i2c, 1) := by decide +kernel
theorem dL_refuses_76 : decode cL_refuses 76 = .ok (.invokestatic 89, 3) := by decide +kernel
theorem dL_refuses_79 : decode cL_refuses 79 = .ok (.ldc 15, 2) := by decide +kernel
theorem dL_refuses_81 : decode cL_refuses 81 = .ok (.if_icmp .ne 317, 3) := by decide +kernel
theorem dL_refuses_84 : decode cL_refuses 84 = .ok (.aload_n 0, 1) := by decide +kernel
theorem dL_refuses_85 : decode cL_refuses 85 = .ok (.iload 4, 2) := by decide +kernel
theorem dL_refuses_87 : decode cL_refuses 87 = .ok (.invokestatic 95, 3) := by decide +kernel
theorem dL_refuses_90 : decode cL_refuses 90 = .ok (.ldc 32, 2) := by decide +kernel
theorem dL_refuses_92 : decode cL_refuses 92 = .ok (.if_icmp .ne 306, 3) := by decide +kernel
theorem dL_refuses_95 : decode cL_refuses 95 = .ok (.aload_n 0, 1) := by decide +kernel
theorem dL_refuses_96 : decode cL_refuses 96 = .ok (.iconst 0, 1) := by decide +kernel
theorem dL_refuses_97 : decode cL_refuses 97 = .ok (.invokestatic 95, 3) := by decide +kernel
theorem dL_refuses_100 : decode cL_refuses 100 = .ok (.ldc 18, 2) := by decide +kernel
theorem dL_refuses_102 : decode cL_refuses 102 = .ok (.if_icmp .ne 296, 3) := by decide +kernel
theorem dL_refuses_105 : decode cL_refuses 105 = .ok (.aload_n 0, 1) := by decide +kernel
theorem dL_refuses_106 : decode cL_refuses 106 = .ok (.iload 4, 2) := by decide +kernel
theorem dL_refuses_108 : decode cL_refuses 108 = .ok (.iconst 0, 1) := by decide +kernel
theorem dL_refuses_109 : decode cL_refuses 109 = .ok (.invokestatic 99, 3) := by decide +kernel
theorem dL_refuses_112 : decode cL_refuses 112 = .ok (.ldc 32, 2) := by decide +kernel
theorem dL_refuses_114 : decode cL_refuses 114 = .ok (.if_icmp .ne 284, 3) := by decide +kernel
theorem dL_refuses_117 : decode cL_refuses 117 = .ok (.aload_n 0, 1) := by decide +kernel
theorem dL_refuses_118 : decode cL_refuses 118 = .ok (.iload_n 2, 1) := by decide +kernel
theorem dL_refuses_119 : decode cL_refuses 119 = .ok (.iload_n 3, 1) := by decide +kernel
theorem dL_refuses_120 : decode cL_refuses 120 = .ok (.irem, 1) := by decide +kernel
theorem dL_refuses_121 : decode cL_refuses 121 = .ok (.iconst (-1), 1) := by decide +kernel
theorem dL_refuses_122 : decode cL_refuses 122 = .ok (.iload_n 2, 1) := by decide +kernel
theorem dL_refuses_123 : decode cL_refuses 123 = .ok (.isub, 1) := by decide +kernel
theorem dL_refuses_124 : decode cL_refuses 124 = .ok (.invokestatic 99, 3) := by decide +kernel
theorem dL_refuses_127 : decode cL_refuses 127 = .ok (.ldc 32, 2) := by decide +kernel
theorem dL_refuses_129 : decode cL_refuses 129 = .ok (.if_icmp .ne 269, 3) := by decide +kernel
theorem dL_refuses_132 : decode cL_refuses 132 = .ok (.aload_n 0, 1) := by decide +kernel
theorem dL_refuses_133 : decode cL_refuses 133 = .ok (.iload_n 2, 1) := by decide +kernel
theorem dL_refuses_134 : decode cL_refuses 134 = .ok (.iload_n 3, 1) := by decide +kernel
theorem dL_refuses_135 : decode cL_refuses 135 = .ok (.irem, 1) := by decide +kernel
theorem dL_refuses_136 : decode cL_refuses 136 = .ok (.bipush 8, 2) := by decide +kernel
theorem dL_refuses_138 : decode cL_refuses 138 = .ok (.iload_n 2, 1) := by decide +kernel
theorem dL_refuses_139 : decode cL_refuses 139 = .ok (.iadd, 1) := by decide +kernel
theorem dL_refuses_140 : decode cL_refuses 140 = .ok (.invokestatic 99, 3) := by decide +kernel
theorem dL_refuses_143 : decode cL_refuses 143 = .ok (.bipush 32, 2) := by decide +kernel
theorem dL_refuses_145 : decode cL_refuses 145 = .ok (.if_icmp .ne 253, 3) := by decide +kernel
theorem dL_refuses_148 : decode cL_refuses 148 = .ok (.aload_n 0, 1) := by decide +kernel
theorem dL_refuses_149 : decode cL_refuses 149 = .ok (.iload 5, 2) := by decide +kernel
theorem dL_refuses_151 : decode cL_refuses 151 = .ok (.iconst 0, 1) := by decide +kernel
theorem dL_refuses_152 : decode cL_refuses 152 = .ok (.invokestatic 103, 3) := by decide +kernel
theorem dL_refuses_155 : decode cL_refuses 155 = .ok (.ldc 32, 2) := by decide +kernel
theorem dL_refuses_157 : decode cL_refuses 157 = .ok (.if_icmp .ne 241, 3) := by decide +kernel
theorem dL_refuses_160 : decode cL_refuses 160 = .ok (.aload_n 0, 1) := by decide +kernel
theorem dL_refuses_161 : decode cL_refuses 161 = .ok (.iconst 0, 1) := by decide +kernel
theorem dL_refuses_162 : decode cL_refuses 162 = .ok (.iload 4, 2) := by decide +kernel
theorem dL_refuses_164 : decode cL_refuses 164 = .ok (.invokestatic 103, 3) := by decide +kernel
theorem dL_refuses_167 : decode cL_refuses 167 = .ok (.ldc 32, 2) := by decide +kernel
theorem dL_refuses_169 : decode cL_refuses 169 = .ok (.if_icmp .ne 229, 3) := by decide +kernel
theorem dL_refuses_172 : decode cL_refuses 172 = .ok (.aload_n 0, 1) := by decide +kernel
theorem dL_refuses_173 : decode cL_refuses 173 = .ok (.bipush 40, 2) := by decide +kernel
theorem dL_refuses_175 : decode cL_refuses 175 = .ok (.iload_n 2, 1) := by decide +kernel
theorem dL_refuses_176 : decode cL_refuses 176 = .ok (.iadd, 1) := by decide +kernel
theorem dL_refuses_177 : decode cL_refuses 177 = .ok (.sipush 5000, 3) := by decide +kernel
theorem dL_refuses_180 : decode cL_refuses 180 = .ok (.invokestatic 106, 3) := by decide +kernel
theorem dL_refuses_183 : decode cL_refuses 183 = .ok (.ldc 32, 2) := by decide +kernel
theorem dL_refuses_185 : decode cL_refuses 185 = .ok (.if_icmp .ne 213, 3) := by decide +kernel
theorem dL_refuses_188 : decode cL_refuses 188 = .ok (.aload_n 0, 1) := by decide +kernel
theorem dL_refuses_189 : decode cL_refuses 189 = .ok (.iconst (-1), 1) := by decide +kernel
theorem dL_refuses_190 : decode cL_refuses 190 = .ok (.iload_n 2, 1) := by decide +kernel
theorem dL_refuses_191 : decode cL_refuses 191 = .ok (.isub, 1) := by decide +kernel
theorem dL_refuses_192 : decode cL_refuses 192 = .ok (.invokestatic 109, 3) := by decide +kernel
theorem dL_refuses_195 : decode cL_refuses 195 = .ok (.ldc 32, 2) := by decide +kernel
theorem dL_refuses_197 : decode cL_refuses 197 = .ok (.if_icmp .ne 201, 3) := by decide +kernel
theorem dL_refuses_200 : decode cL_refuses 200 = .ok (.aload_n 0, 1) := by decide +kernel
theorem dL_refuses_201 : decode cL_refuses 201 = .ok (.bipush 40, 2) := by decide +kernel
theorem dL_refuses_203 : decode cL_refuses 203 = .ok (.iconst 0, 1) := by decide +kernel
theorem dL_refuses_204 : decode cL_refuses 204 = .ok (.invokestatic 112, 3) := by decide +kernel
theorem dL_refuses_207 : decode cL_refuses 207 = .ok (.ldc 32, 2) := by decide +kernel
theorem dL_refuses_209 : decode cL_refuses 209 = .ok (.if_icmp .ne 189, 3) := by decide +kernel
theorem dL_refuses_212 : decode cL_refuses 212 = .ok (.aload_n 0, 1) := by decide +kernel
theorem dL_refuses_213 : decode cL_refuses 213 = .ok (.iconst (-1), 1) := by decide +kernel
theorem dL_refuses_214 : decode cL_refuses 214 = .ok (.iconst 0, 1) := by decide +kernel
theorem dL_refuses_215 : decode cL_refuses 215 = .ok (.invokestatic 115, 3) := by decide +kernel
theorem dL_refuses_218 : decode cL_refuses 218 = .ok (.ldc 32, 2) := by decide +kernel
theorem dL_refuses_220 : decode cL_refuses 220 = .ok (.if_icmp .ne 178, 3) := by decide +kernel
theorem dL_refuses_223 : decode cL_refuses 223 = .ok (.aload_n 0, 1) := by decide +kernel
theorem dL_refuses_224 : decode cL_refuses 224 = .ok (.bipush 30, 2) := by decide +kernel
theorem dL_refuses_226 : decode cL_refuses 226 = .ok (.iload_n 2, 1) := by decide +kernel
theorem dL_refuses_227 : decode cL_refuses 227 = .ok (.iadd, 1) := by decide +kernel
theorem dL_refuses_228 : decode cL_refuses 228 = .ok (.iconst 0, 1) := by decide +kernel
theorem dL_refuses_229 : decode cL_refuses 229 = .ok (.invokestatic 118, 3) := by decide +kernel
theorem dL_refuses_232 : decode cL_refuses 232 = .ok (.ldc 32, 2) := by decide +kernel
theorem dL_refuses_234 : decode cL_refuses 234 = .ok (.if_icmp .ne 164, 3) := by decide +kernel
theorem dL_refuses_237 : decode cL_refuses 237 = .ok (.aload_n 0, 1) := by decide +kernel
theorem dL_refuses_238 : decode cL_refuses 238 = .ok (.iconst (-1), 1) := by decide +kernel
theorem dL_refuses_239 : decode cL_refuses 239 = .ok (.iload_n 2, 1) := by decide +kernel
theorem dL_refuses_240 : decode cL_refuses 240 = .ok (.isub, 1) := by decide +kernel
theorem dL_refuses_241 : decode cL_refuses 241 = .ok (.iconst 0, 1) := by decide +kernel
theorem dL_refuses_242 : decode cL_refuses 242 = .ok (.invokestatic 118, 3) := by decide +kernel
theorem dL_refuses_245 : decode cL_refuses 245 = .ok (.ldc 32, 2) := by decide +kernel
theorem dL_refuses_247 : decode cL_refuses 247 = .ok (.if_icmp .ne 151, 3) := by decide +kernel
theorem dL_refuses_250 : decode cL_refuses 250 = .ok (.aload_n 0, 1) := by decide +kernel
theorem dL_refuses_251 : decode cL_refuses 251 = .ok (.iconst 3, 1) := by decide +kernel
theorem dL_refuses_252 : decode cL_refuses 252 = .ok (.iload_n 2, 1) := by decide +kernel
theorem dL_refuses_253 : decode cL_refuses 253 = .ok (.iadd, 1) := by decide +kernel
theorem dL_refuses_254 : decode cL_refuses 254 = .ok (.iconst 0, 1) := by decide +kernel
theorem dL_refuses_255 : decode cL_refuses 255 = .ok (.iconst 0, 1) := by decide +kernel
theorem dL_refuses_256 : decode cL_refuses 256 = .ok (.iconst 0, 1) := by decide +kernel
theorem dL_refuses_257 : decode cL_refuses 257 = .ok (.iconst 0, 1) := by decide +kernel
theorem dL_refuses_258 : decode cL_refuses 258 = .ok (.invokestatic 121, 3) := by decide +kernel
theorem dL_refuses_261 : decode cL_refuses 261 = .ok (.ldc 32, 2) := by decide +kernel
theorem dL_refuses_263 : decode cL_refuses 263 = .ok (.if_icmp .ne 135, 3) := by decide +kernel
theorem dL_refuses_266 : decode cL_refuses 266 = .ok (.aload_n 0, 1) := by decide +kernel
theorem dL_refuses_267 : decode cL_refuses 267 = .ok (.iconst 0, 1) := by decide +kernel
theorem dL_refuses_268 : decode cL_refuses 268 = .ok (.iload 5, 2) := by decide +kernel
theorem dL_refuses_270 : decode cL_refuses 270 = .ok (.bipush (-9), 2) := by decide +kernel
theorem dL_refuses_272 : decode cL_refuses 272 = .ok (.iconst 0, 1) := by decide +kernel
theorem dL_refuses_273 : decode cL_refuses 273 = .ok (.iconst 0, 1) := by decide +kernel
theorem dL_refuses_274 : decode cL_refuses 274 = .ok (.invokestatic 121, 3) := by decide +kernel
theorem dL_refuses_277 : decode cL_refuses 277 = .ok (.ldc 32, 2) := by decide +kernel
theorem dL_refuses_279 : decode cL_refuses 279 = .ok (.if_icmp .ne 119, 3) := by decide +kernel
theorem dL_refuses_282 : decode cL_refuses 282 = .ok (.aload_n 0, 1) := by decide +kernel
theorem dL_refuses_283 : decode cL_refuses 283 = .ok (.iconst 1, 1) := by decide +kernel
theorem dL_refuses_284 : decode cL_refuses 284 = .ok (.iconst 3, 1) := by decide +kernel
theorem dL_refuses_285 : decode cL_refuses 285 = .ok (.iload_n 2, 1) := by decide +kernel
theorem dL_refuses_286 : decode cL_refuses 286 = .ok (.iadd, 1) := by decide +kernel
theorem dL_refuses_287 : decode cL_refuses 287 = .ok (.iconst 0, 1) := by decide +kernel
theorem dL_refuses_288 : decode cL_refuses 288 = .ok (.iconst 0, 1) := by decide +kernel
theorem dL_refuses_289 : decode cL_refuses 289 = .ok (.iconst 0, 1) := by decide +kernel
theorem dL_refuses_290 : decode cL_refuses 290 = .ok (.invokestatic 121, 3) := by decide +kernel
theorem dL_refuses_293 : decode cL_refuses 293 = .ok (.ldc 32, 2) := by decide +kernel
theorem dL_refuses_295 : decode cL_refuses 295 = .ok (.if_icmp .ne 103, 3) := by decide +kernel
theorem dL_refuses_298 : decode cL_refuses 298 = .ok (.aload_n 0, 1) := by decide +kernel
theorem dL_refuses_299 : decode cL_refuses 299 = .ok (.iconst 2, 1) := by decide +kernel
theorem dL_refuses_300 : decode cL_refuses 300 = .ok (.iload 4, 2) := by decide +kernel
theorem dL_refuses_302 : decode cL_refuses 302 = .ok (.iconst 0, 1) := by decide +kernel
theorem dL_refuses_303 : decode cL_refuses 303 = .ok (.iconst 0, 1) := by decide +kernel
theorem dL_refuses_304 : decode cL_refuses 304 = .ok (.iconst 0, 1) := by decide +kernel
theorem dL_refuses_305 : decode cL_refuses 305 = .ok (.invokestatic 121, 3) := by decide +kernel
theorem dL_refuses_308 : decode cL_refuses 308 = .ok (.ldc 32, 2) := by decide +kernel
theorem dL_refuses_310 : decode cL_refuses 310 = .ok (.if_icmp .ne 88, 3) := by decide +kernel
theorem dL_refuses_313 : decode cL_refuses 313 = .ok (.aload_n 0, 1) := by decide +kernel
theorem dL_refuses_314 : decode cL_refuses 314 = .ok (.iload_n 2, 1) := by decide +kernel
theorem dL_refuses_315 : decode cL_refuses 315 = .ok (.iconst 3, 1) := by decide +kernel
theorem dL_refuses_316 : decode cL_refuses 316 = .ok (.irem, 1) := by decide +kernel
theorem dL_refuses_317 : decode cL_refuses 317 = .ok (.iconst 0, 1) := by decide +kernel
theorem dL_refuses_318 : decode cL_refuses 318 = .ok (.ldc 125, 2) := by decide +kernel
theorem dL_refuses_320 : decode cL_refuses 320 = .ok (.iload_n 2, 1) := by decide +kernel
theorem dL_refuses_321 : decode cL_refuses 321 = .ok (.iadd, 1) := by decide +kernel
theorem dL_refuses_322 : decode cL_refuses 322 = .ok (.iconst 0, 1) := by decide +kernel
theorem dL_refuses_323 : decode cL_refuses 323 = .ok (.iconst 0, 1) := by decide +kernel
theorem dL_refuses_324 : decode cL_refuses 324 = .ok (.invokestatic 121, 3) := by decide +kernel
theorem dL_refuses_327 : decode cL_refuses 327 = .ok (.ldc 15, 2) := by decide +kernel
theorem dL_refuses_329 : decode cL_refuses 329 = .ok (.if_icmp .ne 69, 3) := by decide +kernel
theorem dL_refuses_332 : decode cL_refuses 332 = .ok (.aload_n 0, 1) := by decide +kernel
theorem dL_refuses_333 : decode cL_refuses 333 = .ok (.iload_n 2, 1) := by decide +kernel
theorem dL_refuses_334 : decode cL_refuses 334 = .ok (.iconst 3, 1) := by decide +kernel
theorem dL_refuses_335 : decode cL_refuses 335 = .ok (.irem, 1) := by decide +kernel
theorem dL_refuses_336 : decode cL_refuses 336 = .ok (.iconst 0, 1) := by decide +kernel
theorem dL_refuses_337 : decode cL_refuses 337 = .ok (.iconst 0, 1) := by decide +kernel
theorem dL_refuses_338 : decode cL_refuses 338 = .ok (.bipush (-2), 2) := by decide +kernel
theorem dL_refuses_340 : decode cL_refuses 340 = .ok (.iload_n 2, 1) := by decide +kernel
theorem dL_refuses_341 : decode cL_refuses 341 = .ok (.isub, 1) := by decide +kernel
theorem dL_refuses_342 : decode cL_refuses 342 = .ok (.iconst 0, 1) := by decide +kernel
theorem dL_refuses_343 : decode cL_refuses 343 = .ok (.invokestatic 121, 3) := by decide +kernel
theorem dL_refuses_346 : decode cL_refuses 346 = .ok (.ldc 15, 2) := by decide +kernel
theorem dL_refuses_348 : decode cL_refuses 348 = .ok (.if_icmp .ne 50, 3) := by decide +kernel
theorem dL_refuses_351 : decode cL_refuses 351 = .ok (.aload_n 0, 1) := by decide +kernel
theorem dL_refuses_352 : decode cL_refuses 352 = .ok (.iload_n 2, 1) := by decide +kernel
theorem dL_refuses_353 : decode cL_refuses 353 = .ok (.iconst 3, 1) := by decide +kernel
theorem dL_refuses_354 : decode cL_refuses 354 = .ok (.irem, 1) := by decide +kernel
theorem dL_refuses_355 : decode cL_refuses 355 = .ok (.iconst 0, 1) := by decide +kernel
theorem dL_refuses_356 : decode cL_refuses 356 = .ok (.iconst 0, 1) := by decide +kernel
theorem dL_refuses_357 : decode cL_refuses 357 = .ok (.iconst 0, 1) := by decide +kernel
theorem dL_refuses_358 : decode cL_refuses 358 = .ok (.bipush 101, 2) := by decide +kernel
theorem dL_refuses_360 : decode cL_refuses 360 = .ok (.iload_n 2, 1) := by decide +kernel
theorem dL_refuses_361 : decode cL_refuses 361 = .ok (.iadd, 1) := by decide +kernel
theorem dL_refuses_362 : decode cL_refuses 362 = .ok (.invokestatic 121, 3) := by decide +kernel
theorem dL_refuses_365 : decode cL_refuses 365 = .ok (.ldc 15, 2) := by decide +kernel
theorem dL_refuses_367 : decode cL_refuses 367 = .ok (.if_icmp .ne 31, 3) := by decide +kernel
theorem dL_refuses_370 : decode cL_refuses 370 = .ok (.aload_n 0, 1) := by decide +kernel
theorem dL_refuses_371 : decode cL_refuses 371 = .ok (.iconst 0, 1) := by decide +kernel
theorem dL_refuses_372 : decode cL_refuses 372 = .ok (.invokestatic 126, 3) := by decide +kernel
theorem dL_refuses_375 : decode cL_refuses 375 = .ok (.ldc 15, 2) := by decide +kernel
theorem dL_refuses_377 : decode cL_refuses 377 = .ok (.if_icmp .ne 21, 3) := by decide +kernel
theorem dL_refuses_380 : decode cL_refuses 380 = .ok (.aload_n 0, 1) := by decide +kernel
theorem dL_refuses_381 : decode cL_refuses 381 = .ok (.sipush 1001, 3) := by decide +kernel
theorem dL_refuses_384 : decode cL_refuses 384 = .ok (.iload_n 2, 1) := by decide +kernel
theorem dL_refuses_385 : decode cL_refuses 385 = .ok (.iadd, 1) := by decide +kernel
theorem dL_refuses_386 : decode cL_refuses 386 = .ok (.invokestatic 126, 3) := by decide +kernel
theorem dL_refuses_389 : decode cL_refuses 389 = .ok (.ldc 15, 2) := by decide +kernel
theorem dL_refuses_391 : decode cL_refuses 391 = .ok (.if_icmp .ne 7, 3) := by decide +kernel
theorem dL_refuses_394 : decode cL_refuses 394 = .ok (.iconst 1, 1) := by decide +kernel
theorem dL_refuses_395 : decode cL_refuses 395 = .ok (.goto 4, 3) := by decide +kernel
theorem dL_refuses_398 : decode cL_refuses 398 = .ok (.iconst 0, 1) := by decide +kernel
theorem dL_refuses_399 : decode cL_refuses 399 = .ok (.istore 6, 2) := by decide +kernel
theorem dL_refuses_401 : decode cL_refuses 401 = .ok (.iload 6, 2) := by decide +kernel
theorem dL_refuses_403 : decode cL_refuses 403 = .ok (.ifCond .eq 146, 3) := by decide +kernel
theorem dL_refuses_406 : decode cL_refuses 406 = .ok (.aload_n 0, 1) := by decide +kernel
theorem dL_refuses_407 : decode cL_refuses 407 = .ok (.iconst (-1), 1) := by decide +kernel
theorem dL_refuses_408 : decode cL_refuses 408 = .ok (.iload_n 2, 1) := by decide +kernel
theorem dL_refuses_409 : decode cL_refuses 409 = .ok (.isub, 1) := by decide +kernel
theorem dL_refuses_410 : decode cL_refuses 410 = .ok (.iconst 0, 1) := by decide +kernel
theorem dL_refuses_411 : decode cL_refuses 411 = .ok (.invokestatic 129, 3) := by decide +kernel
theorem dL_refuses_414 : decode cL_refuses 414 = .ok (.ldc 32, 2) := by decide +kernel
theorem dL_refuses_416 : decode cL_refuses 416 = .ok (.if_icmp .ne 133, 3) := by decide +kernel
theorem dL_refuses_419 : decode cL_refuses 419 = .ok (.aload_n 0, 1) := by decide +kernel
theorem dL_refuses_420 : decode cL_refuses 420 = .ok (.iconst 0, 1) := by decide +kernel
theorem dL_refuses_421 : decode cL_refuses 421 = .ok (.iload 5, 2) := by decide +kernel
theorem dL_refuses_423 : decode cL_refuses 423 = .ok (.invokestatic 129, 3) := by decide +kernel
theorem dL_refuses_426 : decode cL_refuses 426 = .ok (.ldc 32, 2) := by decide +kernel
theorem dL_refuses_428 : decode cL_refuses 428 = .ok (.if_icmp .ne 121, 3) := by decide +kernel
theorem dL_refuses_431 : decode cL_refuses 431 = .ok (.aload_n 0, 1) := by decide +kernel
theorem dL_refuses_432 : decode cL_refuses 432 = .ok (.iconst 1, 1) := by decide +kernel
theorem dL_refuses_433 : decode cL_refuses 433 = .ok (.iconst 3, 1) := by decide +kernel
theorem dL_refuses_434 : decode cL_refuses 434 = .ok (.invokestatic 131, 3) := by decide +kernel
theorem dL_refuses_437 : decode cL_refuses 437 = .ok (.ldc 32, 2) := by decide +kernel
theorem dL_refuses_439 : decode cL_refuses 439 = .ok (.if_icmp .ne 110, 3) := by decide +kernel
theorem dL_refuses_442 : decode cL_refuses 442 = .ok (.aload_n 0, 1) := by decide +kernel
theorem dL_refuses_443 : decode cL_refuses 443 = .ok (.iconst 2, 1) := by decide +kernel
theorem dL_refuses_444 : decode cL_refuses 444 = .ok (.iload 4, 2) := by decide +kernel
theorem dL_refuses_446 : decode cL_refuses 446 = .ok (.invokestatic 134, 3) := by decide +kernel
theorem dL_refuses_449 : decode cL_refuses 449 = .ok (.ldc 32, 2) := by decide +kernel
theorem dL_refuses_451 : decode cL_refuses 451 = .ok (.if_icmp .ne 98, 3) := by decide +kernel
theorem dL_refuses_454 : decode cL_refuses 454 = .ok (.aload_n 0, 1) := by decide +kernel
theorem dL_refuses_455 : decode cL_refuses 455 = .ok (.iconst 0, 1) := by decide +kernel
theorem dL_refuses_456 : decode cL_refuses 456 = .ok (.iload 5, 2) := by decide +kernel
theorem dL_refuses_458 : decode cL_refuses 458 = .ok (.invokestatic 137, 3) := by decide +kernel
theorem dL_refuses_461 : decode cL_refuses 461 = .ok (.ldc 32, 2) := by decide +kernel
theorem dL_refuses_463 : decode cL_refuses 463 = .ok (.if_icmp .ne 86, 3) := by decide +kernel
theorem dL_refuses_466 : decode cL_refuses 466 = .ok (.aload_n 0, 1) := by decide +kernel
theorem dL_refuses_467 : decode cL_refuses 467 = .ok (.bipush 40, 2) := by decide +kernel
theorem dL_refuses_469 : decode cL_refuses 469 = .ok (.iload_n 2, 1) := by decide +kernel
theorem dL_refuses_470 : decode cL_refuses 470 = .ok (.iadd, 1) := by decide +kernel
theorem dL_refuses_471 : decode cL_refuses 471 = .ok (.invokestatic 139, 3) := by decide +kernel
theorem dL_refuses_474 : decode cL_refuses 474 = .ok (.ldc 32, 2) := by decide +kernel
theorem dL_refuses_476 : decode cL_refuses 476 = .ok (.if_icmp .ne 73, 3) := by decide +kernel
theorem dL_refuses_479 : decode cL_refuses 479 = .ok (.aload_n 0, 1) := by decide +kernel
theorem dL_refuses_480 : decode cL_refuses 480 = .ok (.iconst 0, 1) := by decide +kernel
theorem dL_refuses_481 : decode cL_refuses 481 = .ok (.invokestatic 141, 3) := by decide +kernel
theorem dL_refuses_484 : decode cL_refuses 484 = .ok (.ldc 15, 2) := by decide +kernel
theorem dL_refuses_486 : decode cL_refuses 486 = .ok (.if_icmp .ne 63, 3) := by decide +kernel
theorem dL_refuses_489 : decode cL_refuses 489 = .ok (.aload_n 0, 1) := by decide +kernel
theorem dL_refuses_490 : decode cL_refuses 490 = .ok (.bipush 41, 2) := by decide +kernel
theorem dL_refuses_492 : decode cL_refuses 492 = .ok (.iload_n 2, 1) := by decide +kernel
theorem dL_refuses_493 : decode cL_refuses 493 = .ok (.iadd, 1) := by decide +kernel
theorem dL_refuses_494 : decode cL_refuses 494 = .ok (.invokestatic 141, 3) := by decide +kernel
theorem dL_refuses_497 : decode cL_refuses 497 = .ok (.ldc 15, 2) := by decide +kernel
theorem dL_refuses_499 : decode cL_refuses 499 = .ok (.if_icmp .ne 50, 3) := by decide +kernel
theorem dL_refuses_502 : decode cL_refuses 502 = .ok (.aload_n 0, 1) := by decide +kernel
theorem dL_refuses_503 : decode cL_refuses 503 = .ok (.iconst 2, 1) := by decide +kernel
theorem dL_refuses_504 : decode cL_refuses 504 = .ok (.iload 4, 2) := by decide +kernel
theorem dL_refuses_506 : decode cL_refuses 506 = .ok (.invokestatic 144, 3) := by decide +kernel
theorem dL_refuses_509 : decode cL_refuses 509 = .ok (.ldc 32, 2) := by decide +kernel
theorem dL_refuses_511 : decode cL_refuses 511 = .ok (.if_icmp .ne 38, 3) := by decide +kernel
theorem dL_refuses_514 : decode cL_refuses 514 = .ok (.iload_n 3, 1) := by decide +kernel
theorem dL_refuses_515 : decode cL_refuses 515 = .ok (.bipush 21, 2) := by decide +kernel
theorem dL_refuses_517 : decode cL_refuses 517 = .ok (.if_icmp .lt 12, 3) := by decide +kernel
theorem dL_refuses_520 : decode cL_refuses 520 = .ok (.aload_n 0, 1) := by decide +kernel
theorem dL_refuses_521 : decode cL_refuses 521 = .ok (.invokestatic 146, 3) := by decide +kernel
theorem dL_refuses_524 : decode cL_refuses 524 = .ok (.ldc 18, 2) := by decide +kernel
theorem dL_refuses_526 : decode cL_refuses 526 = .ok (.if_icmp .ne 23, 3) := by decide +kernel
theorem dL_refuses_529 : decode cL_refuses 529 = .ok (.aload_n 0, 1) := by decide +kernel
theorem dL_refuses_530 : decode cL_refuses 530 = .ok (.invokevirtual 150, 3) := by decide +kernel
theorem dL_refuses_533 : decode cL_refuses 533 = .ok (.ifCond .lt 12, 3) := by decide +kernel
theorem dL_refuses_536 : decode cL_refuses 536 = .ok (.aload_n 0, 1) := by decide +kernel
theorem dL_refuses_537 : decode cL_refuses 537 = .ok (.invokestatic 146, 3) := by decide +kernel
theorem dL_refuses_540 : decode cL_refuses 540 = .ok (.ldc 18, 2) := by decide +kernel
theorem dL_refuses_542 : decode cL_refuses 542 = .ok (.if_icmp .ne 7, 3) := by decide +kernel
theorem dL_refuses_545 : decode cL_refuses 545 = .ok (.iconst 1, 1) := by decide +kernel
theorem dL_refuses_546 : decode cL_refuses 546 = .ok (.goto 4, 3) := by decide +kernel
theorem dL_refuses_549 : decode cL_refuses 549 = .ok (.iconst 0, 1) := by decide +kernel
theorem dL_refuses_550 : decode cL_refuses 550 = .ok (.istore 6, 2) := by decide +kernel
theorem dL_refuses_552 : decode cL_refuses 552 = .ok (.iload_n 2, 1) := by decide +kernel
theorem dL_refuses_553 : decode cL_refuses 553 = .ok (.bipush 40, 2) := by decide +kernel
theorem dL_refuses_555 : decode cL_refuses 555 = .ok (.irem, 1) := by decide +kernel
theorem dL_refuses_556 : decode cL_refuses 556 = .ok (.istore 7, 2) := by decide +kernel
theorem dL_refuses_558 : decode cL_refuses 558 = .ok (.iload 6, 2) := by decide +kernel
theorem dL_refuses_560 : decode cL_refuses 560 = .ok (.ifCond .eq 78, 3) := by decide +kernel
theorem dL_refuses_563 : decode cL_refuses 563 = .ok (.aload_n 1, 1) := by decide +kernel
theorem dL_refuses_564 : decode cL_refuses 564 = .ok (.iload 7, 2) := by decide +kernel
theorem dL_refuses_566 : decode cL_refuses 566 = .ok (.iaload, 1) := by decide +kernel
theorem dL_refuses_567 : decode cL_refuses 567 = .ok (.ifCond .ne 71, 3) := by decide +kernel
theorem dL_refuses_570 : decode cL_refuses 570 = .ok (.aload_n 0, 1) := by decide +kernel
theorem dL_refuses_571 : decode cL_refuses 571 = .ok (.iload 7, 2) := by decide +kernel
theorem dL_refuses_573 : decode cL_refuses 573 = .ok (.iconst 1, 1) := by decide +kernel
theorem dL_refuses_574 : decode cL_refuses 574 = .ok (.invokestatic 106, 3) := by decide +kernel
theorem dL_refuses_577 : decode cL_refuses 577 = .ok (.ldc 32, 2) := by decide +kernel
theorem dL_refuses_579 : decode cL_refuses 579 = .ok (.if_icmp .ne 53, 3) := by decide +kernel
theorem dL_refuses_582 : decode cL_refuses 582 = .ok (.aload_n 0, 1) := by decide +kernel
theorem dL_refuses_583 : decode cL_refuses 583 = .ok (.iload 7, 2) := by decide +kernel
theorem dL_refuses_585 : decode cL_refuses 585 = .ok (.invokestatic 109, 3) := by decide +kernel
theorem dL_refuses_588 : decode cL_refuses 588 = .ok (.ldc 32, 2) := by decide +kernel
theorem dL_refuses_590 : decode cL_refuses 590 = .ok (.if_icmp .ne 42, 3) := by decide +kernel
theorem dL_refuses_593 : decode cL_refuses 593 = .ok (.aload_n 0, 1) := by decide +kernel
theorem dL_refuses_594 : decode cL_refuses 594 = .ok (.iload 7, 2) := by decide +kernel
theorem dL_refuses_596 : decode cL_refuses 596 = .ok (.iconst 0, 1) := by decide +kernel
theorem dL_refuses_597 : decode cL_refuses 597 = .ok (.invokestatic 112, 3) := by decide +kernel
theorem dL_refuses_600 : decode cL_refuses 600 = .ok (.ldc 32, 2) := by decide +kernel
theorem dL_refuses_602 : decode cL_refuses 602 = .ok (.if_icmp .ne 30, 3) := by decide +kernel
theorem dL_refuses_605 : decode cL_refuses 605 = .ok (.aload_n 0, 1) := by decide +kernel
theorem dL_refuses_606 : decode cL_refuses 606 = .ok (.iload 7, 2) := by decide +kernel
theorem dL_refuses_608 : decode cL_refuses 608 = .ok (.iconst 1, 1) := by decide +kernel
theorem dL_refuses_609 : decode cL_refuses 609 = .ok (.invokestatic 115, 3) := by decide +kernel
theorem dL_refuses_612 : decode cL_refuses 612 = .ok (.ldc 32, 2) := by decide +kernel
theorem dL_refuses_614 : decode cL_refuses 614 = .ok (.if_icmp .ne 18, 3) := by decide +kernel
theorem dL_refuses_617 : decode cL_refuses 617 = .ok (.aload_n 0, 1) := by decide +kernel
theorem dL_refuses_618 : decode cL_refuses 618 = .ok (.iload 7, 2) := by decide +kernel
theorem dL_refuses_620 : decode cL_refuses 620 = .ok (.invokestatic 139, 3) := by decide +kernel
theorem dL_refuses_623 : decode cL_refuses 623 = .ok (.ldc 32, 2) := by decide +kernel
theorem dL_refuses_625 : decode cL_refuses 625 = .ok (.if_icmp .ne 7, 3) := by decide +kernel
theorem dL_refuses_628 : decode cL_refuses 628 = .ok (.iconst 1, 1) := by decide +kernel
theorem dL_refuses_629 : decode cL_refuses 629 = .ok (.goto 4, 3) := by decide +kernel
theorem dL_refuses_632 : decode cL_refuses 632 = .ok (.iconst 0, 1) := by decide +kernel
theorem dL_refuses_633 : decode cL_refuses 633 = .ok (.istore 6, 2) := by decide +kernel
theorem dL_refuses_635 : decode cL_refuses 635 = .ok (.goto 162, 3) := by decide +kernel
theorem dL_refuses_638 : decode cL_refuses 638 = .ok (.iload 6, 2) := by decide +kernel
theorem dL_refuses_640 : decode cL_refuses 640 = .ok (.ifCond .eq 157, 3) := by decide +kernel
theorem dL_refuses_643 : decode cL_refuses 643 = .ok (.aload_n 0, 1) := by decide +kernel
theorem dL_refuses_644 : decode cL_refuses 644 = .ok (.iload 7, 2) := by decide +kernel
theorem dL_refuses_646 : decode cL_refuses 646 = .ok (.sipush 1001, 3) := by decide +kernel
theorem dL_refuses_649 : decode cL_refuses 649 = .ok (.iload_n 2, 1) := by decide +kernel
theorem dL_refuses_650 : decode cL_refuses 650 = .ok (.iadd, 1) := by decide +kernel
theorem dL_refuses_651 : decode cL_refuses 651 = .ok (.invokestatic 106, 3) := by decide +kernel
theorem dL_refuses_654 : decode cL_refuses 654 = .ok (.ldc 15, 2) := by decide +kernel
theorem dL_refuses_656 : decode cL_refuses 656 = .ok (.if_icmp .ne 74, 3) := by decide +kernel
theorem dL_refuses_659 : decode cL_refuses 659 = .ok (.aload_n 0, 1) := by decide +kernel
theorem dL_refuses_660 : decode cL_refuses 660 = .ok (.iload 7, 2) := by decide +kernel
theorem dL_refuses_662 : decode cL_refuses 662 = .ok (.sipush (-1001), 3) := by decide +kernel
theorem dL_refuses_665 : decode cL_refuses 665 = .ok (.iload_n 2, 1) := by decide +kernel
theorem dL_refuses_666 : decode cL_refuses 666 = .ok (.isub, 1) := by decide +kernel
theorem dL_refuses_667 : decode cL_refuses 667 = .ok (.invokestatic 106, 3) := by decide +kernel
theorem dL_refuses_670 : decode cL_refuses 670 = .ok (.ldc 15, 2) := by decide +kernel
theorem dL_refuses_672 : decode cL_refuses 672 = .ok (.if_icmp .ne 58, 3) := by decide +kernel
theorem dL_refuses_675 : decode cL_refuses 675 = .ok (.aload_n 0, 1) := by decide +kernel
theorem dL_refuses_676 : decode cL_refuses 676 = .ok (.iload 7, 2) := by decide +kernel
theorem dL_refuses_678 : decode cL_refuses 678 = .ok (.iconst 0, 1) := by decide +kernel
theorem dL_refuses_679 : decode cL_refuses 679 = .ok (.invokestatic 115, 3) := by decide +kernel
theorem dL_refuses_682 : decode cL_refuses 682 = .ok (.ldc 15, 2) := by decide +kernel
theorem dL_refuses_684 : decode cL_refuses 684 = .ok (.if_icmp .ne 46, 3) := by decide +kernel
theorem dL_refuses_687 : decode cL_refuses 687 = .ok (.aload_n 0, 1) := by decide +kernel
theorem dL_refuses_688 : decode cL_refuses 688 = .ok (.iload 7, 2) := by decide +kernel
theorem dL_refuses_690 : decode cL_refuses 690 = .ok (.sipush 1001, 3) := by decide +kernel
theorem dL_refuses_693 : decode cL_refuses 693 = .ok (.iload_n 2, 1) := by decide +kernel
theorem dL_refuses_694 : decode cL_refuses 694 = .ok (.iadd, 1) := by decide +kernel
theorem dL_refuses_695 : decode cL_refuses 695 = .ok (.invokestatic 115, 3) := by decide +kernel
theorem dL_refuses_698 : decode cL_refuses 698 = .ok (.ldc 15, 2) := by decide +kernel
theorem dL_refuses_700 : decode cL_refuses 700 = .ok (.if_icmp .ne 30, 3) := by decide +kernel
theorem dL_refuses_703 : decode cL_refuses 703 = .ok (.aload_n 0, 1) := by decide +kernel
theorem dL_refuses_704 : decode cL_refuses 704 = .ok (.iload 7, 2) := by decide +kernel
theorem dL_refuses_706 : decode cL_refuses 706 = .ok (.iload 4, 2) := by decide +kernel
theorem dL_refuses_708 : decode cL_refuses 708 = .ok (.invokestatic 112, 3) := by decide +kernel
theorem dL_refuses_711 : decode cL_refuses 711 = .ok (.ldc 32, 2) := by decide +kernel
theorem dL_refuses_713 : decode cL_refuses 713 = .ok (.if_icmp .ne 17, 3) := by decide +kernel
theorem dL_refuses_716 : decode cL_refuses 716 = .ok (.aload_n 0, 1) := by decide +kernel
theorem dL_refuses_717 : decode cL_refuses 717 = .ok (.iload 7, 2) := by decide +kernel
theorem dL_refuses_719 : decode cL_refuses 719 = .ok (.iconst 0, 1) := by decide +kernel
theorem dL_refuses_720 : decode cL_refuses 720 = .ok (.invokestatic 106, 3) := by decide +kernel
theorem dL_refuses_723 : decode cL_refuses 723 = .ok (.ifCond .lt 7, 3) := by decide +kernel
theorem dL_refuses_726 : decode cL_refuses 726 = .ok (.iconst 1, 1) := by decide +kernel
theorem dL_refuses_727 : decode cL_refuses 727 = .ok (.goto 4, 3) := by decide +kernel
theorem dL_refuses_730 : decode cL_refuses 730 = .ok (.iconst 0, 1) := by decide +kernel
theorem dL_refuses_731 : decode cL_refuses 731 = .ok (.istore 6, 2) := by decide +kernel
theorem dL_refuses_733 : decode cL_refuses 733 = .ok (.aload_n 0, 1) := by decide +kernel
theorem dL_refuses_734 : decode cL_refuses 734 = .ok (.iload 7, 2) := by decide +kernel
theorem dL_refuses_736 : decode cL_refuses 736 = .ok (.invokestatic 139, 3) := by decide +kernel
theorem dL_refuses_739 : decode cL_refuses 739 = .ok (.istore 8, 2) := by decide +kernel
theorem dL_refuses_741 : decode cL_refuses 741 = .ok (.iload 6, 2) := by decide +kernel
theorem dL_refuses_743 : decode cL_refuses 743 = .ok (.ifCond .eq 51, 3) := by decide +kernel
theorem dL_refuses_746 : decode cL_refuses 746 = .ok (.iload 8, 2) := by decide +kernel
theorem dL_refuses_748 : decode cL_refuses 748 = .ok (.iconst (-1), 1) := by decide +kernel
theorem dL_refuses_749 : decode cL_refuses 749 = .ok (.if_icmp .lt 45, 3) := by decide +kernel
theorem dL_refuses_752 : decode cL_refuses 752 = .ok (.iload 8, 2) := by decide +kernel
theorem dL_refuses_754 : decode cL_refuses 754 = .ok (.ifCond .lt 36, 3) := by decide +kernel
theorem dL_refuses_757 : decode cL_refuses 757 = .ok (.iload 8, 2) := by decide +kernel
theorem dL_refuses_759 : decode cL_refuses 759 = .ok (.sipush 999, 3) := by decide +kernel
theorem dL_refuses_762 : decode cL_refuses 762 = .ok (.if_icmp .gt 28, 3) := by decide +kernel
theorem dL_refuses_765 : decode cL_refuses 765 = .ok (.aload_n 0, 1) := by decide +kernel
theorem dL_refuses_766 : decode cL_refuses 766 = .ok (.iload 7, 2) := by decide +kernel
theorem dL_refuses_768 : decode cL_refuses 768 = .ok (.iload 8, 2) := by decide +kernel
theorem dL_refuses_770 : decode cL_refuses 770 = .ok (.iconst 1, 1) := by decide +kernel
theorem dL_refuses_771 : decode cL_refuses 771 = .ok (.iadd, 1) := by decide +kernel
theorem dL_refuses_772 : decode cL_refuses 772 = .ok (.invokestatic 106, 3) := by decide +kernel
theorem dL_refuses_775 : decode cL_refuses 775 = .ok (.iconst (-1), 1) := by decide +kernel
theorem dL_refuses_776 : decode cL_refuses 776 = .ok (.if_icmp .ge 18, 3) := by decide +kernel
theorem dL_refuses_779 : decode cL_refuses 779 = .ok (.aload_n 0, 1) := by decide +kernel
theorem dL_refuses_780 : decode cL_refuses 780 = .ok (.iload 7, 2) := by decide +kernel
theorem dL_refuses_782 : decode cL_refuses 782 = .ok (.invokestatic 139, 3) := by decide +kernel
theorem dL_refuses_785 : decode cL_refuses 785 = .ok (.iload 8, 2) := by decide +kernel
theorem dL_refuses_787 : decode cL_refuses 787 = .ok (.if_icmp .ne 7, 3) := by decide +kernel
theorem dL_refuses_790 : decode cL_refuses 790 = .ok (.iconst 1, 1) := by decide +kernel
theorem dL_refuses_791 : decode cL_refuses 791 = .ok (.goto 4, 3) := by decide +kernel
theorem dL_refuses_794 : decode cL_refuses 794 = .ok (.iconst 0, 1) := by decide +kernel
theorem dL_refuses_795 : decode cL_refuses 795 = .ok (.istore 6, 2) := by decide +kernel
theorem dL_refuses_797 : decode cL_refuses 797 = .ok (.iload 6, 2) := by decide +kernel
theorem dL_refuses_799 : decode cL_refuses 799 = .ok (.ireturn, 1) := by decide +kernel
theorem dL_act_0 : decode cL_act 0 = .ok (.iload_n 1, 1) := by decide +kernel
theorem dL_act_1 : decode cL_act 1 = .ok (.bipush 32, 2) := by decide +kernel
theorem dL_act_3 : decode cL_act 3 = .ok (.idiv, 1) := by decide +kernel
theorem dL_act_4 : decode cL_act 4 = .ok (.istore_n 2, 1) := by decide +kernel
theorem dL_act_5 : decode cL_act 5 = .ok (.iload_n 2, 1) := by decide +kernel
theorem dL_act_6 : decode cL_act 6 = .ok (.aload_n 0, 1) := by decide +kernel
theorem dL_act_7 : decode cL_act 7 = .ok (.invokevirtual 86, 3) := by decide +kernel
theorem dL_act_10 : decode cL_act 10 = .ok (.irem, 1) := by decide +kernel
theorem dL_act_11 : decode cL_act 11 = .ok (.istore_n 3, 1) := by decide +kernel
theorem dL_act_12 : decode cL_act 12 = .ok (.iload_n 1, 1) := by decide +kernel
theorem dL_act_13 : decode cL_act 13 = .ok (.bipush 32, 2) := by decide +kernel
theorem dL_act_15 : decode cL_act 15 = .ok (.irem, 1) := by decide +kernel
theorem dL_act_16 : decode cL_act 16 = .ok (.tableswitch 392 0 28 #[132, 132, 132, 132, 144, 162, 162, 162, 162, 167, 167, 167, 173, 173, 173, 186, 186, 186, 186, 205, 237, 237, 253, 253, 269, 269, 376, 376, 387], 132) := by decide +kernel
theorem dL_act_148 : decode cL_act 148 = .ok (.aload_n 0, 1) := by decide +kernel
theorem dL_act_149 : decode cL_act 149 = .ok (.bipush 97, 2) := by decide +kernel
theorem dL_act_151 : decode cL_act 151 = .ok (.iload_n 2, 1) := by decide +kernel
theorem dL_act_152 : decode cL_act 152 = .ok (.iconst 3, 1) := by decide +kernel
theorem dL_act_153 : decode cL_act 153 = .ok (.irem, 1) := by decide +kernel
theorem dL_act_154 : decode cL_act 154 = .ok (.iadd, 1) := by decide +kernel
theorem dL_act_155 : decode cL_act 155 = .ok (.i2c, 1) := by decide +kernel
theorem dL_act_156 : decode cL_act 156 = .ok (.invokestatic 89, 3) := by decide +kernel
theorem dL_act_159 : decode cL_act 159 = .ok (.ireturn, 1) := by decide +kernel
theorem dL_act_160 : decode cL_act 160 = .ok (.iload_n 2, 1) := by decide +kernel
theorem dL_act_161 : decode cL_act 161 = .ok (.iconst 3, 1) := by decide +kernel
theorem dL_act_162 : decode cL_act 162 = .ok (.irem, 1) := by decide +kernel
theorem dL_act_163 : decode cL_act 163 = .ok (.ifCond .ne 10, 3) := by decide +kernel
theorem dL_act_166 : decode cL_act 166 = .ok (.aload_n 0, 1) := by decide +kernel
theorem dL_act_167 : decode cL_act 167 = .ok (.invokevirtual 153, 3) := by decide +kernel
theorem dL_act_170 : decode cL_act 170 = .ok (.goto 7, 3) := by decide +kernel
theorem dL_act_173 : decode cL_act 173 = .ok (.aload_n 0, 1) := by decide +kernel
theorem dL_act_174 : decode cL_act 174 = .ok (.invokestatic 156, 3) := by decide +kernel
theorem dL_act_177 : decode cL_act 177 = .ok (.ireturn, 1) := by decide +kernel
theorem dL_act_178 : decode cL_act 178 = .ok (.aload_n 0, 1) := by decide +kernel
theorem dL_act_179 : decode cL_act 179 = .ok (.invokestatic 146, 3) := by decide +kernel
theorem dL_act_182 : decode cL_act 182 = .ok (.ireturn, 1) := by decide +kernel
theorem dL_act_183 : decode cL_act 183 = .ok (.aload_n 0, 1) := by decide +kernel
theorem dL_act_184 : decode cL_act 184 = .ok (.iload_n 3, 1) := by decide +kernel
theorem dL_act_185 : decode cL_act 185 = .ok (.invokestatic 95, 3) := by decide +kernel
theorem dL_act_188 : decode cL_act 188 = .ok (.ireturn, 1) := by decide +kernel
theorem dL_act_189 : decode cL_act 189 = .ok (.aload_n 0, 1) := by decide +kernel
theorem dL_act_190 : decode cL_act 190 = .ok (.iload_n 2, 1) := by decide +kernel
theorem dL_act_191 : decode cL_act 191 = .ok (.bipush 21, 2) := by decide +kernel
theorem dL_act_193 : decode cL_act 193 = .ok (.idiv, 1) := by decide +kernel
theorem dL_act_194 : decode cL_act 194 = .ok (.bipush 6, 2) := by decide +kernel
theorem dL_act_196 : decode cL_act 196 = .ok (.irem, 1) := by decide +kernel
theorem dL_act_197 : decode cL_act 197 = .ok (.iload_n 3, 1) := by decide +kernel
theorem dL_act_198 : decode cL_act 198 = .ok (.invokestatic 103, 3) := by decide +kernel
theorem dL_act_201 : decode cL_act 201 = .ok (.ireturn, 1) := by decide +kernel
theorem dL_act_202 : decode cL_act 202 = .ok (.aload_n 0, 1) := by decide +kernel
theorem dL_act_203 : decode cL_act 203 = .ok (.iload_n 2, 1) := by decide +kernel
theorem dL_act_204 : decode cL_act 204 = .ok (.bipush 10, 2) := by decide +kernel
theorem dL_act_206 : decode cL_act 206 = .ok (.irem, 1) := by decide +kernel
theorem dL_act_207 : decode cL_act 207 = .ok (.iload_n 2, 1) := by decide +kernel
theorem dL_act_208 : decode cL_act 208 = .ok (.bipush 10, 2) := by decide +kernel
theorem dL_act_210 : decode cL_act 210 = .ok (.idiv, 1) := by decide +kernel
theorem dL_act_211 : decode cL_act 211 = .ok (.bipush 80, 2) := by decide +kernel
theorem dL_act_213 : decode cL_act 213 = .ok (.irem, 1) := by decide +kernel
theorem dL_act_214 : decode cL_act 214 = .ok (.bipush 20, 2) := by decide +kernel
theorem dL_act_216 : decode cL_act 216 = .ok (.isub, 1) := by decide +kernel
theorem dL_act_217 : decode cL_act 217 = .ok (.invokestatic 106, 3) := by decide +kernel
theorem dL_act_220 : decode cL_act 220 = .ok (.ireturn, 1) := by decide +kernel
theorem dL_act_221 : decode cL_act 221 = .ok (.iload_n 2, 1) := by decide +kernel
theorem dL_act_222 : decode cL_act 222 = .ok (.iconst 3, 1) := by decide +kernel
theorem dL_act_223 : decode cL_act 223 = .ok (.irem, 1) := by decide +kernel
theorem dL_act_224 : decode cL_act 224 = .ok (.ifCond .ne 16, 3) := by decide +kernel
theorem dL_act_227 : decode cL_act 227 = .ok (.aload_n 0, 1) := by decide +kernel
theorem dL_act_228 : decode cL_act 228 = .ok (.iload_n 2, 1) := by decide +kernel
theorem dL_act_229 : decode cL_act 229 = .ok (.iconst 3, 1) := by decide +kernel
theorem dL_act_230 : decode cL_act 230 = .ok (.idiv, 1) := by decide +kernel
theorem dL_act_231 : decode cL_act 231 = .ok (.bipush 10, 2) := by decide +kernel
theorem dL_act_233 : decode cL_act 233 = .ok (.irem, 1) := by decide +kernel
theorem dL_act_234 : decode cL_act 234 = .ok (.invokestatic 109, 3) := by decide +kernel
theorem dL_act_237 : decode cL_act 237 = .ok (.goto 15, 3) := by decide +kernel
theorem dL_act_240 : decode cL_act 240 = .ok (.aload_n 0, 1) := by decide +kernel
theorem dL_act_241 : decode cL_act 241 = .ok (.iload_n 2, 1) := by decide +kernel
theorem dL_act_242 : decode cL_act 242 = .ok (.bipush 21, 2) := by decide +kernel
theorem dL_act_244 : decode cL_act 244 = .ok (.idiv, 1) := by decide +kernel
theorem dL_act_245 : decode cL_act 245 = .ok (.bipush 10, 2) := by decide +kernel
theorem dL_act_247 : decode cL_act 247 = .ok (.irem, 1) := by decide +kernel
theorem dL_act_248 : decode cL_act 248 = .ok (.iload_n 3, 1) := by decide +kernel
theorem dL_act_249 : decode cL_act 249 = .ok (.invokestatic 112, 3) := by decide +kernel
theorem dL_act_252 : decode cL_act 252 = .ok (.ireturn, 1) := by decide +kernel
theorem dL_act_253 : decode cL_act 253 = .ok (.aload_n 0, 1) := by decide +kernel
theorem dL_act_254 : decode cL_act 254 = .ok (.iload_n 2, 1) := by decide +kernel
theorem dL_act_255 : decode cL_act 255 = .ok (.bipush 10, 2) := by decide +kernel
theorem dL_act_257 : decode cL_act 257 = .ok (.irem, 1) := by decide +kernel
theorem dL_act_258 : decode cL_act 258 = .ok (.iload_n 2, 1) := by decide +kernel
theorem dL_act_259 : decode cL_act 259 = .ok (.bipush 10, 2) := by decide +kernel
theorem dL_act_261 : decode cL_act 261 = .ok (.idiv, 1) := by decide +kernel
theorem dL_act_262 : decode cL_act 262 = .ok (.bipush 50, 2) := by decide +kernel
theorem dL_act_264 : decode cL_act 264 = .ok (.irem, 1) := by decide +kernel
theorem dL_act_265 : decode cL_act 265 = .ok (.invokestatic 115, 3) := by decide +kernel
theorem dL_act_268 : decode cL_act 268 = .ok (.ireturn, 1) := by decide +kernel
theorem dL_act_269 : decode cL_act 269 = .ok (.aload_n 0, 1) := by decide +kernel
theorem dL_act_270 : decode cL_act 270 = .ok (.iload_n 2, 1) := by decide +kernel
theorem dL_act_271 : decode cL_act 271 = .ok (.bipush 6, 2) := by decide +kernel
theorem dL_act_273 : decode cL_act 273 = .ok (.irem, 1) := by decide +kernel
theorem dL_act_274 : decode cL_act 274 = .ok (.iload_n 2, 1) := by decide +kernel
theorem dL_act_275 : decode cL_act 275 = .ok (.bipush 6, 2) := by decide +kernel
theorem dL_act_277 : decode cL_act 277 = .ok (.idiv, 1) := by decide +kernel
theorem dL_act_278 : decode cL_act 278 = .ok (.bipush 20, 2) := by decide +kernel
theorem dL_act_280 : decode cL_act 280 = .ok (.irem, 1) := by decide +kernel
theorem dL_act_281 : decode cL_act 281 = .ok (.invokestatic 118, 3) := by decide +kernel
theorem dL_act_284 : decode cL_act 284 = .ok (.ireturn, 1) := by decide +kernel
theorem dL_act_285 : decode cL_act 285 = .ok (.iload_n 2, 1) := by decide +kernel
theorem dL_act_286 : decode cL_act 286 = .ok (.iconst 3, 1) := by decide +kernel
theorem dL_act_287 : decode cL_act 287 = .ok (.irem, 1) := by decide +kernel
theorem dL_act_288 : decode cL_act 288 = .ok (.istore 4, 2) := by decide +kernel
theorem dL_act_290 : decode cL_act 290 = .ok (.iload 4, 2) := by decide +kernel
theorem dL_act_292 : decode cL_act 292 = .ok (.ifCond .ne 12, 3) := by decide +kernel
theorem dL_act_295 : decode cL_act 295 = .ok (.iload_n 2, 1) := by decide +kernel
theorem dL_act_296 : decode cL_act 296 = .ok (.iconst 3, 1) := by decide +kernel
theorem dL_act_297 : decode cL_act 297 = .ok (.idiv, 1) := by decide +kernel
theorem dL_act_298 : decode cL_act 298 = .ok (.bipush 6, 2) := by decide +kernel
theorem dL_act_300 : decode cL_act 300 = .ok (.irem, 1) := by decide +kernel
theorem dL_act_301 : decode cL_act 301 = .ok (.goto 18, 3) := by decide +kernel
theorem dL_act_304 : decode cL_act 304 = .ok (.iload 4, 2) := by decide +kernel
theorem dL_act_306 : decode cL_act 306 = .ok (.iconst 1, 1) := by decide +kernel
theorem dL_act_307 : decode cL_act 307 = .ok (.if_icmp .ne 11, 3) := by decide +kernel
theorem dL_act_310 : decode cL_act 310 = .ok (.iload_n 2, 1) := by decide +kernel
theorem dL_act_311 : decode cL_act 311 = .ok (.iconst 3, 1) := by decide +kernel
theorem dL_act_312 : decode cL_act 312 = .ok (.idiv, 1) := by decide +kernel
theorem dL_act_313 : decode cL_act 313 = .ok (.iconst 3, 1) := by decide +kernel
theorem dL_act_314 : decode cL_act 314 = .ok (.irem, 1) := by decide +kernel
theorem dL_act_315 : decode cL_act 315 = .ok (.goto 4, 3) := by decide +kernel
theorem dL_act_318 : decode cL_act 318 = .ok (.iload_n 3, 1) := by decide +kernel
theorem dL_act_319 : decode cL_act 319 = .ok (.istore 5, 2) := by decide +kernel
theorem dL_act_321 : decode cL_act 321 = .ok (.aload_n 0, 1) := by decide +kernel
theorem dL_act_322 : decode cL_act 322 = .ok (.iload 4, 2) := by decide +kernel
theorem dL_act_324 : decode cL_act 324 = .ok (.iload 5, 2) := by decide +kernel
theorem dL_act_326 : decode cL_act 326 = .ok (.iload_n 2, 1) := by decide +kernel
theorem dL_act_327 : decode cL_act 327 = .ok (.bipush 63, 2) := by decide +kernel
theorem dL_act_329 : decode cL_act 329 = .ok (.idiv, 1) := by decide +kernel
theorem dL_act_330 : decode cL_act 330 = .ok (.iconst 3, 1) := by decide +kernel
theorem dL_act_331 : decode cL_act 331 = .ok (.irem, 1) := by decide +kernel
theorem dL_act_332 : decode cL_act 332 = .ok (.ifCond .ne 7, 3) := by decide +kernel
theorem dL_act_335 : decode cL_act 335 = .ok (.iconst (-1), 1) := by decide +kernel
theorem dL_act_336 : decode cL_act 336 = .ok (.goto 11, 3) := by decide +kernel
theorem dL_act_339 : decode cL_act 339 = .ok (.iload_n 2, 1) := by decide +kernel
theorem dL_act_340 : decode cL_act 340 = .ok (.sipush 189, 3) := by decide +kernel
theorem dL_act_343 : decode cL_act 343 = .ok (.idiv, 1) := by decide +kernel
theorem dL_act_344 : decode cL_act 344 = .ok (.bipush 90, 2) := by decide +kernel
theorem dL_act_346 : decode cL_act 346 = .ok (.irem, 1) := by decide +kernel
theorem dL_act_347 : decode cL_act 347 = .ok (.iload_n 2, 1) := by decide +kernel
theorem dL_act_348 : decode cL_act 348 = .ok (.bipush 7, 2) := by decide +kernel
theorem dL_act_350 : decode cL_act 350 = .ok (.idiv, 1) := by decide +kernel
theorem dL_act_351 : decode cL_act 351 = .ok (.iconst 3, 1) := by decide +kernel
theorem dL_act_352 : decode cL_act 352 = .ok (.irem, 1) := by decide +kernel
theorem dL_act_353 : decode cL_act 353 = .ok (.ifCond .ne 7, 3) := by decide +kernel
theorem dL_act_356 : decode cL_act 356 = .ok (.iconst (-1), 1) := by decide +kernel
theorem dL_act_357 : decode cL_act 357 = .ok (.goto 11, 3) := by decide +kernel
theorem dL_act_360 : decode cL_act 360 = .ok (.iload_n 2, 1) := by decide +kernel
theorem dL_act_361 : decode cL_act 361 = .ok (.bipush 11, 2) := by decide +kernel
theorem dL_act_363 : decode cL_act 363 = .ok (.idiv, 1) := by decide +kernel
theorem dL_act_364 : decode cL_act 364 = .ok (.sipush 130, 3) := by decide +kernel
theorem dL_act_367 : decode cL_act 367 = .ok (.irem, 1) := by decide +kernel
theorem dL_act_368 : decode cL_act 368 = .ok (.iload_n 2, 1) := by decide +kernel
theorem dL_act_369 : decode cL_act 369 = .ok (.bipush 13, 2) := by decide +kernel
theorem dL_act_371 : decode cL_act 371 = .ok (.idiv, 1) := by decide +kernel
theorem dL_act_372 : decode cL_act 372 = .ok (.iconst 4, 1) := by decide +kernel
theorem dL_act_373 : decode cL_act 373 = .ok (.irem, 1) := by decide +kernel
theorem dL_act_374 : decode cL_act 374 = .ok (.ifCond .le 7, 3) := by decide +kernel
theorem dL_act_377 : decode cL_act 377 = .ok (.iconst (-1), 1) := by decide +kernel
theorem dL_act_378 : decode cL_act 378 = .ok (.goto 10, 3) := by decide +kernel
theorem dL_act_381 : decode cL_act 381 = .ok (.iload_n 2, 1) := by decide +kernel
theorem dL_act_382 : decode cL_act 382 = .ok (.bipush 52, 2) := by decide +kernel
theorem dL_act_384 : decode cL_act 384 = .ok (.idiv, 1) := by decide +kernel
theorem dL_act_385 : decode cL_act 385 = .ok (.bipush 12, 2) := by decide +kernel
theorem dL_act_387 : decode cL_act 387 = .ok (.irem, 1) := by decide +kernel
theorem dL_act_388 : decode cL_act 388 = .ok (.invokestatic 121, 3) := by decide +kernel
theorem dL_act_391 : decode cL_act 391 = .ok (.ireturn, 1) := by decide +kernel
theorem dL_act_392 : decode cL_act 392 = .ok (.aload_n 0, 1) := by decide +kernel
theorem dL_act_393 : decode cL_act 393 = .ok (.iconst 1, 1) := by decide +kernel
theorem dL_act_394 : decode cL_act 394 = .ok (.iload_n 2, 1) := by decide +kernel
theorem dL_act_395 : decode cL_act 395 = .ok (.bipush 40, 2) := by decide +kernel
theorem dL_act_397 : decode cL_act 397 = .ok (.irem, 1) := by decide +kernel
theorem dL_act_398 : decode cL_act 398 = .ok (.iadd, 1) := by decide +kernel
theorem dL_act_399 : decode cL_act 399 = .ok (.invokestatic 126, 3) := by decide +kernel
theorem dL_act_402 : decode cL_act 402 = .ok (.ireturn, 1) := by decide +kernel
theorem dL_act_403 : decode cL_act 403 = .ok (.aload_n 0, 1) := by decide +kernel
theorem dL_act_404 : decode cL_act 404 = .ok (.invokevirtual 159, 3) := by decide +kernel
theorem dL_act_407 : decode cL_act 407 = .ok (.ireturn, 1) := by decide +kernel
theorem dL_act_408 : decode cL_act 408 = .ok (.aload_n 0, 1) := by decide +kernel
theorem dL_act_409 : decode cL_act 409 = .ok (.iconst 1, 1) := by decide +kernel
theorem dL_act_410 : decode cL_act 410 = .ok (.iload_n 2, 1) := by decide +kernel
theorem dL_act_411 : decode cL_act 411 = .ok (.iconst 4, 1) := by decide +kernel
theorem dL_act_412 : decode cL_act 412 = .ok (.irem, 1) := by decide +kernel
theorem dL_act_413 : decode cL_act 413 = .ok (.iadd, 1) := by decide +kernel
theorem dL_act_414 : decode cL_act 414 = .ok (.invokestatic 141, 3) := by decide +kernel
theorem dL_act_417 : decode cL_act 417 = .ok (.ireturn, 1) := by decide +kernel
theorem dL_alike_0 : decode cL_alike 0 = .ok (.aload_n 0, 1) := by decide +kernel
theorem dL_alike_1 : decode cL_alike 1 = .ok (.invokevirtual 86, 3) := by decide +kernel
theorem dL_alike_4 : decode cL_alike 4 = .ok (.aload_n 1, 1) := by decide +kernel
theorem dL_alike_5 : decode cL_alike 5 = .ok (.invokevirtual 86, 3) := by decide +kernel
theorem dL_alike_8 : decode cL_alike 8 = .ok (.if_icmp .ne 18, 3) := by decide +kernel
theorem dL_alike_11 : decode cL_alike 11 = .ok (.aload_n 0, 1) := by decide +kernel
theorem dL_alike_12 : decode cL_alike 12 = .ok (.invokevirtual 150, 3) := by decide +kernel
theorem dL_alike_15 : decode cL_alike 15 = .ok (.aload_n 1, 1) := by decide +kernel
theorem dL_alike_16 : decode cL_alike 16 = .ok (.invokevirtual 150, 3) := by decide +kernel
theorem dL_alike_19 : decode cL_alike 19 = .ok (.if_icmp .ne 7, 3) := by decide +kernel
theorem dL_alike_22 : decode cL_alike 22 = .ok (.iconst 1, 1) := by decide +kernel
theorem dL_alike_23 : decode cL_alike 23 = .ok (.goto 4, 3) := by decide +kernel
theorem dL_alike_26 : decode cL_alike 26 = .ok (.iconst 0, 1) := by decide +kernel
theorem dL_alike_27 : decode cL_alike 27 = .ok (.istore_n 2, 1) := by decide +kernel
theorem dL_alike_28 : decode cL_alike 28 = .ok (.iconst 0, 1) := by decide +kernel
theorem dL_alike_29 : decode cL_alike 29 = .ok (.istore_n 3, 1) := by decide +kernel
theorem dL_alike_30 : decode cL_alike 30 = .ok (.iload_n 3, 1) := by decide +kernel
theorem dL_alike_31 : decode cL_alike 31 = .ok (.iconst 3, 1) := by decide +kernel
theorem dL_alike_32 : decode cL_alike 32 = .ok (.if_icmp .ge 131, 3) := by decide +kernel
theorem dL_alike_35 : decode cL_alike 35 = .ok (.iload_n 2, 1) := by decide +kernel
theorem dL_alike_36 : decode cL_alike 36 = .ok (.ifCond .eq 127, 3) := by decide +kernel
theorem dL_alike_39 : decode cL_alike 39 = .ok (.iload_n 3, 1) := by decide +kernel
theorem dL_alike_40 : decode cL_alike 40 = .ok (.ifCond .ne 8, 3) := by decide +kernel
theorem dL_alike_43 : decode cL_alike 43 = .ok (.bipush 6, 2) := by decide +kernel
theorem dL_alike_45 : decode cL_alike 45 = .ok (.goto 16, 3) := by decide +kernel
theorem dL_alike_48 : decode cL_alike 48 = .ok (.iload_n 3, 1) := by decide +kernel
theorem dL_alike_49 : decode cL_alike 49 = .ok (.iconst 1, 1) := by decide +kernel
theorem dL_alike_50 : decode cL_alike 50 = .ok (.if_icmp .ne 7, 3) := by decide +kernel
theorem dL_alike_53 : decode cL_alike 53 = .ok (.iconst 3, 1) := by decide +kernel
theorem dL_alike_54 : decode cL_alike 54 = .ok (.goto 7, 3) := by decide +kernel
theorem dL_alike_57 : decode cL_alike 57 = .ok (.aload_n 0, 1) := by decide +kernel
theorem dL_alike_58 : decode cL_alike 58 = .ok (.invokevirtual 86, 3) := by decide +kernel
theorem dL_alike_61 : decode cL_alike 61 = .ok (.istore 4, 2) := by decide +kernel
theorem dL_alike_63 : decode cL_alike 63 = .ok (.iconst 0, 1) := by decide +kernel
theorem dL_alike_64 : decode cL_alike 64 = .ok (.istore 5, 2) := by decide +kernel
theorem dL_alike_66 : decode cL_alike 66 = .ok (.iload 5, 2) := by decide +kernel
theorem dL_alike_68 : decode cL_alike 68 = .ok (.iload 4, 2) := by decide +kernel
theorem dL_alike_70 : decode cL_alike 70 = .ok (.if_icmp .ge 87, 3) := by decide +kernel
theorem dL_alike_73 : decode cL_alike 73 = .ok (.iload_n 2, 1) := by decide +kernel
theorem dL_alike_74 : decode cL_alike 74 = .ok (.ifCond .eq 83, 3) := by decide +kernel
theorem dL_alike_77 : decode cL_alike 77 = .ok (.aload_n 0, 1) := by decide +kernel
theorem dL_alike_78 : decode cL_alike 78 = .ok (.iload_n 3, 1) := by decide +kernel
theorem dL_alike_79 : decode cL_alike 79 = .ok (.iload 5, 2) := by decide +kernel
theorem dL_alike_81 : decode cL_alike 81 = .ok (.invokestatic 129, 3) := by decide +kernel
theorem dL_alike_84 : decode cL_alike 84 = .ok (.aload_n 1, 1) := by decide +kernel
theorem dL_alike_85 : decode cL_alike 85 = .ok (.iload_n 3, 1) := by decide +kernel
theorem dL_alike_86 : decode cL_alike 86 = .ok (.iload 5, 2) := by decide +kernel
theorem dL_alike_88 : decode cL_alike 88 = .ok (.invokestatic 129, 3) := by decide +kernel
theorem dL_alike_91 : decode cL_alike 91 = .ok (.if_icmp .ne 58, 3) := by decide +kernel
theorem dL_alike_94 : decode cL_alike 94 = .ok (.aload_n 0, 1) := by decide +kernel
theorem dL_alike_95 : decode cL_alike 95 = .ok (.iload_n 3, 1) := by decide +kernel
theorem dL_alike_96 : decode cL_alike 96 = .ok (.iload 5, 2) := by decide +kernel
theorem dL_alike_98 : decode cL_alike 98 = .ok (.invokestatic 131, 3) := by decide +kernel
theorem dL_alike_101 : decode cL_alike 101 = .ok (.aload_n 1, 1) := by decide +kernel
theorem dL_alike_102 : decode cL_alike 102 = .ok (.iload_n 3, 1) := by decide +kernel
theorem dL_alike_103 : decode cL_alike 103 = .ok (.iload 5, 2) := by decide +kernel
theorem dL_alike_105 : decode cL_alike 105 = .ok (.invokestatic 131, 3) := by decide +kernel
theorem dL_alike_108 : decode cL_alike 108 = .ok (.if_icmp .ne 41, 3) := by decide +kernel
theorem dL_alike_111 : decode cL_alike 111 = .ok (.aload_n 0, 1) := by decide +kernel
theorem dL_alike_112 : decode cL_alike 112 = .ok (.iload_n 3, 1) := by decide +kernel
theorem dL_alike_113 : decode cL_alike 113 = .ok (.iload 5, 2) := by decide +kernel
theorem dL_alike_115 : decode cL_alike 115 = .ok (.invokestatic 137, 3) := by decide +kernel
theorem dL_alike_118 : decode cL_alike 118 = .ok (.aload_n 1, 1) := by decide +kernel
theorem dL_alike_119 : decode cL_alike 119 = .ok (.iload_n 3, 1) := by decide +kernel
theorem dL_alike_120 : decode cL_alike 120 = .ok (.iload 5, 2) := by decide +kernel
theorem dL_alike_122 : decode cL_alike 122 = .ok (.invokestatic 137, 3) := by decide +kernel
theorem dL_alike_125 : decode cL_alike 125 = .ok (.if_icmp .ne 24, 3) := by decide +kernel
theorem dL_alike_128 : decode cL_alike 128 = .ok (.aload_n 0, 1) := by decide +kernel
theorem dL_alike_129 : decode cL_alike 129 = .ok (.iload_n 3, 1) := by decide +kernel
theorem dL_alike_130 : decode cL_alike 130 = .ok (.iload 5, 2) := by decide +kernel
theorem dL_alike_132 : decode cL_alike 132 = .ok (.invokestatic 144, 3) := by decide +kernel
theorem dL_alike_135 : decode cL_alike 135 = .ok (.aload_n 1, 1) := by decide +kernel
theorem dL_alike_136 : decode cL_alike 136 = .ok (.iload_n 3, 1) := by decide +kernel
theorem dL_alike_137 : decode cL_alike 137 = .ok (.iload 5, 2) := by decide +kernel
theorem dL_alike_139 : decode cL_alike 139 = .ok (.invokestatic 144, 3) := by decide +kernel
theorem dL_alike_142 : decode cL_alike 142 = .ok (.if_icmp .ne 7, 3) := by decide +kernel
theorem dL_alike_145 : decode cL_alike 145 = .ok (.iconst 1, 1) := by decide +kernel
theorem dL_alike_146 : decode cL_alike 146 = .ok (.goto 4, 3) := by decide +kernel
theorem dL_alike_149 : decode cL_alike 149 = .ok (.iconst 0, 1) := by decide +kernel
theorem dL_alike_150 : decode cL_alike 150 = .ok (.istore_n 2, 1) := by decide +kernel
theorem dL_alike_151 : decode cL_alike 151 = .ok (.iinc 5 1, 3) := by decide +kernel
theorem dL_alike_154 : decode cL_alike 154 = .ok (.goto (-88), 3) := by decide +kernel
theorem dL_alike_157 : decode cL_alike 157 = .ok (.iinc 3 1, 3) := by decide +kernel
theorem dL_alike_160 : decode cL_alike 160 = .ok (.goto (-130), 3) := by decide +kernel
theorem dL_alike_163 : decode cL_alike 163 = .ok (.iconst 0, 1) := by decide +kernel
theorem dL_alike_164 : decode cL_alike 164 = .ok (.istore_n 3, 1) := by decide +kernel
theorem dL_alike_165 : decode cL_alike 165 = .ok (.iload_n 3, 1) := by decide +kernel
theorem dL_alike_166 : decode cL_alike 166 = .ok (.aload_n 0, 1) := by decide +kernel
theorem dL_alike_167 : decode cL_alike 167 = .ok (.invokevirtual 86, 3) := by decide +kernel
theorem dL_alike_170 : decode cL_alike 170 = .ok (.if_icmp .ge 64, 3) := by decide +kernel
theorem dL_alike_173 : decode cL_alike 173 = .ok (.iload_n 2, 1) := by decide +kernel
theorem dL_alike_174 : decode cL_alike 174 = .ok (.ifCond .eq 60, 3) := by decide +kernel
theorem dL_alike_177 : decode cL_alike 177 = .ok (.aload_n 0, 1) := by decide +kernel
theorem dL_alike_178 : decode cL_alike 178 = .ok (.iload_n 3, 1) := by decide +kernel
theorem dL_alike_179 : decode cL_alike 179 = .ok (.iconst 0, 1) := by decide +kernel
theorem dL_alike_180 : decode cL_alike 180 = .ok (.invokestatic 99, 3) := by decide +kernel
theorem dL_alike_183 : decode cL_alike 183 = .ok (.aload_n 1, 1) := by decide +kernel
theorem dL_alike_184 : decode cL_alike 184 = .ok (.iload_n 3, 1) := by decide +kernel
theorem dL_alike_185 : decode cL_alike 185 = .ok (.iconst 0, 1) := by decide +kernel
theorem dL_alike_186 : decode cL_alike 186 = .ok (.invokestatic 99, 3) := by decide +kernel
theorem dL_alike_189 : decode cL_alike 189 = .ok (.if_icmp .ne 37, 3) := by decide +kernel
theorem dL_alike_192 : decode cL_alike 192 = .ok (.aload_n 0, 1) := by decide +kernel
theorem dL_alike_193 : decode cL_alike 193 = .ok (.iload_n 3, 1) := by decide +kernel
theorem dL_alike_194 : decode cL_alike 194 = .ok (.iconst 1, 1) := by decide +kernel
theorem dL_alike_195 : decode cL_alike 195 = .ok (.invokestatic 99, 3) := by decide +kernel
theorem dL_alike_198 : decode cL_alike 198 = .ok (.aload_n 1, 1) := by decide +kernel
theorem dL_alike_199 : decode cL_alike 199 = .ok (.iload_n 3, 1) := by decide +kernel
theorem dL_alike_200 : decode cL_alike 200 = .ok (.iconst 1, 1) := by decide +kernel
theorem dL_alike_201 : decode cL_alike 201 = .ok (.invokestatic 99, 3) := by decide +kernel
theorem dL_alike_204 : decode cL_alike 204 = .ok (.if_icmp .ne 22, 3) := by decide +kernel
theorem dL_alike_207 : decode cL_alike 207 = .ok (.aload_n 0, 1) := by decide +kernel
theorem dL_alike_208 : decode cL_alike 208 = .ok (.iload_n 3, 1) := by decide +kernel
theorem dL_alike_209 : decode cL_alike 209 = .ok (.iconst 2, 1) := by decide +kernel
theorem dL_alike_210 : decode cL_alike 210 = .ok (.invokestatic 99, 3) := by decide +kernel
theorem dL_alike_213 : decode cL_alike 213 = .ok (.aload_n 1, 1) := by decide +kernel
theorem dL_alike_214 : decode cL_alike 214 = .ok (.iload_n 3, 1) := by decide +kernel
theorem dL_alike_215 : decode cL_alike 215 = .ok (.iconst 2, 1) := by decide +kernel
theorem dL_alike_216 : decode cL_alike 216 = .ok (.invokestatic 99, 3) := by decide +kernel
theorem dL_alike_219 : decode cL_alike 219 = .ok (.if_icmp .ne 7, 3) := by decide +kernel
theorem dL_alike_222 : decode cL_alike 222 = .ok (.iconst 1, 1) := by decide +kernel
theorem dL_alike_223 : decode cL_alike 223 = .ok (.goto 4, 3) := by decide +kernel
theorem dL_alike_226 : decode cL_alike 226 = .ok (.iconst 0, 1) := by decide +kernel
theorem dL_alike_227 : decode cL_alike 227 = .ok (.istore_n 2, 1) := by decide +kernel
theorem dL_alike_228 : decode cL_alike 228 = .ok (.iinc 3 1, 3) := by decide +kernel
theorem dL_alike_231 : decode cL_alike 231 = .ok (.goto (-66), 3) := by decide +kernel
theorem dL_alike_234 : decode cL_alike 234 = .ok (.iload_n 2, 1) := by decide +kernel
theorem dL_alike_235 : decode cL_alike 235 = .ok (.ireturn, 1) := by decide +kernel
theorem dL_isIn_0 : decode cL_isIn 0 = .ok (.iconst 0, 1) := by decide +kernel
theorem dL_isIn_1 : decode cL_isIn 1 = .ok (.istore_n 3, 1) := by decide +kernel
theorem dL_isIn_2 : decode cL_isIn 2 = .ok (.aload_n 0, 1) := by decide +kernel
theorem dL_isIn_3 : decode cL_isIn 3 = .ok (.iload_n 2, 1) := by decide +kernel
theorem dL_isIn_4 : decode cL_isIn 4 = .ok (.iload_n 3, 1) := by decide +kernel
theorem dL_isIn_5 : decode cL_isIn 5 = .ok (.invokestatic 99, 3) := by decide +kernel
theorem dL_isIn_8 : decode cL_isIn 8 = .ok (.bipush 32, 2) := by decide +kernel
theorem dL_isIn_10 : decode cL_isIn 10 = .ok (.if_icmp .eq 24, 3) := by decide +kernel
theorem dL_isIn_13 : decode cL_isIn 13 = .ok (.aload_n 0, 1) := by decide +kernel
theorem dL_isIn_14 : decode cL_isIn 14 = .ok (.iload_n 2, 1) := by decide +kernel
theorem dL_isIn_15 : decode cL_isIn 15 = .ok (.iload_n 3, 1) := by decide +kernel
theorem dL_isIn_16 : decode cL_isIn 16 = .ok (.invokestatic 99, 3) := by decide +kernel
theorem dL_isIn_19 : decode cL_isIn 19 = .ok (.aload_n 0, 1) := by decide +kernel
theorem dL_isIn_20 : decode cL_isIn 20 = .ok (.iload_n 1, 1) := by decide +kernel
theorem dL_isIn_21 : decode cL_isIn 21 = .ok (.iload_n 3, 1) := by decide +kernel
theorem dL_isIn_22 : decode cL_isIn 22 = .ok (.invokestatic 99, 3) := by decide +kernel
theorem dL_isIn_25 : decode cL_isIn 25 = .ok (.if_icmp .ne 9, 3) := by decide +kernel
theorem dL_isIn_28 : decode cL_isIn 28 = .ok (.iinc 3 1, 3) := by decide +kernel
theorem dL_isIn_31 : decode cL_isIn 31 = .ok (.goto (-29), 3) := by decide +kernel
theorem dL_isIn_34 : decode cL_isIn 34 = .ok (.aload_n 0, 1) := by decide +kernel
theorem dL_isIn_35 : decode cL_isIn 35 = .ok (.iload_n 2, 1) := by decide +kernel
theorem dL_isIn_36 : decode cL_isIn 36 = .ok (.iload_n 3, 1) := by decide +kernel
theorem dL_isIn_37 : decode cL_isIn 37 = .ok (.invokestatic 99, 3) := by decide +kernel
theorem dL_isIn_40 : decode cL_isIn 40 = .ok (.bipush 32, 2) := by decide +kernel
theorem dL_isIn_42 : decode cL_isIn 42 = .ok (.if_icmp .ne 7, 3) := by decide +kernel
theorem dL_isIn_45 : decode cL_isIn 45 = .ok (.iconst 1, 1) := by decide +kernel
theorem dL_isIn_46 : decode cL_isIn 46 = .ok (.goto 4, 3) := by decide +kernel
theorem dL_isIn_49 : decode cL_isIn 49 = .ok (.iconst 0, 1) := by decide +kernel
theorem dL_isIn_50 : decode cL_isIn 50 = .ok (.ireturn, 1) := by decide +kernel
theorem dL_holds_0 : decode cL_holds 0 = .ok (.iconst 0, 1) := by decide +kernel
theorem dL_holds_1 : decode cL_holds 1 = .ok (.istore_n 1, 1) := by decide +kernel
theorem dL_holds_2 : decode cL_holds 2 = .ok (.iconst 0, 1) := by decide +kernel
theorem dL_holds_3 : decode cL_holds 3 = .ok (.istore_n 2, 1) := by decide +kernel
theorem dL_holds_4 : decode cL_holds 4 = .ok (.iconst 0, 1) := by decide +kernel
theorem dL_holds_5 : decode cL_holds 5 = .ok (.istore_n 3, 1) := by decide +kernel
theorem dL_holds_6 : decode cL_holds 6 = .ok (.iconst 1, 1) := by decide +kernel
theorem dL_holds_7 : decode cL_holds 7 = .ok (.istore 4, 2) := by decide +kernel
theorem dL_holds_9 : decode cL_holds 9 = .ok (.iconst 0, 1) := by decide +kernel
theorem dL_holds_10 : decode cL_holds 10 = .ok (.istore 5, 2) := by decide +kernel
theorem dL_holds_12 : decode cL_holds 12 = .ok (.iload 5, 2) := by decide +kernel
theorem dL_holds_14 : decode cL_holds 14 = .ok (.bipush 6, 2) := by decide +kernel
theorem dL_holds_16 : decode cL_holds 16 = .ok (.if_icmp .ge 101, 3) := by decide +kernel
theorem dL_holds_19 : decode cL_holds 19 = .ok (.iload 4, 2) := by decide +kernel
theorem dL_holds_21 : decode cL_holds 21 = .ok (.ifCond .eq 96, 3) := by decide +kernel
theorem dL_holds_24 : decode cL_holds 24 = .ok (.iload_n 1, 1) := by decide +kernel
theorem dL_holds_25 : decode cL_holds 25 = .ok (.aload_n 0, 1) := by decide +kernel
theorem dL_holds_26 : decode cL_holds 26 = .ok (.iconst 0, 1) := by decide +kernel
theorem dL_holds_27 : decode cL_holds 27 = .ok (.iload 5, 2) := by decide +kernel
theorem dL_holds_29 : decode cL_holds 29 = .ok (.invokestatic 129, 3) := by decide +kernel
theorem dL_holds_32 : decode cL_holds 32 = .ok (.iadd, 1) := by decide +kernel
theorem dL_holds_33 : decode cL_holds 33 = .ok (.istore_n 1, 1) := by decide +kernel
theorem dL_holds_34 : decode cL_holds 34 = .ok (.iload_n 3, 1) := by decide +kernel
theorem dL_holds_35 : decode cL_holds 35 = .ok (.aload_n 0, 1) := by decide +kernel
theorem dL_holds_36 : decode cL_holds 36 = .ok (.iconst 0, 1) := by decide +kernel
theorem dL_holds_37 : decode cL_holds 37 = .ok (.iload 5, 2) := by decide +kernel
theorem dL_holds_39 : decode cL_holds 39 = .ok (.invokestatic 131, 3) := by decide +kernel
theorem dL_holds_42 : decode cL_holds 42 = .ok (.iadd, 1) := by decide +kernel
theorem dL_holds_43 : decode cL_holds 43 = .ok (.istore_n 3, 1) := by decide +kernel
theorem dL_holds_44 : decode cL_holds 44 = .ok (.aload_n 0, 1) := by decide +kernel
theorem dL_holds_45 : decode cL_holds 45 = .ok (.iconst 0, 1) := by decide +kernel
theorem dL_holds_46 : decode cL_holds 46 = .ok (.iload 5, 2) := by decide +kernel
theorem dL_holds_48 : decode cL_holds 48 = .ok (.invokestatic 129, 3) := by decide +kernel
theorem dL_holds_51 : decode cL_holds 51 = .ok (.ifCond .lt 57, 3) := by decide +kernel
theorem dL_holds_54 : decode cL_holds 54 = .ok (.aload_n 0, 1) := by decide +kernel
theorem dL_holds_55 : decode cL_holds 55 = .ok (.iconst 0, 1) := by decide +kernel
theorem dL_holds_56 : decode cL_holds 56 = .ok (.iload 5, 2) := by decide +kernel
theorem dL_holds_58 : decode cL_holds 58 = .ok (.invokestatic 131, 3) := by decide +kernel
theorem dL_holds_61 : decode cL_holds 61 = .ok (.ifCond .lt 47, 3) := by decide +kernel
theorem dL_holds_64 : decode cL_holds 64 = .ok (.aload_n 0, 1) := by decide +kernel
theorem dL_holds_65 : decode cL_holds 65 = .ok (.iconst 0, 1) := by decide +kernel
theorem dL_holds_66 : decode cL_holds 66 = .ok (.iload 5, 2) := by decide +kernel
theorem dL_holds_68 : decode cL_holds 68 = .ok (.invokestatic 129, 3) := by decide +kernel
theorem dL_holds_71 : decode cL_holds 71 = .ok (.aload_n 0, 1) := by decide +kernel
theorem dL_holds_72 : decode cL_holds 72 = .ok (.iconst 0, 1) := by decide +kernel
theorem dL_holds_73 : decode cL_holds 73 = .ok (.iload 5, 2) := by decide +kernel
theorem dL_holds_75 : decode cL_holds 75 = .ok (.invokestatic 134, 3) := by decide +kernel
theorem dL_holds_78 : decode cL_holds 78 = .ok (.if_icmp .ne 30, 3) := by decide +kernel
theorem dL_holds_81 : decode cL_holds 81 = .ok (.aload_n 0, 1) := by decide +kernel
theorem dL_holds_82 : decode cL_holds 82 = .ok (.iconst 0, 1) := by decide +kernel
theorem dL_holds_83 : decode cL_holds 83 = .ok (.iload 5, 2) := by decide +kernel
theorem dL_holds_85 : decode cL_holds 85 = .ok (.invokestatic 137, 3) := by decide +kernel
theorem dL_holds_88 : decode cL_holds 88 = .ok (.iconst (-1), 1) := by decide +kernel
theorem dL_holds_89 : decode cL_holds 89 = .ok (.if_icmp .lt 19, 3) := by decide +kernel
theorem dL_holds_92 : decode cL_holds 92 = .ok (.aload_n 0, 1) := by decide +kernel
theorem dL_holds_93 : decode cL_holds 93 = .ok (.iconst 0, 1) := by decide +kernel
theorem dL_holds_94 : decode cL_holds 94 = .ok (.iload 5, 2) := by decide +kernel
theorem dL_holds_96 : decode cL_holds 96 = .ok (.invokestatic 137, 3) := by decide +kernel
theorem dL_holds_99 : decode cL_holds 99 = .ok (.bipush 48, 2) := by decide +kernel
theorem dL_holds_101 : decode cL_holds 101 = .ok (.if_icmp .gt 7, 3) := by decide +kernel
theorem dL_holds_104 : decode cL_holds 104 = .ok (.iconst 1, 1) := by decide +kernel
theorem dL_holds_105 : decode cL_holds 105 = .ok (.goto 4, 3) := by decide +kernel
theorem dL_holds_108 : decode cL_holds 108 = .ok (.iconst 0, 1) := by decide +kernel
theorem dL_holds_109 : decode cL_holds 109 = .ok (.istore 4, 2) := by decide +kernel
theorem dL_holds_111 : decode cL_holds 111 = .ok (.iinc 5 1, 3) := by decide +kernel
theorem dL_holds_114 : decode cL_holds 114 = .ok (.goto (-102), 3) := by decide +kernel
theorem dL_holds_117 : decode cL_holds 117 = .ok (.iconst 0, 1) := by decide +kernel
theorem dL_holds_118 : decode cL_holds 118 = .ok (.istore 5, 2) := by decide +kernel
theorem dL_holds_120 : decode cL_holds 120 = .ok (.iload 5, 2) := by decide +kernel
theorem dL_holds_122 : decode cL_holds 122 = .ok (.iconst 3, 1) := by decide +kernel
theorem dL_holds_123 : decode cL_holds 123 = .ok (.if_icmp .ge 85, 3) := by decide +kernel
theorem dL_holds_126 : decode cL_holds 126 = .ok (.iload 4, 2) := by decide +kernel
theorem dL_holds_128 : decode cL_holds 128 = .ok (.ifCond .eq 80, 3) := by decide +kernel
theorem dL_holds_131 : decode cL_holds 131 = .ok (.iload_n 2, 1) := by decide +kernel
theorem dL_holds_132 : decode cL_holds 132 = .ok (.aload_n 0, 1) := by decide +kernel
theorem dL_holds_133 : decode cL_holds 133 = .ok (.iconst 1, 1) := by decide +kernel
theorem dL_holds_134 : decode cL_holds 134 = .ok (.iload 5, 2) := by decide +kernel
theorem dL_holds_136 : decode cL_holds 136 = .ok (.invokestatic 129, 3) := by decide +kernel
theorem dL_holds_139 : decode cL_holds 139 = .ok (.iadd, 1) := by decide +kernel
theorem dL_holds_140 : decode cL_holds 140 = .ok (.istore_n 2, 1) := by decide +kernel
theorem dL_holds_141 : decode cL_holds 141 = .ok (.aload_n 0, 1) := by decide +kernel
theorem dL_holds_142 : decode cL_holds 142 = .ok (.iconst 1, 1) := by decide +kernel
theorem dL_holds_143 : decode cL_holds 143 = .ok (.iload 5, 2) := by decide +kernel
theorem dL_holds_145 : decode cL_holds 145 = .ok (.invokestatic 129, 3) := by decide +kernel
theorem dL_holds_148 : decode cL_holds 148 = .ok (.aload_n 0, 1) := by decide +kernel
theorem dL_holds_149 : decode cL_holds 149 = .ok (.iconst 0, 1) := by decide +kernel
theorem dL_holds_150 : decode cL_holds 150 = .ok (.iload 5, 2) := by decide +kernel
theorem dL_holds_152 : decode cL_holds 152 = .ok (.invokestatic 129, 3) := by decide +kernel
theorem dL_holds_155 : decode cL_holds 155 = .ok (.aload_n 0, 1) := by decide +kernel
theorem dL_holds_156 : decode cL_holds 156 = .ok (.iconst 0, 1) := by decide +kernel
theorem dL_holds_157 : decode cL_holds 157 = .ok (.iload 5, 2) := by decide +kernel
theorem dL_holds_159 : decode cL_holds 159 = .ok (.iconst 3, 1) := by decide +kernel
theorem dL_holds_160 : decode cL_holds 160 = .ok (.iadd, 1) := by decide +kernel
theorem dL_holds_161 : decode cL_holds 161 = .ok (.invokestatic 129, 3) := by decide +kernel
theorem dL_holds_164 : decode cL_holds 164 = .ok (.iadd, 1) := by decide +kernel
theorem dL_holds_165 : decode cL_holds 165 = .ok (.if_icmp .ne 34, 3) := by decide +kernel
theorem dL_holds_168 : decode cL_holds 168 = .ok (.aload_n 0, 1) := by decide +kernel
theorem dL_holds_169 : decode cL_holds 169 = .ok (.iconst 1, 1) := by decide +kernel
theorem dL_holds_170 : decode cL_holds 170 = .ok (.iload 5, 2) := by decide +kernel
theorem dL_holds_172 : decode cL_holds 172 = .ok (.invokestatic 131, 3) := by decide +kernel
theorem dL_holds_175 : decode cL_holds 175 = .ok (.aload_n 0, 1) := by decide +kernel
theorem dL_holds_176 : decode cL_holds 176 = .ok (.iconst 0, 1) := by decide +kernel
theorem dL_holds_177 : decode cL_holds 177 = .ok (.iload 5, 2) := by decide +kernel
theorem dL_holds_179 : decode cL_holds 179 = .ok (.invokestatic 131, 3) := by decide +kernel
theorem dL_holds_182 : decode cL_holds 182 = .ok (.aload_n 0, 1) := by decide +kernel
theorem dL_holds_183 : decode cL_holds 183 = .ok (.iconst 0, 1) := by decide +kernel
theorem dL_holds_184 : decode cL_holds 184 = .ok (.iload 5, 2) := by decide +kernel
theorem dL_holds_186 : decode cL_holds 186 = .ok (.iconst 3, 1) := by decide +kernel
theorem dL_holds_187 : decode cL_holds 187 = .ok (.iadd, 1) := by decide +kernel
theorem dL_holds_188 : decode cL_holds 188 = .ok (.invokestatic 131, 3) := by decide +kernel
theorem dL_holds_191 : decode cL_holds 191 = .ok (.iadd, 1) := by decide +kernel
theorem dL_holds_192 : decode cL_holds 192 = .ok (.if_icmp .ne 7, 3) := by decide +kernel
theorem dL_holds_195 : decode cL_holds 195 = .ok (.iconst 1, 1) := by decide +kernel
theorem dL_holds_196 : decode cL_holds 196 = .ok (.goto 4, 3) := by decide +kernel
theorem dL_holds_199 : decode cL_holds 199 = .ok (.iconst 0, 1) := by decide +kernel
theorem dL_holds_200 : decode cL_holds 200 = .ok (.istore 4, 2) := by decide +kernel
theorem dL_holds_202 : decode cL_holds 202 = .ok (.iinc 5 1, 3) := by decide +kernel
theorem dL_holds_205 : decode cL_holds 205 = .ok (.goto (-85), 3) := by decide +kernel
theorem dL_holds_208 : decode cL_holds 208 = .ok (.iload 4, 2) := by decide +kernel
theorem dL_holds_210 : decode cL_holds 210 = .ok (.ifCond .eq 43, 3) := by decide +kernel
theorem dL_holds_213 : decode cL_holds 213 = .ok (.iload_n 1, 1) := by decide +kernel
theorem dL_holds_214 : decode cL_holds 214 = .ok (.aload_n 0, 1) := by decide +kernel
theorem dL_holds_215 : decode cL_holds 215 = .ok (.iconst 2, 1) := by decide +kernel
theorem dL_holds_216 : decode cL_holds 216 = .ok (.iconst 0, 1) := by decide +kernel
theorem dL_holds_217 : decode cL_holds 217 = .ok (.invokestatic 129, 3) := by decide +kernel
theorem dL_holds_220 : decode cL_holds 220 = .ok (.if_icmp .ne 33, 3) := by decide +kernel
theorem dL_holds_223 : decode cL_holds 223 = .ok (.iload_n 2, 1) := by decide +kernel
theorem dL_holds_224 : decode cL_holds 224 = .ok (.iload_n 1, 1) := by decide +kernel
theorem dL_holds_225 : decode cL_holds 225 = .ok (.if_icmp .ne 28, 3) := by decide +kernel
theorem dL_holds_228 : decode cL_holds 228 = .ok (.iload_n 3, 1) := by decide +kernel
theorem dL_holds_229 : decode cL_holds 229 = .ok (.aload_n 0, 1) := by decide +kernel
theorem dL_holds_230 : decode cL_holds 230 = .ok (.iconst 2, 1) := by decide +kernel
theorem dL_holds_231 : decode cL_holds 231 = .ok (.iconst 0, 1) := by decide +kernel
theorem dL_holds_232 : decode cL_holds 232 = .ok (.invokestatic 131, 3) := by decide +kernel
theorem dL_holds_235 : decode cL_holds 235 = .ok (.if_icmp .ne 18, 3) := by decide +kernel
theorem dL_holds_238 : decode cL_holds 238 = .ok (.aload_n 0, 1) := by decide +kernel
theorem dL_holds_239 : decode cL_holds 239 = .ok (.iconst 0, 1) := by decide +kernel
theorem dL_holds_240 : decode cL_holds 240 = .ok (.iconst 0, 1) := by decide +kernel
theorem dL_holds_241 : decode cL_holds 241 = .ok (.invokestatic 99, 3) := by decide +kernel
theorem dL_holds_244 : decode cL_holds 244 = .ok (.bipush 32, 2) := by decide +kernel
theorem dL_holds_246 : decode cL_holds 246 = .ok (.if_icmp .ne 7, 3) := by decide +kernel
theorem dL_holds_249 : decode cL_holds 249 = .ok (.iconst 1, 1) := by decide +kernel
theorem dL_holds_250 : decode cL_holds 250 = .ok (.goto 4, 3) := by decide +kernel
theorem dL_holds_253 : decode cL_holds 253 = .ok (.iconst 0, 1) := by decide +kernel
theorem dL_holds_254 : decode cL_holds 254 = .ok (.istore 4, 2) := by decide +kernel
theorem dL_holds_256 : decode cL_holds 256 = .ok (.iconst 0, 1) := by decide +kernel
theorem dL_holds_257 : decode cL_holds 257 = .ok (.istore 5, 2) := by decide +kernel
theorem dL_holds_259 : decode cL_holds 259 = .ok (.iload 5, 2) := by decide +kernel
theorem dL_holds_261 : decode cL_holds 261 = .ok (.aload_n 0, 1) := by decide +kernel
theorem dL_holds_262 : decode cL_holds 262 = .ok (.invokevirtual 86, 3) := by decide +kernel
theorem dL_holds_265 : decode cL_holds 265 = .ok (.if_icmp .ge 196, 3) := by decide +kernel
theorem dL_holds_268 : decode cL_holds 268 = .ok (.iload 4, 2) := by decide +kernel
theorem dL_holds_270 : decode cL_holds 270 = .ok (.ifCond .eq 191, 3) := by decide +kernel
theorem dL_holds_273 : decode cL_holds 273 = .ok (.iconst 0, 1) := by decide +kernel
theorem dL_holds_274 : decode cL_holds 274 = .ok (.istore 6, 2) := by decide +kernel
theorem dL_holds_276 : decode cL_holds 276 = .ok (.iconst 0, 1) := by decide +kernel
theorem dL_holds_277 : decode cL_holds 277 = .ok (.istore 7, 2) := by decide +kernel
theorem dL_holds_279 : decode cL_holds 279 = .ok (.aload_n 0, 1) := by decide +kernel
theorem dL_holds_280 : decode cL_holds 280 = .ok (.iload 5, 2) := by decide +kernel
theorem dL_holds_282 : decode cL_holds 282 = .ok (.iload 7, 2) := by decide +kernel
theorem dL_holds_284 : decode cL_holds 284 = .ok (.invokestatic 99, 3) := by decide +kernel
theorem dL_holds_287 : decode cL_holds 287 = .ok (.bipush 32, 2) := by decide +kernel
theorem dL_holds_289 : decode cL_holds 289 = .ok (.if_icmp .eq 9, 3) := by decide +kernel
theorem dL_holds_292 : decode cL_holds 292 = .ok (.iinc 7 1, 3) := by decide +kernel
theorem dL_holds_295 : decode cL_holds 295 = .ok (.goto (-16), 3) := by decide +kernel
theorem dL_holds_298 : decode cL_holds 298 = .ok (.iconst 0, 1) := by decide +kernel
theorem dL_holds_299 : decode cL_holds 299 = .ok (.istore 8, 2) := by decide +kernel
theorem dL_holds_301 : decode cL_holds 301 = .ok (.iload 8, 2) := by decide +kernel
theorem dL_holds_303 : decode cL_holds 303 = .ok (.aload_n 0, 1) := by decide +kernel
theorem dL_holds_304 : decode cL_holds 304 = .ok (.invokevirtual 86, 3) := by decide +kernel
theorem dL_holds_307 : decode cL_holds 307 = .ok (.if_icmp .ge 103, 3) := by decide +kernel
theorem dL_holds_310 : decode cL_holds 310 = .ok (.iload 4, 2) := by decide +kernel
theorem dL_holds_312 : decode cL_holds 312 = .ok (.ifCond .eq 98, 3) := by decide +kernel
theorem dL_holds_315 : decode cL_holds 315 = .ok (.aload_n 0, 1) := by decide +kernel
theorem dL_holds_316 : decode cL_holds 316 = .ok (.iload 5, 2) := by decide +kernel
theorem dL_holds_318 : decode cL_holds 318 = .ok (.iload 8, 2) := by decide +kernel
theorem dL_holds_320 : decode cL_holds 320 = .ok (.invokestatic 162, 3) := by decide +kernel
theorem dL_holds_323 : decode cL_holds 323 = .ok (.istore 9, 2) := by decide +kernel
theorem dL_holds_325 : decode cL_holds 325 = .ok (.iload 6, 2) := by decide +kernel
theorem dL_holds_327 : decode cL_holds 327 = .ok (.iload 9, 2) := by decide +kernel
theorem dL_holds_329 : decode cL_holds 329 = .ok (.ifCond .eq 7, 3) := by decide +kernel
theorem dL_holds_332 : decode cL_holds 332 = .ok (.iconst 1, 1) := by decide +kernel
theorem dL_holds_333 : decode cL_holds 333 = .ok (.goto 4, 3) := by decide +kernel
theorem dL_holds_336 : decode cL_holds 336 = .ok (.iconst 0, 1) := by decide +kernel
theorem dL_holds_337 : decode cL_holds 337 = .ok (.iadd, 1) := by decide +kernel
theorem dL_holds_338 : decode cL_holds 338 = .ok (.istore 6, 2) := by decide +kernel
theorem dL_holds_340 : decode cL_holds 340 = .ok (.iload 9, 2) := by decide +kernel
theorem dL_holds_342 : decode cL_holds 342 = .ok (.ifCond .eq 55, 3) := by decide +kernel
theorem dL_holds_345 : decode cL_holds 345 = .ok (.aload_n 0, 1) := by decide +kernel
theorem dL_holds_346 : decode cL_holds 346 = .ok (.iconst 2, 1) := by decide +kernel
theorem dL_holds_347 : decode cL_holds 347 = .ok (.iload 5, 2) := by decide +kernel
theorem dL_holds_349 : decode cL_holds 349 = .ok (.invokestatic 129, 3) := by decide +kernel
theorem dL_holds_352 : decode cL_holds 352 = .ok (.aload_n 0, 1) := by decide +kernel
theorem dL_holds_353 : decode cL_holds 353 = .ok (.iconst 2, 1) := by decide +kernel
theorem dL_holds_354 : decode cL_holds 354 = .ok (.iload 8, 2) := by decide +kernel
theorem dL_holds_356 : decode cL_holds 356 = .ok (.invokestatic 129, 3) := by decide +kernel
theorem dL_holds_359 : decode cL_holds 359 = .ok (.if_icmp .gt 42, 3) := by decide +kernel
theorem dL_holds_362 : decode cL_holds 362 = .ok (.aload_n 0, 1) := by decide +kernel
theorem dL_holds_363 : decode cL_holds 363 = .ok (.iconst 2, 1) := by decide +kernel
theorem dL_holds_364 : decode cL_holds 364 = .ok (.iload 5, 2) := by decide +kernel
theorem dL_holds_366 : decode cL_holds 366 = .ok (.invokestatic 131, 3) := by decide +kernel
theorem dL_holds_369 : decode cL_holds 369 = .ok (.aload_n 0, 1) := by decide +kernel
theorem dL_holds_370 : decode cL_holds 370 = .ok (.iconst 2, 1) := by decide +kernel
theorem dL_holds_371 : decode cL_holds 371 = .ok (.iload 8, 2) := by decide +kernel
theorem dL_holds_373 : decode cL_holds 373 = .ok (.invokestatic 131, 3) := by decide +kernel
theorem dL_holds_376 : decode cL_holds 376 = .ok (.if_icmp .gt 25, 3) := by decide +kernel
theorem dL_holds_379 : decode cL_holds 379 = .ok (.iload 8, 2) := by decide +kernel
theorem dL_holds_381 : decode cL_holds 381 = .ok (.iload 5, 2) := by decide +kernel
theorem dL_holds_383 : decode cL_holds 383 = .ok (.if_icmp .eq 14, 3) := by decide +kernel
theorem dL_holds_386 : decode cL_holds 386 = .ok (.aload_n 0, 1) := by decide +kernel
theorem dL_holds_387 : decode cL_holds 387 = .ok (.iload 8, 2) := by decide +kernel
theorem dL_holds_389 : decode cL_holds 389 = .ok (.iload 5, 2) := by decide +kernel
theorem dL_holds_391 : decode cL_holds 391 = .ok (.invokestatic 162, 3) := by decide +kernel
theorem dL_holds_394 : decode cL_holds 394 = .ok (.ifCond .ne 7, 3) := by decide +kernel
theorem dL_holds_397 : decode cL_holds 397 = .ok (.iconst 1, 1) := by decide +kernel
theorem dL_holds_398 : decode cL_holds 398 = .ok (.goto 4, 3) := by decide +kernel
theorem dL_holds_401 : decode cL_holds 401 = .ok (.iconst 0, 1) := by decide +kernel
theorem dL_holds_402 : decode cL_holds 402 = .ok (.istore 4, 2) := by decide +kernel
theorem dL_holds_404 : decode cL_holds 404 = .ok (.iinc 8 1, 3) := by decide +kernel
theorem dL_holds_407 : decode cL_holds 407 = .ok (.goto (-106), 3) := by decide +kernel
theorem dL_holds_410 : decode cL_holds 410 = .ok (.iload 4, 2) := by decide +kernel
theorem dL_holds_412 : decode cL_holds 412 = .ok (.ifCond .eq 40, 3) := by decide +kernel
theorem dL_holds_415 : decode cL_holds 415 = .ok (.iload 7, 2) := by decide +kernel
theorem dL_holds_417 : decode cL_holds 417 = .ok (.bipush 8, 2) := by decide +kernel
theorem dL_holds_419 : decode cL_holds 419 = .ok (.if_icmp .gt 33, 3) := by decide +kernel
theorem dL_holds_422 : decode cL_holds 422 = .ok (.iload 6, 2) := by decide +kernel
theorem dL_holds_424 : decode cL_holds 424 = .ok (.iload 7, 2) := by decide +kernel
theorem dL_holds_426 : decode cL_holds 426 = .ok (.iconst 1, 1) := by decide +kernel
theorem dL_holds_427 : decode cL_holds 427 = .ok (.iadd, 1) := by decide +kernel
theorem dL_holds_428 : decode cL_holds 428 = .ok (.if_icmp .ne 24, 3) := by decide +kernel
theorem dL_holds_431 : decode cL_holds 431 = .ok (.aload_n 0, 1) := by decide +kernel
theorem dL_holds_432 : decode cL_holds 432 = .ok (.iconst 2, 1) := by decide +kernel
theorem dL_holds_433 : decode cL_holds 433 = .ok (.iload 5, 2) := by decide +kernel
theorem dL_holds_435 : decode cL_holds 435 = .ok (.invokestatic 129, 3) := by decide +kernel
theorem dL_holds_438 : decode cL_holds 438 = .ok (.aload_n 0, 1) := by decide +kernel
theorem dL_holds_439 : decode cL_holds 439 = .ok (.iconst 2, 1) := by decide +kernel
theorem dL_holds_440 : decode cL_holds 440 = .ok (.iload 5, 2) := by decide +kernel
theorem dL_holds_442 : decode cL_holds 442 = .ok (.invokestatic 134, 3) := by decide +kernel
theorem dL_holds_445 : decode cL_holds 445 = .ok (.if_icmp .ne 7, 3) := by decide +kernel
theorem dL_holds_448 : decode cL_holds 448 = .ok (.iconst 1, 1) := by decide +kernel
theorem dL_holds_449 : decode cL_holds 449 = .ok (.goto 4, 3) := by decide +kernel
theorem dL_holds_452 : decode cL_holds 452 = .ok (.iconst 0, 1) := by decide +kernel
theorem dL_holds_453 : decode cL_holds 453 = .ok (.istore 4, 2) := by decide +kernel
theorem dL_holds_455 : decode cL_holds 455 = .ok (.iinc 5 1, 3) := by decide +kernel
theorem dL_holds_458 : decode cL_holds 458 = .ok (.goto (-199), 3) := by decide +kernel
theorem dL_holds_461 : decode cL_holds 461 = .ok (.iload 4, 2) := by decide +kernel
theorem dL_holds_463 : decode cL_holds 463 = .ok (.ireturn, 1) := by decide +kernel
theorem dL_isFound_0 : decode cL_isFound 0 = .ok (.aload_n 0, 1) := by decide +kernel
theorem dL_isFound_1 : decode cL_isFound 1 = .ok (.invokevirtual 159, 3) := by decide +kernel
theorem dL_isFound_4 : decode cL_isFound 4 = .ok (.istore_n 2, 1) := by decide +kernel
theorem dL_isFound_5 : decode cL_isFound 5 = .ok (.aload_n 0, 1) := by decide +kernel
theorem dL_isFound_6 : decode cL_isFound 6 = .ok (.iconst 2, 1) := by decide +kernel
theorem dL_isFound_7 : decode cL_isFound 7 = .ok (.iconst 0, 1) := by decide +kernel
theorem dL_isFound_8 : decode cL_isFound 8 = .ok (.invokestatic 144, 3) := by decide +kernel
theorem dL_isFound_11 : decode cL_isFound 11 = .ok (.ifCond .ne 7, 3) := by decide +kernel
theorem dL_isFound_14 : decode cL_isFound 14 = .ok (.iconst 1, 1) := by decide +kernel
theorem dL_isFound_15 : decode cL_isFound 15 = .ok (.goto 4, 3) := by decide +kernel
theorem dL_isFound_18 : decode cL_isFound 18 = .ok (.iconst 0, 1) := by decide +kernel
theorem dL_isFound_19 : decode cL_isFound 19 = .ok (.istore_n 3, 1) := by decide +kernel
theorem dL_isFound_20 : decode cL_isFound 20 = .ok (.iload_n 2, 1) := by decide +kernel
theorem dL_isFound_21 : decode cL_isFound 21 = .ok (.istore 4, 2) := by decide +kernel
theorem dL_isFound_23 : decode cL_isFound 23 = .ok (.iload 4, 2) := by decide +kernel
theorem dL_isFound_25 : decode cL_isFound 25 = .ok (.ifCond .le 57, 3) := by decide +kernel
theorem dL_isFound_28 : decode cL_isFound 28 = .ok (.iload_n 3, 1) := by decide +kernel
theorem dL_isFound_29 : decode cL_isFound 29 = .ok (.ifCond .eq 53, 3) := by decide +kernel
theorem dL_isFound_32 : decode cL_isFound 32 = .ok (.iconst 1, 1) := by decide +kernel
theorem dL_isFound_33 : decode cL_isFound 33 = .ok (.iload_n 1, 1) := by decide +kernel
theorem dL_isFound_34 : decode cL_isFound 34 = .ok (.bipush 7, 2) := by decide +kernel
theorem dL_isFound_36 : decode cL_isFound 36 = .ok (.irem, 1) := by decide +kernel
theorem dL_isFound_37 : decode cL_isFound 37 = .ok (.iadd, 1) := by decide +kernel
theorem dL_isFound_38 : decode cL_isFound 38 = .ok (.istore 5, 2) := by decide +kernel
theorem dL_isFound_40 : decode cL_isFound 40 = .ok (.aload_n 0, 1) := by decide +kernel
theorem dL_isFound_41 : decode cL_isFound 41 = .ok (.iload 5, 2) := by decide +kernel
theorem dL_isFound_43 : decode cL_isFound 43 = .ok (.invokestatic 141, 3) := by decide +kernel
theorem dL_isFound_46 : decode cL_isFound 46 = .ok (.istore 6, 2) := by decide +kernel
theorem dL_isFound_48 : decode cL_isFound 48 = .ok (.iload 6, 2) := by decide +kernel
theorem dL_isFound_50 : decode cL_isFound 50 = .ok (.iload 4, 2) := by decide +kernel
theorem dL_isFound_52 : decode cL_isFound 52 = .ok (.iload 5, 2) := by decide +kernel
theorem dL_isFound_54 : decode cL_isFound 54 = .ok (.if_icmp .le 11, 3) := by decide +kernel
theorem dL_isFound_57 : decode cL_isFound 57 = .ok (.iload 4, 2) := by decide +kernel
theorem dL_isFound_59 : decode cL_isFound 59 = .ok (.iload 5, 2) := by decide +kernel
theorem dL_isFound_61 : decode cL_isFound 61 = .ok (.isub, 1) := by decide +kernel
theorem dL_isFound_62 : decode cL_isFound 62 = .ok (.goto 4, 3) := by decide +kernel
theorem dL_isFound_65 : decode cL_isFound 65 = .ok (.iconst 0, 1) := by decide +kernel
theorem dL_isFound_66 : decode cL_isFound 66 = .ok (.if_icmp .ne 7, 3) := by decide +kernel
theorem dL_isFound_69 : decode cL_isFound 69 = .ok (.iconst 1, 1) := by decide +kernel
theorem dL_isFound_70 : decode cL_isFound 70 = .ok (.goto 4, 3) := by decide +kernel
theorem dL_isFound_73 : decode cL_isFound 73 = .ok (.iconst 0, 1) := by decide +kernel
theorem dL_isFound_74 : decode cL_isFound 74 = .ok (.istore_n 3, 1) := by decide +kernel
theorem dL_isFound_75 : decode cL_isFound 75 = .ok (.iload 6, 2) := by decide +kernel
theorem dL_isFound_77 : decode cL_isFound 77 = .ok (.istore 4, 2) := by decide +kernel
theorem dL_isFound_79 : decode cL_isFound 79 = .ok (.goto (-56), 3) := by decide +kernel
theorem dL_isFound_82 : decode cL_isFound 82 = .ok (.iconst 0, 1) := by decide +kernel
theorem dL_isFound_83 : decode cL_isFound 83 = .ok (.istore 5, 2) := by decide +kernel
theorem dL_isFound_85 : decode cL_isFound 85 = .ok (.iload 5, 2) := by decide +kernel
theorem dL_isFound_87 : decode cL_isFound 87 = .ok (.iconst 3, 1) := by decide +kernel
theorem dL_isFound_88 : decode cL_isFound 88 = .ok (.if_icmp .ge 84, 3) := by decide +kernel
theorem dL_isFound_91 : decode cL_isFound 91 = .ok (.iload_n 3, 1) := by decide +kernel
theorem dL_isFound_92 : decode cL_isFound 92 = .ok (.ifCond .eq 80, 3) := by decide +kernel
theorem dL_isFound_95 : decode cL_isFound 95 = .ok (.iload 5, 2) := by decide +kernel
theorem dL_isFound_97 : decode cL_isFound 97 = .ok (.ifCond .ne 8, 3) := by decide +kernel
theorem dL_isFound_100 : decode cL_isFound 100 = .ok (.bipush 6, 2) := by decide +kernel
theorem dL_isFound_102 : decode cL_isFound 102 = .ok (.goto 17, 3) := by decide +kernel
theorem dL_isFound_105 : decode cL_isFound 105 = .ok (.iload 5, 2) := by decide +kernel
theorem dL_isFound_107 : decode cL_isFound 107 = .ok (.iconst 1, 1) := by decide +kernel
theorem dL_isFound_108 : decode cL_isFound 108 = .ok (.if_icmp .ne 7, 3) := by decide +kernel
theorem dL_isFound_111 : decode cL_isFound 111 = .ok (.iconst 3, 1) := by decide +kernel
theorem dL_isFound_112 : decode cL_isFound 112 = .ok (.goto 7, 3) := by decide +kernel
theorem dL_isFound_115 : decode cL_isFound 115 = .ok (.aload_n 0, 1) := by decide +kernel
theorem dL_isFound_116 : decode cL_isFound 116 = .ok (.invokevirtual 86, 3) := by decide +kernel
theorem dL_isFound_119 : decode cL_isFound 119 = .ok (.istore 6, 2) := by decide +kernel
theorem dL_isFound_121 : decode cL_isFound 121 = .ok (.iconst 0, 1) := by decide +kernel
theorem dL_isFound_122 : decode cL_isFound 122 = .ok (.istore 7, 2) := by decide +kernel
theorem dL_isFound_124 : decode cL_isFound 124 = .ok (.iload 7, 2) := by decide +kernel
theorem dL_isFound_126 : decode cL_isFound 126 = .ok (.iload 6, 2) := by decide +kernel
theorem dL_isFound_128 : decode cL_isFound 128 = .ok (.if_icmp .ge 38, 3) := by decide +kernel
theorem dL_isFound_131 : decode cL_isFound 131 = .ok (.iload_n 3, 1) := by decide +kernel
theorem dL_isFound_132 : decode cL_isFound 132 = .ok (.ifCond .eq 34, 3) := by decide +kernel
theorem dL_isFound_135 : decode cL_isFound 135 = .ok (.aload_n 0, 1) := by decide +kernel
theorem dL_isFound_136 : decode cL_isFound 136 = .ok (.iload 5, 2) := by decide +kernel
theorem dL_isFound_138 : decode cL_isFound 138 = .ok (.iload 7, 2) := by decide +kernel
theorem dL_isFound_140 : decode cL_isFound 140 = .ok (.invokestatic 144, 3) := by decide +kernel
theorem dL_isFound_143 : decode cL_isFound 143 = .ok (.aload_n 0, 1) := by decide +kernel
theorem dL_isFound_144 : decode cL_isFound 144 = .ok (.iload 5, 2) := by decide +kernel
theorem dL_isFound_146 : decode cL_isFound 146 = .ok (.iload 7, 2) := by decide +kernel
theorem dL_isFound_148 : decode cL_isFound 148 = .ok (.invokestatic 129, 3) := by decide +kernel
theorem dL_isFound_151 : decode cL_isFound 151 = .ok (.if_icmp .ne 7, 3) := by decide +kernel
theorem dL_isFound_154 : decode cL_isFound 154 = .ok (.iconst 1, 1) := by decide +kernel
theorem dL_isFound_155 : decode cL_isFound 155 = .ok (.goto 4, 3) := by decide +kernel
theorem dL_isFound_158 : decode cL_isFound 158 = .ok (.iconst 0, 1) := by decide +kernel
theorem dL_isFound_159 : decode cL_isFound 159 = .ok (.istore_n 3, 1) := by decide +kernel
theorem dL_isFound_160 : decode cL_isFound 160 = .ok (.iinc 7 1, 3) := by decide +kernel
theorem dL_isFound_163 : decode cL_isFound 163 = .ok (.goto (-39), 3) := by decide +kernel
theorem dL_isFound_166 : decode cL_isFound 166 = .ok (.iinc 5 1, 3) := by decide +kernel
theorem dL_isFound_169 : decode cL_isFound 169 = .ok (.goto (-84), 3) := by decide +kernel
theorem dL_isFound_172 : decode cL_isFound 172 = .ok (.iload_n 3, 1) := by decide +kernel
theorem dL_isFound_173 : decode cL_isFound 173 = .ok (.ireturn, 1) := by decide +kernel
theorem dL_law_0 : decode cL_law 0 = .ok (.new 8, 3) := by decide +kernel
theorem dL_law_3 : decode cL_law 3 = .ok (.dup, 1) := by decide +kernel
theorem dL_law_4 : decode cL_law 4 = .ok (.invokespecial 166, 3) := by decide +kernel
theorem dL_law_7 : decode cL_law 7 = .ok (.astore_n 1, 1) := by decide +kernel
theorem dL_law_8 : decode cL_law 8 = .ok (.new 8, 3) := by decide +kernel
theorem dL_law_11 : decode cL_law 11 = .ok (.dup, 1) := by decide +kernel
theorem dL_law_12 : decode cL_law 12 = .ok (.invokespecial 166, 3) := by decide +kernel
theorem dL_law_15 : decode cL_law 15 = .ok (.astore_n 2, 1) := by decide +kernel
theorem dL_law_16 : decode cL_law 16 = .ok (.bipush 40, 2) := by decide +kernel
theorem dL_law_18 : decode cL_law 18 = .ok (.newarray .int, 2) := by decide +kernel
theorem dL_law_20 : decode cL_law 20 = .ok (.astore_n 3, 1) := by decide +kernel
theorem dL_law_21 : decode cL_law 21 = .ok (.iconst 0, 1) := by decide +kernel
theorem dL_law_22 : decode cL_law 22 = .ok (.istore 4, 2) := by decide +kernel
theorem dL_law_24 : decode cL_law 24 = .ok (.bipush 20, 2) := by decide +kernel
theorem dL_law_26 : decode cL_law 26 = .ok (.aload_n 0, 1) := by decide +kernel
theorem dL_law_27 : decode cL_law 27 = .ok (.iconst 0, 1) := by decide +kernel
theorem dL_law_28 : decode cL_law 28 = .ok (.invokestatic 167, 3) := by decide +kernel
theorem dL_law_31 : decode cL_law 31 = .ok (.bipush 41, 2) := by decide +kernel
theorem dL_law_33 : decode cL_law 33 = .ok (.irem, 1) := by decide +kernel
theorem dL_law_34 : decode cL_law 34 = .ok (.iadd, 1) := by decide +kernel
theorem dL_law_35 : decode cL_law 35 = .ok (.istore 5, 2) := by decide +kernel
theorem dL_law_37 : decode cL_law 37 = .ok (.iconst 1, 1) := by decide +kernel
theorem dL_law_38 : decode cL_law 38 = .ok (.istore 6, 2) := by decide +kernel
theorem dL_law_40 : decode cL_law 40 = .ok (.iconst 0, 1) := by decide +kernel
theorem dL_law_41 : decode cL_law 41 = .ok (.istore 7, 2) := by decide +kernel
theorem dL_law_43 : decode cL_law 43 = .ok (.iload 7, 2) := by decide +kernel
theorem dL_law_45 : decode cL_law 45 = .ok (.iload 5, 2) := by decide +kernel
theorem dL_law_47 : decode cL_law 47 = .ok (.if_icmp .ge 236, 3) := by decide +kernel
theorem dL_law_50 : decode cL_law 50 = .ok (.iload 6, 2) := by decide +kernel
theorem dL_law_52 : decode cL_law 52 = .ok (.ifCond .eq 231, 3) := by decide +kernel
theorem dL_law_55 : decode cL_law 55 = .ok (.aload_n 0, 1) := by decide +kernel
theorem dL_law_56 : decode cL_law 56 = .ok (.iconst 1, 1) := by decide +kernel
theorem dL_law_57 : decode cL_law 57 = .ok (.iload 7, 2) := by decide +kernel
theorem dL_law_59 : decode cL_law 59 = .ok (.iadd, 1) := by decide +kernel
theorem dL_law_60 : decode cL_law 60 = .ok (.invokestatic 167, 3) := by decide +kernel
theorem dL_law_63 : decode cL_law 63 = .ok (.istore 8, 2) := by decide +kernel
theorem dL_law_65 : decode cL_law 65 = .ok (.aload_n 1, 1) := by decide +kernel
theorem dL_law_66 : decode cL_law 66 = .ok (.iload 8, 2) := by decide +kernel
theorem dL_law_68 : decode cL_law 68 = .ok (.invokestatic 171, 3) := by decide +kernel
theorem dL_law_71 : decode cL_law 71 = .ok (.istore 9, 2) := by decide +kernel
theorem dL_law_73 : decode cL_law 73 = .ok (.aload_n 2, 1) := by decide +kernel
theorem dL_law_74 : decode cL_law 74 = .ok (.aload_n 3, 1) := by decide +kernel
theorem dL_law_75 : decode cL_law 75 = .ok (.iload 8, 2) := by decide +kernel
theorem dL_law_77 : decode cL_law 77 = .ok (.sipush 9973, 3) := by decide +kernel
theorem dL_law_80 : decode cL_law 80 = .ok (.irem, 1) := by decide +kernel
theorem dL_law_81 : decode cL_law 81 = .ok (.invokestatic 174, 3) := by decide +kernel
theorem dL_law_84 : decode cL_law 84 = .ok (.ifCond .eq 18, 3) := by decide +kernel
theorem dL_law_87 : decode cL_law 87 = .ok (.aload_n 2, 1) := by decide +kernel
theorem dL_law_88 : decode cL_law 88 = .ok (.iload 8, 2) := by decide +kernel
theorem dL_law_90 : decode cL_law 90 = .ok (.invokestatic 171, 3) := by decide +kernel
theorem dL_law_93 : decode cL_law 93 = .ok (.iload 9, 2) := by decide +kernel
theorem dL_law_95 : decode cL_law 95 = .ok (.if_icmp .ne 7, 3) := by decide +kernel
theorem dL_law_98 : decode cL_law 98 = .ok (.iconst 1, 1) := by decide +kernel
theorem dL_law_99 : decode cL_law 99 = .ok (.goto 4, 3) := by decide +kernel
theorem dL_law_102 : decode cL_law 102 = .ok (.iconst 0, 1) := by decide +kernel
theorem dL_law_103 : decode cL_law 103 = .ok (.istore 6, 2) := by decide +kernel
theorem dL_law_105 : decode cL_law 105 = .ok (.iload 8, 2) := by decide +kernel
theorem dL_law_107 : decode cL_law 107 = .ok (.bipush 32, 2) := by decide +kernel
theorem dL_law_109 : decode cL_law 109 = .ok (.idiv, 1) := by decide +kernel
theorem dL_law_110 : decode cL_law 110 = .ok (.istore 10, 2) := by decide +kernel
theorem dL_law_112 : decode cL_law 112 = .ok (.iload 8, 2) := by decide +kernel
theorem dL_law_114 : decode cL_law 114 = .ok (.bipush 32, 2) := by decide +kernel
theorem dL_law_116 : decode cL_law 116 = .ok (.irem, 1) := by decide +kernel
theorem dL_law_117 : decode cL_law 117 = .ok (.bipush 12, 2) := by decide +kernel
theorem dL_law_119 : decode cL_law 119 = .ok (.if_icmp .lt 22, 3) := by decide +kernel
theorem dL_law_122 : decode cL_law 122 = .ok (.iload 8, 2) := by decide +kernel
theorem dL_law_124 : decode cL_law 124 = .ok (.bipush 32, 2) := by decide +kernel
theorem dL_law_126 : decode cL_law 126 = .ok (.irem, 1) := by decide +kernel
theorem dL_law_127 : decode cL_law 127 = .ok (.bipush 14, 2) := by decide +kernel
theorem dL_law_129 : decode cL_law 129 = .ok (.if_icmp .gt 12, 3) := by decide +kernel
theorem dL_law_132 : decode cL_law 132 = .ok (.iload 9, 2) := by decide +kernel
theorem dL_law_134 : decode cL_law 134 = .ok (.ifCond .lt 7, 3) := by decide +kernel
theorem dL_law_137 : decode cL_law 137 = .ok (.iconst 1, 1) := by decide +kernel
theorem dL_law_138 : decode cL_law 138 = .ok (.goto 4, 3) := by decide +kernel
theorem dL_law_141 : decode cL_law 141 = .ok (.iconst 0, 1) := by decide +kernel
theorem dL_law_142 : decode cL_law 142 = .ok (.istore 11, 2) := by decide +kernel
theorem dL_law_144 : decode cL_law 144 = .ok (.aload_n 3, 1) := by decide +kernel
theorem dL_law_145 : decode cL_law 145 = .ok (.iload 11, 2) := by decide +kernel
theorem dL_law_147 : decode cL_law 147 = .ok (.ifCond .eq 8, 3) := by decide +kernel
theorem dL_law_150 : decode cL_law 150 = .ok (.iload 4, 2) := by decide +kernel
theorem dL_law_152 : decode cL_law 152 = .ok (.goto 5, 3) := by decide +kernel
theorem dL_law_155 : decode cL_law 155 = .ok (.bipush 39, 2) := by decide +kernel
theorem dL_law_157 : decode cL_law 157 = .ok (.iload 11, 2) := by decide +kernel
theorem dL_law_159 : decode cL_law 159 = .ok (.ifCond .eq 7, 3) := by decide +kernel
theorem dL_law_162 : decode cL_law 162 = .ok (.iconst 1, 1) := by decide +kernel
theorem dL_law_163 : decode cL_law 163 = .ok (.goto 18, 3) := by decide +kernel
theorem dL_law_166 : decode cL_law 166 = .ok (.iload 4, 2) := by decide +kernel
theorem dL_law_168 : decode cL_law 168 = .ok (.bipush 39, 2) := by decide +kernel
theorem dL_law_170 : decode cL_law 170 = .ok (.if_icmp .le 10, 3) := by decide +kernel
theorem dL_law_173 : decode cL_law 173 = .ok (.aload_n 3, 1) := by decide +kernel
theorem dL_law_174 : decode cL_law 174 = .ok (.bipush 39, 2) := by decide +kernel
theorem dL_law_176 : decode cL_law 176 = .ok (.iaload, 1) := by decide +kernel
theorem dL_law_177 : decode cL_law 177 = .ok (.goto 4, 3) := by decide +kernel
theorem dL_law_180 : decode cL_law 180 = .ok (.iconst 0, 1) := by decide +kernel
theorem dL_law_181 : decode cL_law 181 = .ok (.iastore, 1) := by decide +kernel
theorem dL_law_182 : decode cL_law 182 = .ok (.iload 4, 2) := by decide +kernel
theorem dL_law_184 : decode cL_law 184 = .ok (.iload 11, 2) := by decide +kernel
theorem dL_law_186 : decode cL_law 186 = .ok (.ifCond .eq 7, 3) := by decide +kernel
theorem dL_law_189 : decode cL_law 189 = .ok (.iconst 1, 1) := by decide +kernel
theorem dL_law_190 : decode cL_law 190 = .ok (.goto 4, 3) := by decide +kernel
theorem dL_law_193 : decode cL_law 193 = .ok (.iconst 0, 1) := by decide +kernel
theorem dL_law_194 : decode cL_law 194 = .ok (.iadd, 1) := by decide +kernel
theorem dL_law_195 : decode cL_law 195 = .ok (.istore 4, 2) := by decide +kernel
theorem dL_law_197 : decode cL_law 197 = .ok (.iload 8, 2) := by decide +kernel
theorem dL_law_199 : decode cL_law 199 = .ok (.bipush 32, 2) := by decide +kernel
theorem dL_law_201 : decode cL_law 201 = .ok (.irem, 1) := by decide +kernel
theorem dL_law_202 : decode cL_law 202 = .ok (.bipush 19, 2) := by decide +kernel
theorem dL_law_204 : decode cL_law 204 = .ok (.if_icmp .ne 25, 3) := by decide +kernel
theorem dL_law_207 : decode cL_law 207 = .ok (.iload 10, 2) := by decide +kernel
theorem dL_law_209 : decode cL_law 209 = .ok (.iconst 3, 1) := by decide +kernel
theorem dL_law_210 : decode cL_law 210 = .ok (.irem, 1) := by decide +kernel
theorem dL_law_211 : decode cL_law 211 = .ok (.ifCond .ne 18, 3) := by decide +kernel
theorem dL_law_214 : decode cL_law 214 = .ok (.iload 9, 2) := by decide +kernel
theorem dL_law_216 : decode cL_law 216 = .ok (.ifCond .lt 13, 3) := by decide +kernel
theorem dL_law_219 : decode cL_law 219 = .ok (.aload_n 3, 1) := by decide +kernel
theorem dL_law_220 : decode cL_law 220 = .ok (.iload 10, 2) := by decide +kernel
theorem dL_law_222 : decode cL_law 222 = .ok (.iconst 3, 1) := by decide +kernel
theorem dL_law_223 : decode cL_law 223 = .ok (.idiv, 1) := by decide +kernel
theorem dL_law_224 : decode cL_law 224 = .ok (.bipush 10, 2) := by decide +kernel
theorem dL_law_226 : decode cL_law 226 = .ok (.irem, 1) := by decide +kernel
theorem dL_law_227 : decode cL_law 227 = .ok (.iconst 0, 1) := by decide +kernel
theorem dL_law_228 : decode cL_law 228 = .ok (.iastore, 1) := by decide +kernel
theorem dL_law_229 : decode cL_law 229 = .ok (.iload 6, 2) := by decide +kernel
theorem dL_law_231 : decode cL_law 231 = .ok (.ifCond .eq 43, 3) := by decide +kernel
theorem dL_law_234 : decode cL_law 234 = .ok (.aload_n 2, 1) := by decide +kernel
theorem dL_law_235 : decode cL_law 235 = .ok (.aload_n 3, 1) := by decide +kernel
theorem dL_law_236 : decode cL_law 236 = .ok (.iload 8, 2) := by decide +kernel
theorem dL_law_238 : decode cL_law 238 = .ok (.sipush 499, 3) := by decide +kernel
theorem dL_law_241 : decode cL_law 241 = .ok (.irem, 1) := by decide +kernel
theorem dL_law_242 : decode cL_law 242 = .ok (.invokestatic 174, 3) := by decide +kernel
theorem dL_law_245 : decode cL_law 245 = .ok (.ifCond .eq 29, 3) := by decide +kernel
theorem dL_law_248 : decode cL_law 248 = .ok (.aload_n 1, 1) := by decide +kernel
theorem dL_law_249 : decode cL_law 249 = .ok (.aload_n 2, 1) := by decide +kernel
theorem dL_law_250 : decode cL_law 250 = .ok (.invokestatic 178, 3) := by decide +kernel
theorem dL_law_253 : decode cL_law 253 = .ok (.ifCond .eq 21, 3) := by decide +kernel
theorem dL_law_256 : decode cL_law 256 = .ok (.iload 7, 2) := by decide +kernel
theorem dL_law_258 : decode cL_law 258 = .ok (.iconst 4, 1) := by decide +kernel
theorem dL_law_259 : decode cL_law 259 = .ok (.irem, 1) := by decide +kernel
theorem dL_law_260 : decode cL_law 260 = .ok (.ifCond .gt 10, 3) := by decide +kernel
theorem dL_law_263 : decode cL_law 263 = .ok (.aload_n 2, 1) := by decide +kernel
theorem dL_law_264 : decode cL_law 264 = .ok (.invokestatic 182, 3) := by decide +kernel
theorem dL_law_267 : decode cL_law 267 = .ok (.ifCond .eq 7, 3) := by decide +kernel
theorem dL_law_270 : decode cL_law 270 = .ok (.iconst 1, 1) := by decide +kernel
theorem dL_law_271 : decode cL_law 271 = .ok (.goto 4, 3) := by decide +kernel
theorem dL_law_274 : decode cL_law 274 = .ok (.iconst 0, 1) := by decide +kernel
theorem dL_law_275 : decode cL_law 275 = .ok (.istore 6, 2) := by decide +kernel
theorem dL_law_277 : decode cL_law 277 = .ok (.iinc 7 1, 3) := by decide +kernel
theorem dL_law_280 : decode cL_law 280 = .ok (.goto (-237), 3) := by decide +kernel
theorem dL_law_283 : decode cL_law 283 = .ok (.iload 6, 2) := by decide +kernel
theorem dL_law_285 : decode cL_law 285 = .ok (.ifCond .eq 44, 3) := by decide +kernel
theorem dL_law_288 : decode cL_law 288 = .ok (.aload_n 2, 1) := by decide +kernel
theorem dL_law_289 : decode cL_law 289 = .ok (.invokestatic 182, 3) := by decide +kernel
theorem dL_law_292 : decode cL_law 292 = .ok (.ifCond .eq 37, 3) := by decide +kernel
theorem dL_law_295 : decode cL_law 295 = .ok (.aload_n 2, 1) := by decide +kernel
theorem dL_law_296 : decode cL_law 296 = .ok (.aload_n 0, 1) := by decide +kernel
theorem dL_law_297 : decode cL_law 297 = .ok (.iconst 0, 1) := by decide +kernel
theorem dL_law_298 : decode cL_law 298 = .ok (.invokestatic 167, 3) := by decide +kernel
theorem dL_law_301 : decode cL_law 301 = .ok (.bipush 41, 2) := by decide +kernel
theorem dL_law_303 : decode cL_law 303 = .ok (.idiv, 1) := by decide +kernel
theorem dL_law_304 : decode cL_law 304 = .ok (.invokestatic 186, 3) := by decide +kernel
theorem dL_law_307 : decode cL_law 307 = .ok (.ifCond .eq 22, 3) := by decide +kernel
theorem dL_law_310 : decode cL_law 310 = .ok (.aload_n 1, 1) := by decide +kernel
theorem dL_law_311 : decode cL_law 311 = .ok (.aload_n 0, 1) := by decide +kernel
theorem dL_law_312 : decode cL_law 312 = .ok (.iconst 0, 1) := by decide +kernel
theorem dL_law_313 : decode cL_law 313 = .ok (.invokestatic 167, 3) := by decide +kernel
theorem dL_law_316 : decode cL_law 316 = .ok (.bipush 43, 2) := by decide +kernel
theorem dL_law_318 : decode cL_law 318 = .ok (.idiv, 1) := by decide +kernel
theorem dL_law_319 : decode cL_law 319 = .ok (.invokestatic 186, 3) := by decide +kernel
theorem dL_law_322 : decode cL_law 322 = .ok (.ifCond .eq 7, 3) := by decide +kernel
theorem dL_law_325 : decode cL_law 325 = .ok (.iconst 1, 1) := by decide +kernel
theorem dL_law_326 : decode cL_law 326 = .ok (.goto 4, 3) := by decide +kernel
theorem dL_law_329 : decode cL_law 329 = .ok (.iconst 0, 1) := by decide +kernel
theorem dL_law_330 : decode cL_law 330 = .ok (.ireturn, 1) := by decide +kernel
