section
-- ===== PART A: goes FIRST, ahead of the names: the tables' words, and 'selects' of the private methods out of them =====
/-- a private method of a class that the tables say can be made, by its rows of tables_1 -/
def lw_okq (q : MethodName × Nat) : Prop := (q.1.cls ≠ "java/lang/invoke/MethodHandle" ∧ q.1.cls ≠ "java/lang/invoke/VarHandle") ∧ Cond.instantiable q.1.cls q.2 ∈ tables_1 ∧ Cond.privateMethod q.1 ∈ tables_1 ∧ Cond.instanceMethod q.1 ∈ tables_1
theorem lw_p0 : lw_okq (⟨"MigrateSteps", "keep", "(LMigrateSteps$Item;)I"⟩, 10) := ⟨⟨by decide +kernel, by decide +kernel⟩, List.mem_of_getElem? (i := 24) (by decide +kernel), List.mem_of_getElem? (i := 225) (by decide +kernel), List.mem_of_getElem? (i := 226) (by decide +kernel)⟩
theorem lw_p1 : lw_okq (⟨"MigrateSteps", "scriptOf", "(I)LMigrateSteps$Script;"⟩, 10) := ⟨⟨by decide +kernel, by decide +kernel⟩, List.mem_of_getElem? (i := 24) (by decide +kernel), List.mem_of_getElem? (i := 237) (by decide +kernel), List.mem_of_getElem? (i := 238) (by decide +kernel)⟩
theorem lw_p2 : lw_okq (⟨"MigrateSteps", "liveItem", "(I)LMigrateSteps$Item;"⟩, 10) := ⟨⟨by decide +kernel, by decide +kernel⟩, List.mem_of_getElem? (i := 24) (by decide +kernel), List.mem_of_getElem? (i := 249) (by decide +kernel), List.mem_of_getElem? (i := 250) (by decide +kernel)⟩
theorem lw_p3 : lw_okq (⟨"MigrateSteps", "itemOf", "(I)LMigrateSteps$Item;"⟩, 10) := ⟨⟨by decide +kernel, by decide +kernel⟩, List.mem_of_getElem? (i := 24) (by decide +kernel), List.mem_of_getElem? (i := 253) (by decide +kernel), List.mem_of_getElem? (i := 254) (by decide +kernel)⟩
theorem lw_p4 : lw_okq (⟨"MigrateSteps", "derive", "(II)I"⟩, 10) := ⟨⟨by decide +kernel, by decide +kernel⟩, List.mem_of_getElem? (i := 24) (by decide +kernel), List.mem_of_getElem? (i := 257) (by decide +kernel), List.mem_of_getElem? (i := 258) (by decide +kernel)⟩
theorem lw_p5 : lw_okq (⟨"MigrateSteps", "hasDerivedBy", "(II)Z"⟩, 10) := ⟨⟨by decide +kernel, by decide +kernel⟩, List.mem_of_getElem? (i := 24) (by decide +kernel), List.mem_of_getElem? (i := 261) (by decide +kernel), List.mem_of_getElem? (i := 262) (by decide +kernel)⟩
theorem lw_p6 : lw_okq (⟨"MigrateSteps$Runner", "begin", "()V"⟩, 9) := ⟨⟨by decide +kernel, by decide +kernel⟩, List.mem_of_getElem? (i := 75) (by decide +kernel), List.mem_of_getElem? (i := 285) (by decide +kernel), List.mem_of_getElem? (i := 286) (by decide +kernel)⟩
theorem lw_p7 : lw_okq (⟨"MigrateSteps$Runner", "step", "(IILMigrateSteps$ByteRow;)V"⟩, 9) := ⟨⟨by decide +kernel, by decide +kernel⟩, List.mem_of_getElem? (i := 75) (by decide +kernel), List.mem_of_getElem? (i := 298) (by decide +kernel), List.mem_of_getElem? (i := 299) (by decide +kernel)⟩
theorem lw_p8 : lw_okq (⟨"MigrateSteps$Runner", "fetch", "(I)V"⟩, 9) := ⟨⟨by decide +kernel, by decide +kernel⟩, List.mem_of_getElem? (i := 75) (by decide +kernel), List.mem_of_getElem? (i := 303) (by decide +kernel), List.mem_of_getElem? (i := 304) (by decide +kernel)⟩
theorem lw_p9 : lw_okq (⟨"MigrateSteps$Runner", "putOut", "(I)V"⟩, 9) := ⟨⟨by decide +kernel, by decide +kernel⟩, List.mem_of_getElem? (i := 75) (by decide +kernel), List.mem_of_getElem? (i := 307) (by decide +kernel), List.mem_of_getElem? (i := 308) (by decide +kernel)⟩
theorem lw_p10 : lw_okq (⟨"MigrateSteps$Runner", "failIf", "(ZI)V"⟩, 9) := ⟨⟨by decide +kernel, by decide +kernel⟩, List.mem_of_getElem? (i := 75) (by decide +kernel), List.mem_of_getElem? (i := 312) (by decide +kernel), List.mem_of_getElem? (i := 313) (by decide +kernel)⟩
theorem lw_p11 : lw_okq (⟨"MigrateSteps$Runner", "store", "(I)V"⟩, 9) := ⟨⟨by decide +kernel, by decide +kernel⟩, List.mem_of_getElem? (i := 75) (by decide +kernel), List.mem_of_getElem? (i := 316) (by decide +kernel), List.mem_of_getElem? (i := 317) (by decide +kernel)⟩
theorem lw_p12 : lw_okq (⟨"MigrateSteps$Runner", "recall", "(I)V"⟩, 9) := ⟨⟨by decide +kernel, by decide +kernel⟩, List.mem_of_getElem? (i := 75) (by decide +kernel), List.mem_of_getElem? (i := 320) (by decide +kernel), List.mem_of_getElem? (i := 321) (by decide +kernel)⟩
theorem lw_p13 : lw_okq (⟨"MigrateSteps$Runner", "jumpIf", "(ZI)V"⟩, 9) := ⟨⟨by decide +kernel, by decide +kernel⟩, List.mem_of_getElem? (i := 75) (by decide +kernel), List.mem_of_getElem? (i := 324) (by decide +kernel), List.mem_of_getElem? (i := 325) (by decide +kernel)⟩
theorem lw_p14 : lw_okq (⟨"MigrateSteps$Runner", "stepWithin", "(II)V"⟩, 9) := ⟨⟨by decide +kernel, by decide +kernel⟩, List.mem_of_getElem? (i := 75) (by decide +kernel), List.mem_of_getElem? (i := 328) (by decide +kernel), List.mem_of_getElem? (i := 329) (by decide +kernel)⟩
theorem lw_p15 : lw_okq (⟨"MigrateSteps", "comesTo", "(II)Z"⟩, 10) := ⟨⟨by decide +kernel, by decide +kernel⟩, List.mem_of_getElem? (i := 24) (by decide +kernel), List.mem_of_getElem? (i := 341) (by decide +kernel), List.mem_of_getElem? (i := 342) (by decide +kernel)⟩
def lw_privs_1 : List (MethodName × Nat) := [(⟨"MigrateSteps", "keep", "(LMigrateSteps$Item;)I"⟩, 10), (⟨"MigrateSteps", "scriptOf", "(I)LMigrateSteps$Script;"⟩, 10), (⟨"MigrateSteps", "liveItem", "(I)LMigrateSteps$Item;"⟩, 10), (⟨"MigrateSteps", "itemOf", "(I)LMigrateSteps$Item;"⟩, 10), (⟨"MigrateSteps", "derive", "(II)I"⟩, 10), (⟨"MigrateSteps", "hasDerivedBy", "(II)Z"⟩, 10), (⟨"MigrateSteps$Runner", "begin", "()V"⟩, 9), (⟨"MigrateSteps$Runner", "step", "(IILMigrateSteps$ByteRow;)V"⟩, 9), (⟨"MigrateSteps$Runner", "fetch", "(I)V"⟩, 9), (⟨"MigrateSteps$Runner", "putOut", "(I)V"⟩, 9), (⟨"MigrateSteps$Runner", "failIf", "(ZI)V"⟩, 9), (⟨"MigrateSteps$Runner", "store", "(I)V"⟩, 9), (⟨"MigrateSteps$Runner", "recall", "(I)V"⟩, 9), (⟨"MigrateSteps$Runner", "jumpIf", "(ZI)V"⟩, 9), (⟨"MigrateSteps$Runner", "stepWithin", "(II)V"⟩, 9), (⟨"MigrateSteps", "comesTo", "(II)Z"⟩, 10)]
theorem lw_r1 : ∀ q ∈ lw_privs_1, lw_okq q := List.forall_mem_cons.mpr ⟨lw_p0, List.forall_mem_cons.mpr ⟨lw_p1, List.forall_mem_cons.mpr ⟨lw_p2, List.forall_mem_cons.mpr ⟨lw_p3, List.forall_mem_cons.mpr ⟨lw_p4, List.forall_mem_cons.mpr ⟨lw_p5, List.forall_mem_cons.mpr ⟨lw_p6, List.forall_mem_cons.mpr ⟨lw_p7, List.forall_mem_cons.mpr ⟨lw_p8, List.forall_mem_cons.mpr ⟨lw_p9, List.forall_mem_cons.mpr ⟨lw_p10, List.forall_mem_cons.mpr ⟨lw_p11, List.forall_mem_cons.mpr ⟨lw_p12, List.forall_mem_cons.mpr ⟨lw_p13, List.forall_mem_cons.mpr ⟨lw_p14, List.forall_mem_cons.mpr ⟨lw_p15, fun _ h => absurd h List.not_mem_nil⟩⟩⟩⟩⟩⟩⟩⟩⟩⟩⟩⟩⟩⟩⟩⟩
theorem lw_p16 : lw_okq (⟨"MigrateSteps", "nextOf", "(I)I"⟩, 10) := ⟨⟨by decide +kernel, by decide +kernel⟩, List.mem_of_getElem? (i := 24) (by decide +kernel), List.mem_of_getElem? (i := 345) (by decide +kernel), List.mem_of_getElem? (i := 346) (by decide +kernel)⟩
theorem lw_p17 : lw_okq (⟨"MigrateSteps", "isOriginal", "(I)Z"⟩, 10) := ⟨⟨by decide +kernel, by decide +kernel⟩, List.mem_of_getElem? (i := 24) (by decide +kernel), List.mem_of_getElem? (i := 369) (by decide +kernel), List.mem_of_getElem? (i := 370) (by decide +kernel)⟩
theorem lw_p18 : lw_okq (⟨"MigrateSteps", "joinBatch", "(I)Z"⟩, 10) := ⟨⟨by decide +kernel, by decide +kernel⟩, List.mem_of_getElem? (i := 24) (by decide +kernel), List.mem_of_getElem? (i := 373) (by decide +kernel), List.mem_of_getElem? (i := 374) (by decide +kernel)⟩
theorem lw_p19 : lw_okq (⟨"MigrateSteps", "leaveBatch", "(I)Z"⟩, 10) := ⟨⟨by decide +kernel, by decide +kernel⟩, List.mem_of_getElem? (i := 24) (by decide +kernel), List.mem_of_getElem? (i := 381) (by decide +kernel), List.mem_of_getElem? (i := 382) (by decide +kernel)⟩
theorem lw_p20 : lw_okq (⟨"MigrateSteps", "hasDerived", "(I)Z"⟩, 10) := ⟨⟨by decide +kernel, by decide +kernel⟩, List.mem_of_getElem? (i := 24) (by decide +kernel), List.mem_of_getElem? (i := 385) (by decide +kernel), List.mem_of_getElem? (i := 386) (by decide +kernel)⟩
theorem lw_p21 : lw_okq (⟨"MigrateSteps", "dismiss", "(I)I"⟩, 10) := ⟨⟨by decide +kernel, by decide +kernel⟩, List.mem_of_getElem? (i := 24) (by decide +kernel), List.mem_of_getElem? (i := 389) (by decide +kernel), List.mem_of_getElem? (i := 390) (by decide +kernel)⟩
theorem lw_p22 : lw_okq (⟨"MigrateSteps$ScriptText", "signAt", "(I)I"⟩, 5) := ⟨⟨by decide +kernel, by decide +kernel⟩, List.mem_of_getElem? (i := 32) (by decide +kernel), List.mem_of_getElem? (i := 421) (by decide +kernel), List.mem_of_getElem? (i := 422) (by decide +kernel)⟩
theorem lw_p23 : lw_okq (⟨"MigrateSteps$ScriptText", "digitsFrom", "(I)I"⟩, 5) := ⟨⟨by decide +kernel, by decide +kernel⟩, List.mem_of_getElem? (i := 32) (by decide +kernel), List.mem_of_getElem? (i := 511) (by decide +kernel), List.mem_of_getElem? (i := 512) (by decide +kernel)⟩
theorem lw_p24 : lw_okq (⟨"MigrateSteps$ScriptText", "numberFrom", "(II)I"⟩, 5) := ⟨⟨by decide +kernel, by decide +kernel⟩, List.mem_of_getElem? (i := 32) (by decide +kernel), List.mem_of_getElem? (i := 518) (by decide +kernel), List.mem_of_getElem? (i := 519) (by decide +kernel)⟩
theorem lw_p25 : lw_okq (⟨"java/lang/Throwable", "fillInStackTrace", "(I)Ljava/lang/Throwable;"⟩, 6) := ⟨⟨by decide +kernel, by decide +kernel⟩, List.mem_of_getElem? (i := 563) (by decide +kernel), List.mem_of_getElem? (i := 561) (by decide +kernel), List.mem_of_getElem? (i := 562) (by decide +kernel)⟩
theorem lw_p26 : lw_okq (⟨"MigrateStepsModel", "reads", "()Z"⟩, 32) := ⟨⟨by decide +kernel, by decide +kernel⟩, List.mem_of_getElem? (i := 670) (by decide +kernel), List.mem_of_getElem? (i := 786) (by decide +kernel), List.mem_of_getElem? (i := 787) (by decide +kernel)⟩
theorem lw_p27 : lw_okq (⟨"MigrateStepsModel", "command", "(I)Z"⟩, 32) := ⟨⟨by decide +kernel, by decide +kernel⟩, List.mem_of_getElem? (i := 670) (by decide +kernel), List.mem_of_getElem? (i := 790) (by decide +kernel), List.mem_of_getElem? (i := 791) (by decide +kernel)⟩
theorem lw_p28 : lw_okq (⟨"MigrateStepsModel", "look", "()I"⟩, 32) := ⟨⟨by decide +kernel, by decide +kernel⟩, List.mem_of_getElem? (i := 670) (by decide +kernel), List.mem_of_getElem? (i := 794) (by decide +kernel), List.mem_of_getElem? (i := 795) (by decide +kernel)⟩
theorem lw_p29 : lw_okq (⟨"MigrateStepsModel", "isScript", "(I)Z"⟩, 32) := ⟨⟨by decide +kernel, by decide +kernel⟩, List.mem_of_getElem? (i := 670) (by decide +kernel), List.mem_of_getElem? (i := 820) (by decide +kernel), List.mem_of_getElem? (i := 821) (by decide +kernel)⟩
theorem lw_p30 : lw_okq (⟨"MigrateStepsModel", "can", "(II)Z"⟩, 32) := ⟨⟨by decide +kernel, by decide +kernel⟩, List.mem_of_getElem? (i := 670) (by decide +kernel), List.mem_of_getElem? (i := 828) (by decide +kernel), List.mem_of_getElem? (i := 829) (by decide +kernel)⟩
theorem lw_p31 : lw_okq (⟨"MigrateStepsModel", "isItem", "(I)Z"⟩, 32) := ⟨⟨by decide +kernel, by decide +kernel⟩, List.mem_of_getElem? (i := 670) (by decide +kernel), List.mem_of_getElem? (i := 832) (by decide +kernel), List.mem_of_getElem? (i := 833) (by decide +kernel)⟩
def lw_privs_2 : List (MethodName × Nat) := [(⟨"MigrateSteps", "nextOf", "(I)I"⟩, 10), (⟨"MigrateSteps", "isOriginal", "(I)Z"⟩, 10), (⟨"MigrateSteps", "joinBatch", "(I)Z"⟩, 10), (⟨"MigrateSteps", "leaveBatch", "(I)Z"⟩, 10), (⟨"MigrateSteps", "hasDerived", "(I)Z"⟩, 10), (⟨"MigrateSteps", "dismiss", "(I)I"⟩, 10), (⟨"MigrateSteps$ScriptText", "signAt", "(I)I"⟩, 5), (⟨"MigrateSteps$ScriptText", "digitsFrom", "(I)I"⟩, 5), (⟨"MigrateSteps$ScriptText", "numberFrom", "(II)I"⟩, 5), (⟨"java/lang/Throwable", "fillInStackTrace", "(I)Ljava/lang/Throwable;"⟩, 6), (⟨"MigrateStepsModel", "reads", "()Z"⟩, 32), (⟨"MigrateStepsModel", "command", "(I)Z"⟩, 32), (⟨"MigrateStepsModel", "look", "()I"⟩, 32), (⟨"MigrateStepsModel", "isScript", "(I)Z"⟩, 32), (⟨"MigrateStepsModel", "can", "(II)Z"⟩, 32), (⟨"MigrateStepsModel", "isItem", "(I)Z"⟩, 32)]
theorem lw_r2 : ∀ q ∈ lw_privs_2, lw_okq q := List.forall_mem_cons.mpr ⟨lw_p16, List.forall_mem_cons.mpr ⟨lw_p17, List.forall_mem_cons.mpr ⟨lw_p18, List.forall_mem_cons.mpr ⟨lw_p19, List.forall_mem_cons.mpr ⟨lw_p20, List.forall_mem_cons.mpr ⟨lw_p21, List.forall_mem_cons.mpr ⟨lw_p22, List.forall_mem_cons.mpr ⟨lw_p23, List.forall_mem_cons.mpr ⟨lw_p24, List.forall_mem_cons.mpr ⟨lw_p25, List.forall_mem_cons.mpr ⟨lw_p26, List.forall_mem_cons.mpr ⟨lw_p27, List.forall_mem_cons.mpr ⟨lw_p28, List.forall_mem_cons.mpr ⟨lw_p29, List.forall_mem_cons.mpr ⟨lw_p30, List.forall_mem_cons.mpr ⟨lw_p31, fun _ h => absurd h List.not_mem_nil⟩⟩⟩⟩⟩⟩⟩⟩⟩⟩⟩⟩⟩⟩⟩⟩
theorem lw_p32 : lw_okq (⟨"MigrateStepsModel", "derive", "(II)I"⟩, 32) := ⟨⟨by decide +kernel, by decide +kernel⟩, List.mem_of_getElem? (i := 670) (by decide +kernel), List.mem_of_getElem? (i := 836) (by decide +kernel), List.mem_of_getElem? (i := 837) (by decide +kernel)⟩
theorem lw_p33 : lw_okq (⟨"MigrateStepsModel", "hasDerived", "(II)Z"⟩, 32) := ⟨⟨by decide +kernel, by decide +kernel⟩, List.mem_of_getElem? (i := 670) (by decide +kernel), List.mem_of_getElem? (i := 840) (by decide +kernel), List.mem_of_getElem? (i := 841) (by decide +kernel)⟩
theorem lw_p34 : lw_okq (⟨"MigrateStepsModel", "allHold", "(II)Z"⟩, 32) := ⟨⟨by decide +kernel, by decide +kernel⟩, List.mem_of_getElem? (i := 670) (by decide +kernel), List.mem_of_getElem? (i := 844) (by decide +kernel), List.mem_of_getElem? (i := 845) (by decide +kernel)⟩
theorem lw_p35 : lw_okq (⟨"MigrateStepsModel", "run", "(II)I"⟩, 32) := ⟨⟨by decide +kernel, by decide +kernel⟩, List.mem_of_getElem? (i := 670) (by decide +kernel), List.mem_of_getElem? (i := 851) (by decide +kernel), List.mem_of_getElem? (i := 852) (by decide +kernel)⟩
theorem lw_p36 : lw_okq (⟨"MigrateStepsModel", "put", "(II)V"⟩, 32) := ⟨⟨by decide +kernel, by decide +kernel⟩, List.mem_of_getElem? (i := 670) (by decide +kernel), List.mem_of_getElem? (i := 855) (by decide +kernel), List.mem_of_getElem? (i := 856) (by decide +kernel)⟩
theorem lw_p37 : lw_okq (⟨"MigrateStepsModel", "goes", "(I)Z"⟩, 32) := ⟨⟨by decide +kernel, by decide +kernel⟩, List.mem_of_getElem? (i := 670) (by decide +kernel), List.mem_of_getElem? (i := 888) (by decide +kernel), List.mem_of_getElem? (i := 889) (by decide +kernel)⟩
def lw_privs_3 : List (MethodName × Nat) := [(⟨"MigrateStepsModel", "derive", "(II)I"⟩, 32), (⟨"MigrateStepsModel", "hasDerived", "(II)Z"⟩, 32), (⟨"MigrateStepsModel", "allHold", "(II)Z"⟩, 32), (⟨"MigrateStepsModel", "run", "(II)I"⟩, 32), (⟨"MigrateStepsModel", "put", "(II)V"⟩, 32), (⟨"MigrateStepsModel", "goes", "(I)Z"⟩, 32)]
theorem lw_r3 : ∀ q ∈ lw_privs_3, lw_okq q := List.forall_mem_cons.mpr ⟨lw_p32, List.forall_mem_cons.mpr ⟨lw_p33, List.forall_mem_cons.mpr ⟨lw_p34, List.forall_mem_cons.mpr ⟨lw_p35, List.forall_mem_cons.mpr ⟨lw_p36, List.forall_mem_cons.mpr ⟨lw_p37, fun _ h => absurd h List.not_mem_nil⟩⟩⟩⟩⟩⟩
def lw_privs : List (MethodName × Nat) := lw_privs_1 ++ (lw_privs_2 ++ (lw_privs_3))
def lw_tbl : List Cond := k2_sels lw_privs ++ tables_1
theorem lw_privs_ok : ∀ q ∈ lw_privs, lw_okq q := by
  show ∀ q ∈ lw_privs_1 ++ (lw_privs_2 ++ (lw_privs_3)), lw_okq q
  exact List.forall_mem_append.mpr ⟨lw_r1, List.forall_mem_append.mpr ⟨lw_r2, lw_r3⟩⟩
def RX0 : String := "MigrateSteps$ByteRow"
def TX0 : u_T := fun k => match k with
  | 0 => ("MigrateSteps$ByteRow", "bytes", "[I", true)
  | _ => ("MigrateSteps$ByteRow", "size", "I", false)
def tyX0 : Nat → FieldType := fun k => match k with
  | 0 => .array .int
  | _ => .int
theorem nmX0 : ∀ a, a < 2 → ∀ b, b < 2 → a ≠ b → (TX0 a).2.1 ≠ (TX0 b).2.1 := by decide +kernel
theorem tyX0_ok : ∀ k, k < 2 → parseFieldDescriptor (TX0 k).2.2.1 = some (tyX0 k) := by decide +kernel
abbrev cX0_init : ByteArray := prog_2_method_1_code
def yX0_init : MethodName := ⟨RX0, "<init>", "([II)V"⟩
abbrev cX0_add : ByteArray := prog_2_method_2_code
def yX0_add : MethodName := ⟨RX0, "add", "(I)Z"⟩
abbrev cX0_clear : ByteArray := prog_2_method_3_code
def yX0_clear : MethodName := ⟨RX0, "clear", "()V"⟩
abbrev cX0_byteAt : ByteArray := prog_2_method_4_code
def yX0_byteAt : MethodName := ⟨RX0, "byteAt", "(I)I"⟩
abbrev cX0_sum : ByteArray := prog_2_method_5_code
def yX0_sum : MethodName := ⟨RX0, "sum", "()I"⟩
abbrev cX0_copy : ByteArray := prog_2_method_6_code
def yX0_copy : MethodName := ⟨RX0, "copy", "()LMigrateSteps$ByteRow;"⟩
def RX1 : String := "MigrateSteps$Checks"
def TX1 : u_T := fun k => match k with
  | 0 => ("MigrateSteps$Checks", "kinds", "[I", true)
  | 1 => ("MigrateSteps$Checks", "values", "[I", true)
  | _ => ("MigrateSteps$Checks", "count", "I", false)
def tyX1 : Nat → FieldType := fun k => match k with
  | 0 => .array .int
  | 1 => .array .int
  | _ => .int
theorem nmX1 : ∀ a, a < 3 → ∀ b, b < 3 → a ≠ b → (TX1 a).2.1 ≠ (TX1 b).2.1 := by decide +kernel
theorem tyX1_ok : ∀ k, k < 3 → parseFieldDescriptor (TX1 k).2.2.1 = some (tyX1 k) := by decide +kernel
abbrev cX1_init : ByteArray := prog_3_method_1_code
def yX1_init : MethodName := ⟨RX1, "<init>", "()V"⟩
abbrev cX1_add : ByteArray := prog_3_method_2_code
def yX1_add : MethodName := ⟨RX1, "add", "(II)I"⟩
abbrev cX1_hold : ByteArray := prog_3_method_3_code
def yX1_hold : MethodName := ⟨RX1, "hold", "(LMigrateSteps$ByteRow;)Z"⟩
abbrev cX1_holds : ByteArray := prog_3_method_4_code
def yX1_holds : MethodName := ⟨RX1, "holds", "(IILMigrateSteps$ByteRow;)Z"⟩
def RX2 : String := "MigrateSteps$Item"
def TX2 : u_T := fun k => match k with
  | 0 => ("MigrateSteps$Item", "bytes", "LMigrateSteps$ByteRow;", true)
  | 1 => ("MigrateSteps$Item", "from", "I", true)
  | 2 => ("MigrateSteps$Item", "by", "I", true)
  | 3 => ("MigrateSteps$Item", "root", "I", true)
  | 4 => ("MigrateSteps$Item", "batch", "I", false)
  | _ => ("MigrateSteps$Item", "gone", "Z", false)
def tyX2 : Nat → FieldType := fun k => match k with
  | 0 => .object "MigrateSteps$ByteRow"
  | 1 => .int
  | 2 => .int
  | 3 => .int
  | 4 => .int
  | _ => .boolean
theorem nmX2 : ∀ a, a < 6 → ∀ b, b < 6 → a ≠ b → (TX2 a).2.1 ≠ (TX2 b).2.1 := by decide +kernel
theorem tyX2_ok : ∀ k, k < 6 → parseFieldDescriptor (TX2 k).2.2.1 = some (tyX2 k) := by decide +kernel
abbrev cX2_init : ByteArray := prog_4_method_1_code
def yX2_init : MethodName := ⟨RX2, "<init>", "(LMigrateSteps$ByteRow;III)V"⟩
def RX3 : String := "MigrateSteps$Runner"
def TX3 : u_T := fun k => match k with
  | 0 => ("MigrateSteps$Runner", "steps", "I", true)
  | 1 => ("MigrateSteps$Runner", "cells", "[I", true)
  | 2 => ("MigrateSteps$Runner", "out", "LMigrateSteps$ByteRow;", true)
  | 3 => ("MigrateSteps$Runner", "accumulator", "I", false)
  | 4 => ("MigrateSteps$Runner", "pointer", "I", false)
  | 5 => ("MigrateSteps$Runner", "next", "I", false)
  | 6 => ("MigrateSteps$Runner", "failure", "I", false)
  | 7 => ("MigrateSteps$Runner", "failedAt", "I", false)
  | _ => ("MigrateSteps$Runner", "allSteps", "J", false)
def tyX3 : Nat → FieldType := fun k => match k with
  | 0 => .int
  | 1 => .array .int
  | 2 => .object "MigrateSteps$ByteRow"
  | 3 => .int
  | 4 => .int
  | 5 => .int
  | 6 => .int
  | 7 => .int
  | _ => .long
theorem nmX3 : ∀ a, a < 9 → ∀ b, b < 9 → a ≠ b → (TX3 a).2.1 ≠ (TX3 b).2.1 := by decide +kernel
theorem tyX3_ok : ∀ k, k < 9 → parseFieldDescriptor (TX3 k).2.2.1 = some (tyX3 k) := by decide +kernel
abbrev cX3_init : ByteArray := prog_5_method_1_code
def yX3_init : MethodName := ⟨RX3, "<init>", "(I[I)V"⟩
abbrev cX3_run : ByteArray := prog_5_method_2_code
def yX3_run : MethodName := ⟨RX3, "run", "(LMigrateSteps$Script;LMigrateSteps$ByteRow;)I"⟩
abbrev cX3_begin : ByteArray := prog_5_method_3_code
def yX3_begin : MethodName := ⟨RX3, "begin", "()V"⟩
abbrev cX3_step : ByteArray := prog_5_method_4_code
def yX3_step : MethodName := ⟨RX3, "step", "(IILMigrateSteps$ByteRow;)V"⟩
abbrev cX3_stepWithin : ByteArray := prog_5_method_5_code
def yX3_stepWithin : MethodName := ⟨RX3, "stepWithin", "(II)V"⟩
abbrev cX3_fetch : ByteArray := prog_5_method_6_code
def yX3_fetch : MethodName := ⟨RX3, "fetch", "(I)V"⟩
abbrev cX3_putOut : ByteArray := prog_5_method_7_code
def yX3_putOut : MethodName := ⟨RX3, "putOut", "(I)V"⟩
abbrev cX3_store : ByteArray := prog_5_method_8_code
def yX3_store : MethodName := ⟨RX3, "store", "(I)V"⟩
abbrev cX3_recall : ByteArray := prog_5_method_9_code
def yX3_recall : MethodName := ⟨RX3, "recall", "(I)V"⟩
abbrev cX3_jumpIf : ByteArray := prog_5_method_10_code
def yX3_jumpIf : MethodName := ⟨RX3, "jumpIf", "(ZI)V"⟩
abbrev cX3_failIf : ByteArray := prog_5_method_11_code
def yX3_failIf : MethodName := ⟨RX3, "failIf", "(ZI)V"⟩
def RX4 : String := "MigrateSteps$Script"
def TX4 : u_T := fun k => match k with
  | 0 => ("MigrateSteps$Script", "letters", "[I", true)
  | 1 => ("MigrateSteps$Script", "numbers", "[I", true)
  | 2 => ("MigrateSteps$Script", "before", "LMigrateSteps$Checks;", true)
  | 3 => ("MigrateSteps$Script", "behind", "LMigrateSteps$Checks;", true)
  | _ => ("MigrateSteps$Script", "next", "I", false)
def tyX4 : Nat → FieldType := fun k => match k with
  | 0 => .array .int
  | 1 => .array .int
  | 2 => .object "MigrateSteps$Checks"
  | 3 => .object "MigrateSteps$Checks"
  | _ => .int
theorem nmX4 : ∀ a, a < 5 → ∀ b, b < 5 → a ≠ b → (TX4 a).2.1 ≠ (TX4 b).2.1 := by decide +kernel
theorem tyX4_ok : ∀ k, k < 5 → parseFieldDescriptor (TX4 k).2.2.1 = some (tyX4 k) := by decide +kernel
abbrev cX4_init : ByteArray := prog_6_method_1_code
def yX4_init : MethodName := ⟨RX4, "<init>", "([I[I)V"⟩
abbrev cX4_size : ByteArray := prog_6_method_2_code
def yX4_size : MethodName := ⟨RX4, "size", "()I"⟩
def RX5 : String := "MigrateSteps$ScriptText"
def TX5 : u_T := fun k => match k with
  | 0 => ("MigrateSteps$ScriptText", "signs", "[I", true)
  | 1 => ("MigrateSteps$ScriptText", "letters", "[I", true)
  | 2 => ("MigrateSteps$ScriptText", "numbers", "[I", true)
  | 3 => ("MigrateSteps$ScriptText", "size", "I", false)
  | _ => ("MigrateSteps$ScriptText", "commands", "I", false)
def tyX5 : Nat → FieldType := fun k => match k with
  | 0 => .array .int
  | 1 => .array .int
  | 2 => .array .int
  | 3 => .int
  | _ => .int
theorem nmX5 : ∀ a, a < 5 → ∀ b, b < 5 → a ≠ b → (TX5 a).2.1 ≠ (TX5 b).2.1 := by decide +kernel
theorem tyX5_ok : ∀ k, k < 5 → parseFieldDescriptor (TX5 k).2.2.1 = some (tyX5 k) := by decide +kernel
abbrev cX5_init : ByteArray := prog_7_method_1_code
def yX5_init : MethodName := ⟨RX5, "<init>", "()V"⟩
abbrev cX5_add : ByteArray := prog_7_method_2_code
def yX5_add : MethodName := ⟨RX5, "add", "(I)V"⟩
abbrev cX5_clear : ByteArray := prog_7_method_3_code
def yX5_clear : MethodName := ⟨RX5, "clear", "()V"⟩
abbrev cX5_parsed : ByteArray := prog_7_method_4_code
def yX5_parsed : MethodName := ⟨RX5, "parsed", "()LMigrateSteps$Script;"⟩
abbrev cX5_parse : ByteArray := prog_7_method_5_code
def yX5_parse : MethodName := ⟨RX5, "parse", "()I"⟩
abbrev cX5_signAt : ByteArray := prog_7_method_6_code
def yX5_signAt : MethodName := ⟨RX5, "signAt", "(I)I"⟩
abbrev cX5_digitsFrom : ByteArray := prog_7_method_7_code
def yX5_digitsFrom : MethodName := ⟨RX5, "digitsFrom", "(I)I"⟩
abbrev cX5_numberFrom : ByteArray := prog_7_method_8_code
def yX5_numberFrom : MethodName := ⟨RX5, "numberFrom", "(II)I"⟩
abbrev cX5_isLetter : ByteArray := prog_7_method_9_code
def yX5_isLetter : MethodName := ⟨RX5, "isLetter", "(I)Z"⟩
abbrev cX5_isDigit : ByteArray := prog_7_method_10_code
def yX5_isDigit : MethodName := ⟨RX5, "isDigit", "(I)Z"⟩
def RX6 : String := "MigrateSteps"
def TX6 : u_T := fun k => match k with
  | 0 => ("MigrateSteps", "text", "LMigrateSteps$ScriptText;", true)
  | 1 => ("MigrateSteps", "collected", "LMigrateSteps$ByteRow;", true)
  | 2 => ("MigrateSteps", "scripts", "[LMigrateSteps$Script;", true)
  | 3 => ("MigrateSteps", "items", "[LMigrateSteps$Item;", true)
  | 4 => ("MigrateSteps", "runner", "LMigrateSteps$Runner;", true)
  | 5 => ("MigrateSteps", "scriptCount", "I", false)
  | 6 => ("MigrateSteps", "itemCount", "I", false)
  | 7 => ("MigrateSteps", "openBatches", "I", false)
  | 8 => ("MigrateSteps", "wrongAt", "I", false)
  | _ => ("MigrateSteps", "metLast", "I", false)
def tyX6 : Nat → FieldType := fun k => match k with
  | 0 => .object "MigrateSteps$ScriptText"
  | 1 => .object "MigrateSteps$ByteRow"
  | 2 => .array (.object "MigrateSteps$Script")
  | 3 => .array (.object "MigrateSteps$Item")
  | 4 => .object "MigrateSteps$Runner"
  | 5 => .int
  | 6 => .int
  | 7 => .int
  | 8 => .int
  | _ => .int
theorem nmX6 : ∀ a, a < 10 → ∀ b, b < 10 → a ≠ b → (TX6 a).2.1 ≠ (TX6 b).2.1 := by decide +kernel
theorem tyX6_ok : ∀ k, k < 10 → parseFieldDescriptor (TX6 k).2.2.1 = some (tyX6 k) := by decide +kernel
abbrev cX6_init : ByteArray := prog_1_method_1_code
def yX6_init : MethodName := ⟨RX6, "<init>", "(II)V"⟩
abbrev cX6_sign : ByteArray := prog_1_method_2_code
def yX6_sign : MethodName := ⟨RX6, "sign", "(I)V"⟩
abbrev cX6_read : ByteArray := prog_1_method_3_code
def yX6_read : MethodName := ⟨RX6, "read", "()I"⟩
abbrev cX6_place : ByteArray := prog_1_method_4_code
def yX6_place : MethodName := ⟨RX6, "place", "()I"⟩
abbrev cX6_octet : ByteArray := prog_1_method_5_code
def yX6_octet : MethodName := ⟨RX6, "octet", "(I)V"⟩
abbrev cX6_original : ByteArray := prog_1_method_6_code
def yX6_original : MethodName := ⟨RX6, "original", "()I"⟩
abbrev cX6_check : ByteArray := prog_1_method_7_code
def yX6_check : MethodName := ⟨RX6, "check", "(IZII)I"⟩
abbrev cX6_migrate : ByteArray := prog_1_method_8_code
def yX6_migrate : MethodName := ⟨RX6, "migrate", "(II)I"⟩
abbrev cX6_chain : ByteArray := prog_1_method_9_code
def yX6_chain : MethodName := ⟨RX6, "chain", "(II)I"⟩
abbrev cX6_goesOn : ByteArray := prog_1_method_10_code
def yX6_goesOn : MethodName := ⟨RX6, "goesOn", "(II)I"⟩
abbrev cX6_what : ByteArray := prog_1_method_11_code
def yX6_what : MethodName := ⟨RX6, "what", "()I"⟩
abbrev cX6_failed : ByteArray := prog_1_method_12_code
def yX6_failed : MethodName := ⟨RX6, "failed", "()I"⟩
abbrev cX6_counted : ByteArray := prog_1_method_13_code
def yX6_counted : MethodName := ⟨RX6, "counted", "()J"⟩
abbrev cX6_batch : ByteArray := prog_1_method_14_code
def yX6_batch : MethodName := ⟨RX6, "batch", "(I)I"⟩
abbrev cX6_undo : ByteArray := prog_1_method_15_code
def yX6_undo : MethodName := ⟨RX6, "undo", "()I"⟩
abbrev cX6_drop : ByteArray := prog_1_method_16_code
def yX6_drop : MethodName := ⟨RX6, "drop", "(I)I"⟩
abbrev cX6_about : ByteArray := prog_1_method_17_code
def yX6_about : MethodName := ⟨RX6, "about", "(II)I"⟩
abbrev cX6_at : ByteArray := prog_1_method_18_code
def yX6_at : MethodName := ⟨RX6, "at", "(II)I"⟩
abbrev cX6_tried : ByteArray := prog_1_method_19_code
def yX6_tried : MethodName := ⟨RX6, "tried", "(I)I"⟩
abbrev cX6_scriptOf : ByteArray := prog_1_method_20_code
def yX6_scriptOf : MethodName := ⟨RX6, "scriptOf", "(I)LMigrateSteps$Script;"⟩
abbrev cX6_itemOf : ByteArray := prog_1_method_21_code
def yX6_itemOf : MethodName := ⟨RX6, "itemOf", "(I)LMigrateSteps$Item;"⟩
abbrev cX6_liveItem : ByteArray := prog_1_method_22_code
def yX6_liveItem : MethodName := ⟨RX6, "liveItem", "(I)LMigrateSteps$Item;"⟩
abbrev cX6_isOriginal : ByteArray := prog_1_method_23_code
def yX6_isOriginal : MethodName := ⟨RX6, "isOriginal", "(I)Z"⟩
abbrev cX6_hasDerived : ByteArray := prog_1_method_24_code
def yX6_hasDerived : MethodName := ⟨RX6, "hasDerived", "(I)Z"⟩
abbrev cX6_hasDerivedBy : ByteArray := prog_1_method_25_code
def yX6_hasDerivedBy : MethodName := ⟨RX6, "hasDerivedBy", "(II)Z"⟩
abbrev cX6_derive : ByteArray := prog_1_method_26_code
def yX6_derive : MethodName := ⟨RX6, "derive", "(II)I"⟩
abbrev cX6_against : ByteArray := prog_1_method_27_code
def yX6_against : MethodName := ⟨RX6, "against", "(I)I"⟩
abbrev cX6_keep : ByteArray := prog_1_method_28_code
def yX6_keep : MethodName := ⟨RX6, "keep", "(LMigrateSteps$Item;)I"⟩
abbrev cX6_dismiss : ByteArray := prog_1_method_29_code
def yX6_dismiss : MethodName := ⟨RX6, "dismiss", "(I)I"⟩
abbrev cX6_nextOf : ByteArray := prog_1_method_30_code
def yX6_nextOf : MethodName := ⟨RX6, "nextOf", "(I)I"⟩
abbrev cX6_comesTo : ByteArray := prog_1_method_31_code
def yX6_comesTo : MethodName := ⟨RX6, "comesTo", "(II)Z"⟩
abbrev cX6_joinBatch : ByteArray := prog_1_method_32_code
def yX6_joinBatch : MethodName := ⟨RX6, "joinBatch", "(I)Z"⟩
abbrev cX6_leaveBatch : ByteArray := prog_1_method_33_code
def yX6_leaveBatch : MethodName := ⟨RX6, "leaveBatch", "(I)Z"⟩
def RX7 : String := "MigrateStepsModel"
def TX7 : u_T := fun k => match k with
  | 0 => ("MigrateStepsModel", "thrown", "I", false)
  | 1 => ("MigrateStepsModel", "steps", "I", true)
  | 2 => ("MigrateStepsModel", "cells", "I", true)
  | 3 => ("MigrateStepsModel", "told", "I", false)
  | 4 => ("MigrateStepsModel", "text", "[B", true)
  | 5 => ("MigrateStepsModel", "at", "I", false)
  | 6 => ("MigrateStepsModel", "wrong", "I", false)
  | 7 => ("MigrateStepsModel", "scripts", "I", false)
  | 8 => ("MigrateStepsModel", "commands", "[I", true)
  | 9 => ("MigrateStepsModel", "letter", "[I", true)
  | 10 => ("MigrateStepsModel", "value", "[I", true)
  | 11 => ("MigrateStepsModel", "next", "[I", true)
  | 12 => ("MigrateStepsModel", "checks", "[I", true)
  | 13 => ("MigrateStepsModel", "checkKind", "[I", true)
  | 14 => ("MigrateStepsModel", "checkValue", "[I", true)
  | 15 => ("MigrateStepsModel", "collected", "I", false)
  | 16 => ("MigrateStepsModel", "said", "[B", true)
  | 17 => ("MigrateStepsModel", "items", "I", false)
  | 18 => ("MigrateStepsModel", "size", "[I", true)
  | 19 => ("MigrateStepsModel", "content", "[B", true)
  | 20 => ("MigrateStepsModel", "from", "[I", true)
  | 21 => ("MigrateStepsModel", "by", "[I", true)
  | 22 => ("MigrateStepsModel", "gone", "[Z", true)
  | 23 => ("MigrateStepsModel", "ofBatch", "[I", true)
  | 24 => ("MigrateStepsModel", "batches", "I", false)
  | 25 => ("MigrateStepsModel", "undone", "[Z", true)
  | 26 => ("MigrateStepsModel", "against", "I", false)
  | 27 => ("MigrateStepsModel", "failed", "I", false)
  | 28 => ("MigrateStepsModel", "tried", "I", false)
  | 29 => ("MigrateStepsModel", "out", "[B", true)
  | 30 => ("MigrateStepsModel", "memory", "[I", true)
  | _ => ("MigrateStepsModel", "counted", "J", false)
def tyX7 : Nat → FieldType := fun k => match k with
  | 0 => .int
  | 1 => .int
  | 2 => .int
  | 3 => .int
  | 4 => .array .byte
  | 5 => .int
  | 6 => .int
  | 7 => .int
  | 8 => .array .int
  | 9 => .array .int
  | 10 => .array .int
  | 11 => .array .int
  | 12 => .array .int
  | 13 => .array .int
  | 14 => .array .int
  | 15 => .int
  | 16 => .array .byte
  | 17 => .int
  | 18 => .array .int
  | 19 => .array .byte
  | 20 => .array .int
  | 21 => .array .int
  | 22 => .array .boolean
  | 23 => .array .int
  | 24 => .int
  | 25 => .array .boolean
  | 26 => .int
  | 27 => .int
  | 28 => .int
  | 29 => .array .byte
  | 30 => .array .int
  | _ => .long
theorem nmX7 : ∀ a, a < 32 → ∀ b, b < 32 → a ≠ b → (TX7 a).2.1 ≠ (TX7 b).2.1 := by decide +kernel
theorem tyX7_ok : ∀ k, k < 32 → parseFieldDescriptor (TX7 k).2.2.1 = some (tyX7 k) := by decide +kernel
abbrev cX7_init : ByteArray := prog_9_method_1_code
def yX7_init : MethodName := ⟨RX7, "<init>", "(II)V"⟩
abbrev cX7_thrown : ByteArray := prog_9_method_2_code
def yX7_thrown : MethodName := ⟨RX7, "thrown", "()I"⟩
abbrev cX7_in : ByteArray := prog_9_method_3_code
def yX7_in : MethodName := ⟨RX7, "in", "(III)Z"⟩
abbrev cX7_isScript : ByteArray := prog_9_method_4_code
def yX7_isScript : MethodName := ⟨RX7, "isScript", "(I)Z"⟩
abbrev cX7_isItem : ByteArray := prog_9_method_5_code
def yX7_isItem : MethodName := ⟨RX7, "isItem", "(I)Z"⟩
abbrev cX7_sign : ByteArray := prog_9_method_6_code
def yX7_sign : MethodName := ⟨RX7, "sign", "(I)V"⟩
abbrev cX7_look : ByteArray := prog_9_method_7_code
def yX7_look : MethodName := ⟨RX7, "look", "()I"⟩
abbrev cX7_isLetter : ByteArray := prog_9_method_8_code
def yX7_isLetter : MethodName := ⟨RX7, "isLetter", "(I)Z"⟩
abbrev cX7_command : ByteArray := prog_9_method_9_code
def yX7_command : MethodName := ⟨RX7, "command", "(I)Z"⟩
abbrev cX7_reads : ByteArray := prog_9_method_10_code
def yX7_reads : MethodName := ⟨RX7, "reads", "()Z"⟩
abbrev cX7_read : ByteArray := prog_9_method_11_code
def yX7_read : MethodName := ⟨RX7, "read", "()I"⟩
abbrev cX7_place : ByteArray := prog_9_method_12_code
def yX7_place : MethodName := ⟨RX7, "place", "()I"⟩
abbrev cX7_put : ByteArray := prog_9_method_13_code
def yX7_put : MethodName := ⟨RX7, "put", "(II)V"⟩
abbrev cX7_run : ByteArray := prog_9_method_14_code
def yX7_run : MethodName := ⟨RX7, "run", "(II)I"⟩
abbrev cX7_octet : ByteArray := prog_9_method_15_code
def yX7_octet : MethodName := ⟨RX7, "octet", "(I)V"⟩
abbrev cX7_original : ByteArray := prog_9_method_16_code
def yX7_original : MethodName := ⟨RX7, "original", "()I"⟩
abbrev cX7_check : ByteArray := prog_9_method_17_code
def yX7_check : MethodName := ⟨RX7, "check", "(IZII)I"⟩
abbrev cX7_holds : ByteArray := prog_9_method_18_code
def yX7_holds : MethodName := ⟨RX7, "holds", "(IIIII)Z"⟩
abbrev cX7_allHold : ByteArray := prog_9_method_19_code
def yX7_allHold : MethodName := ⟨RX7, "allHold", "(II)Z"⟩
abbrev cX7_hasDerived : ByteArray := prog_9_method_20_code
def yX7_hasDerived : MethodName := ⟨RX7, "hasDerived", "(II)Z"⟩
abbrev cX7_derive : ByteArray := prog_9_method_21_code
def yX7_derive : MethodName := ⟨RX7, "derive", "(II)I"⟩
abbrev cX7_can : ByteArray := prog_9_method_22_code
def yX7_can : MethodName := ⟨RX7, "can", "(II)Z"⟩
abbrev cX7_migrate : ByteArray := prog_9_method_23_code
def yX7_migrate : MethodName := ⟨RX7, "migrate", "(II)I"⟩
abbrev cX7_chain : ByteArray := prog_9_method_24_code
def yX7_chain : MethodName := ⟨RX7, "chain", "(II)I"⟩
abbrev cX7_goesOn : ByteArray := prog_9_method_25_code
def yX7_goesOn : MethodName := ⟨RX7, "goesOn", "(II)I"⟩
abbrev cX7_what : ByteArray := prog_9_method_26_code
def yX7_what : MethodName := ⟨RX7, "what", "()I"⟩
abbrev cX7_failed : ByteArray := prog_9_method_27_code
def yX7_failed : MethodName := ⟨RX7, "failed", "()I"⟩
abbrev cX7_counted : ByteArray := prog_9_method_28_code
def yX7_counted : MethodName := ⟨RX7, "counted", "()J"⟩
abbrev cX7_batch : ByteArray := prog_9_method_29_code
def yX7_batch : MethodName := ⟨RX7, "batch", "(I)I"⟩
abbrev cX7_goes : ByteArray := prog_9_method_30_code
def yX7_goes : MethodName := ⟨RX7, "goes", "(I)Z"⟩
abbrev cX7_undo : ByteArray := prog_9_method_31_code
def yX7_undo : MethodName := ⟨RX7, "undo", "()I"⟩
abbrev cX7_drop : ByteArray := prog_9_method_32_code
def yX7_drop : MethodName := ⟨RX7, "drop", "(I)I"⟩
abbrev cX7_about : ByteArray := prog_9_method_33_code
def yX7_about : MethodName := ⟨RX7, "about", "(II)I"⟩
abbrev cX7_at : ByteArray := prog_9_method_34_code
def yX7_at : MethodName := ⟨RX7, "at", "(II)I"⟩
abbrev cX7_tried : ByteArray := prog_9_method_35_code
def yX7_tried : MethodName := ⟨RX7, "tried", "(I)I"⟩
def RJx00060 : String := "java/lang/ArrayIndexOutOfBoundsException"
def TJx00060 : u_T := fun k => match k with
  | 0 => ("java/lang/Throwable", "cause", "Ljava/lang/Throwable;", false)
  | 1 => ("java/lang/Throwable", "stackTrace", "[Ljava/lang/StackTraceElement;", false)
  | 2 => ("java/lang/Throwable", "suppressedExceptions", "Ljava/util/List;", false)
  | 3 => ("java/lang/Throwable", "detailMessage", "Ljava/lang/String;", false)
  | 4 => ("java/lang/Throwable", "backtrace", "Ljava/lang/Object;", false)
  | _ => ("java/lang/Throwable", "depth", "I", false)
def tyJx00060 : Nat → FieldType := fun k => match k with
  | 0 => .object "java/lang/Throwable"
  | 1 => .array (.object "java/lang/StackTraceElement")
  | 2 => .object "java/util/List"
  | 3 => .object "java/lang/String"
  | 4 => .object "java/lang/Object"
  | _ => .int
theorem nmJx00060 : ∀ a, a < 6 → ∀ b, b < 6 → a ≠ b → (TJx00060 a).2.1 ≠ (TJx00060 b).2.1 := by decide +kernel
theorem tyJx00060_ok : ∀ k, k < 6 → parseFieldDescriptor (TJx00060 k).2.2.1 = some (tyJx00060 k) := by decide +kernel
abbrev cJx00060_init_a7421 : ByteArray := prog_10_method_2_code
def yJx00060_init_a7421 : MethodName := ⟨RJx00060, "<init>", "(Ljava/lang/String;)V"⟩
def RJ11 : String := "java/lang/Character"
def TJ11 : u_T := fun k => match k with
  | _ => ("", "", "", false)
def tyJ11 : Nat → FieldType := fun k => match k with
  | _ => .int
theorem nmJ11 : ∀ a, a < 0 → ∀ b, b < 0 → a ≠ b → (TJ11 a).2.1 ≠ (TJ11 b).2.1 := by decide +kernel
theorem tyJ11_ok : ∀ k, k < 0 → parseFieldDescriptor (TJ11 k).2.2.1 = some (tyJ11 k) := by decide +kernel
abbrev cJ11_isValidCodePoint_9a6ad : ByteArray := prog_11_method_11_code
def yJ11_isValidCodePoint_9a6ad : MethodName := ⟨RJ11, "isValidCodePoint", "(I)Z"⟩
abbrev cJ11_highSurrogate_5068e : ByteArray := prog_11_method_28_code
def yJ11_highSurrogate_5068e : MethodName := ⟨RJ11, "highSurrogate", "(I)C"⟩
abbrev cJ11_lowSurrogate_5068e : ByteArray := prog_11_method_29_code
def yJ11_lowSurrogate_5068e : MethodName := ⟨RJ11, "lowSurrogate", "(I)C"⟩
def RJx8e188 : String := "java/lang/Cloneable"
def TJx8e188 : u_T := fun k => match k with
  | _ => ("", "", "", false)
def tyJx8e188 : Nat → FieldType := fun k => match k with
  | _ => .int
theorem nmJx8e188 : ∀ a, a < 0 → ∀ b, b < 0 → a ≠ b → (TJx8e188 a).2.1 ≠ (TJx8e188 b).2.1 := by decide +kernel
theorem tyJx8e188_ok : ∀ k, k < 0 → parseFieldDescriptor (TJx8e188 k).2.2.1 = some (tyJx8e188 k) := by decide +kernel
def RJ9 : String := "java/lang/Math"
def TJ9 : u_T := fun k => match k with
  | _ => ("", "", "", false)
def tyJ9 : Nat → FieldType := fun k => match k with
  | _ => .int
theorem nmJ9 : ∀ a, a < 0 → ∀ b, b < 0 → a ≠ b → (TJ9 a).2.1 ≠ (TJ9 b).2.1 := by decide +kernel
theorem tyJ9_ok : ∀ k, k < 0 → parseFieldDescriptor (TJ9 k).2.2.1 = some (tyJ9 k) := by decide +kernel
abbrev cJ9_max_7cf53 : ByteArray := prog_16_method_65_code
def yJ9_max_7cf53 : MethodName := ⟨RJ9, "max", "(II)I"⟩
abbrev cJ9_min_7cf53 : ByteArray := prog_16_method_69_code
def yJ9_min_7cf53 : MethodName := ⟨RJ9, "min", "(II)I"⟩
def RJ0 : String := "java/lang/String"
def TJ0 : u_T := fun k => match k with
  | _ => ("", "", "", false)
def tyJ0 : Nat → FieldType := fun k => match k with
  | _ => .int
theorem nmJ0 : ∀ a, a < 0 → ∀ b, b < 0 → a ≠ b → (TJ0 a).2.1 ≠ (TJ0 b).2.1 := by decide +kernel
theorem tyJ0_ok : ∀ k, k < 0 → parseFieldDescriptor (TJ0 k).2.2.1 = some (tyJ0 k) := by decide +kernel
abbrev cJ0_length_8abf5 : ByteArray := prog_18_method_54_code
def yJ0_length_8abf5 : MethodName := ⟨RJ0, "length", "()I"⟩
abbrev cJ0_indexOf_0f7a4 : ByteArray := prog_18_method_79_code
def yJ0_indexOf_0f7a4 : MethodName := ⟨RJ0, "indexOf", "(I)I"⟩
abbrev cJ0_indexOf_7cf53 : ByteArray := prog_18_method_80_code
def yJ0_indexOf_7cf53 : MethodName := ⟨RJ0, "indexOf", "(II)I"⟩
abbrev cJ0_coder_7d493 : ByteArray := prog_18_method_152_code
def yJ0_coder_7d493 : MethodName := ⟨RJ0, "coder", "()B"⟩
abbrev cJ0_isLatin1_aae02 : ByteArray := prog_18_method_154_code
def yJ0_isLatin1_aae02 : MethodName := ⟨RJ0, "isLatin1", "()Z"⟩
abbrev cJ0_checkBoundsBeginEnd_23922 : ByteArray := prog_18_method_158_code
def yJ0_checkBoundsBeginEnd_23922 : MethodName := ⟨RJ0, "checkBoundsBeginEnd", "(III)V"⟩
def RJ1 : String := "java/lang/StringLatin1"
def TJ1 : u_T := fun k => match k with
  | _ => ("", "", "", false)
def tyJ1 : Nat → FieldType := fun k => match k with
  | _ => .int
theorem nmJ1 : ∀ a, a < 0 → ∀ b, b < 0 → a ≠ b → (TJ1 a).2.1 ≠ (TJ1 b).2.1 := by decide +kernel
theorem tyJ1_ok : ∀ k, k < 0 → parseFieldDescriptor (TJ1 k).2.2.1 = some (tyJ1 k) := by decide +kernel
abbrev cJ1_canEncode_9a6ad : ByteArray := prog_19_method_4_code
def yJ1_canEncode_9a6ad : MethodName := ⟨RJ1, "canEncode", "(I)Z"⟩
abbrev cJ1_indexOf_4cfef : ByteArray := prog_19_method_22_code
def yJ1_indexOf_4cfef : MethodName := ⟨RJ1, "indexOf", "([BIII)I"⟩
abbrev cJ1_indexOfChar_4cfef : ByteArray := prog_19_method_23_code
def yJ1_indexOfChar_4cfef : MethodName := ⟨RJ1, "indexOfChar", "([BIII)I"⟩
def RJ2 : String := "java/lang/StringUTF16"
def TJ2 : u_T := fun k => match k with
  | _ => ("", "", "", false)
def tyJ2 : Nat → FieldType := fun k => match k with
  | _ => .int
theorem nmJ2 : ∀ a, a < 0 → ∀ b, b < 0 → a ≠ b → (TJ2 a).2.1 ≠ (TJ2 b).2.1 := by decide +kernel
theorem tyJ2_ok : ∀ k, k < 0 → parseFieldDescriptor (TJ2 k).2.2.1 = some (tyJ2 k) := by decide +kernel
abbrev cJ2_getChar_3b067 : ByteArray := prog_20_method_5_code
def yJ2_getChar_3b067 : MethodName := ⟨RJ2, "getChar", "([BI)C"⟩
abbrev cJ2_length_9d52b : ByteArray := prog_20_method_6_code
def yJ2_length_9d52b : MethodName := ⟨RJ2, "length", "([B)I"⟩
abbrev cJ2_indexOf_4cfef : ByteArray := prog_20_method_40_code
def yJ2_indexOf_4cfef : MethodName := ⟨RJ2, "indexOf", "([BIII)I"⟩
abbrev cJ2_indexOfChar_4cfef : ByteArray := prog_20_method_47_code
def yJ2_indexOfChar_4cfef : MethodName := ⟨RJ2, "indexOfChar", "([BIII)I"⟩
abbrev cJ2_indexOfCharUnsafe_4cfef : ByteArray := prog_20_method_48_code
def yJ2_indexOfCharUnsafe_4cfef : MethodName := ⟨RJ2, "indexOfCharUnsafe", "([BIII)I"⟩
abbrev cJ2_indexOfSupplementary_4cfef : ByteArray := prog_20_method_49_code
def yJ2_indexOfSupplementary_4cfef : MethodName := ⟨RJ2, "indexOfSupplementary", "([BIII)I"⟩
abbrev cJ2_checkBoundsBeginEnd_d044e : ByteArray := prog_20_method_93_code
def yJ2_checkBoundsBeginEnd_d044e : MethodName := ⟨RJ2, "checkBoundsBeginEnd", "(II[B)V"⟩
def RJ10 : String := "java/lang/System"
def TJ10 : u_T := fun k => match k with
  | _ => ("", "", "", false)
def tyJ10 : Nat → FieldType := fun k => match k with
  | _ => .int
theorem nmJ10 : ∀ a, a < 0 → ∀ b, b < 0 → a ≠ b → (TJ10 a).2.1 ≠ (TJ10 b).2.1 := by decide +kernel
theorem tyJ10_ok : ∀ k, k < 0 → parseFieldDescriptor (TJ10 k).2.2.1 = some (tyJ10 k) := by decide +kernel
def RJ7 : String := "java/util/Arrays"
def TJ7 : u_T := fun k => match k with
  | _ => ("", "", "", false)
def tyJ7 : Nat → FieldType := fun k => match k with
  | _ => .int
theorem nmJ7 : ∀ a, a < 0 → ∀ b, b < 0 → a ≠ b → (TJ7 a).2.1 ≠ (TJ7 b).2.1 := by decide +kernel
theorem tyJ7_ok : ∀ k, k < 0 → parseFieldDescriptor (TJ7 k).2.2.1 = some (tyJ7 k) := by decide +kernel
abbrev cJ7_fill_53178 : ByteArray := prog_23_method_103_code
def yJ7_fill_53178 : MethodName := ⟨RJ7, "fill", "([II)V"⟩
abbrev cJ7_copyOf_59c91 : ByteArray := prog_23_method_123_code
def yJ7_copyOf_59c91 : MethodName := ⟨RJ7, "copyOf", "([II)[I"⟩
def RJ3 : String := "jdk/internal/util/Preconditions"
def TJ3 : u_T := fun k => match k with
  | _ => ("", "", "", false)
def tyJ3 : Nat → FieldType := fun k => match k with
  | _ => .int
theorem nmJ3 : ∀ a, a < 0 → ∀ b, b < 0 → a ≠ b → (TJ3 a).2.1 ≠ (TJ3 b).2.1 := by decide +kernel
theorem tyJ3_ok : ∀ k, k < 0 → parseFieldDescriptor (TJ3 k).2.2.1 = some (tyJ3 k) := by decide +kernel
abbrev cJ3_checkFromToIndex_8c36e : ByteArray := prog_24_method_12_code
def yJ3_checkFromToIndex_8c36e : MethodName := ⟨RJ3, "checkFromToIndex", "(IIILjava/util/function/BiFunction;)I"⟩
def RL : String := "MigrateStepsLaw"
abbrev cL_cell : ByteArray := method_2_code
def yL_cell : MethodName := ⟨RL, "cell", "([II)I"⟩
abbrev cL_read : ByteArray := method_3_code
def yL_read : MethodName := ⟨RL, "read", "(LMigrateSteps;[J)I"⟩
abbrev cL_at : ByteArray := method_4_code
def yL_at : MethodName := ⟨RL, "at", "(LMigrateSteps;II[J)I"⟩
abbrev cL_law : ByteArray := code
def yL_law : MethodName := ⟨RL, "law", "([I)Z"⟩
end
section
theorem dX0_init_0 : decode cX0_init 0 = .ok (.aload_n 0, 1) := by decide +kernel
theorem dX0_init_1 : decode cX0_init 1 = .ok (.invokespecial 3, 3) := by decide +kernel
theorem dX0_init_4 : decode cX0_init 4 = .ok (.aload_n 0, 1) := by decide +kernel
theorem dX0_init_5 : decode cX0_init 5 = .ok (.aload_n 1, 1) := by decide +kernel
theorem dX0_init_6 : decode cX0_init 6 = .ok (.putfield 9, 3) := by decide +kernel
theorem dX0_init_9 : decode cX0_init 9 = .ok (.aload_n 0, 1) := by decide +kernel
theorem dX0_init_10 : decode cX0_init 10 = .ok (.iload_n 2, 1) := by decide +kernel
theorem dX0_init_11 : decode cX0_init 11 = .ok (.putfield 15, 3) := by decide +kernel
theorem dX0_init_14 : decode cX0_init 14 = .ok (.return_, 1) := by decide +kernel
theorem dX0_add_0 : decode cX0_add 0 = .ok (.aload_n 0, 1) := by decide +kernel
theorem dX0_add_1 : decode cX0_add 1 = .ok (.getfield 15, 3) := by decide +kernel
theorem dX0_add_4 : decode cX0_add 4 = .ok (.ifCond .lt 15, 3) := by decide +kernel
theorem dX0_add_7 : decode cX0_add 7 = .ok (.aload_n 0, 1) := by decide +kernel
theorem dX0_add_8 : decode cX0_add 8 = .ok (.getfield 15, 3) := by decide +kernel
theorem dX0_add_11 : decode cX0_add 11 = .ok (.aload_n 0, 1) := by decide +kernel
theorem dX0_add_12 : decode cX0_add 12 = .ok (.getfield 9, 3) := by decide +kernel
theorem dX0_add_15 : decode cX0_add 15 = .ok (.arraylength, 1) := by decide +kernel
theorem dX0_add_16 : decode cX0_add 16 = .ok (.if_icmp .lt 5, 3) := by decide +kernel
theorem dX0_add_19 : decode cX0_add 19 = .ok (.iconst 0, 1) := by decide +kernel
theorem dX0_add_20 : decode cX0_add 20 = .ok (.ireturn, 1) := by decide +kernel
theorem dX0_add_21 : decode cX0_add 21 = .ok (.aload_n 0, 1) := by decide +kernel
theorem dX0_add_22 : decode cX0_add 22 = .ok (.getfield 9, 3) := by decide +kernel
theorem dX0_add_25 : decode cX0_add 25 = .ok (.aload_n 0, 1) := by decide +kernel
theorem dX0_add_26 : decode cX0_add 26 = .ok (.getfield 15, 3) := by decide +kernel
theorem dX0_add_29 : decode cX0_add 29 = .ok (.iload_n 1, 1) := by decide +kernel
theorem dX0_add_30 : decode cX0_add 30 = .ok (.iastore, 1) := by decide +kernel
theorem dX0_add_31 : decode cX0_add 31 = .ok (.aload_n 0, 1) := by decide +kernel
theorem dX0_add_32 : decode cX0_add 32 = .ok (.dup, 1) := by decide +kernel
theorem dX0_add_33 : decode cX0_add 33 = .ok (.getfield 15, 3) := by decide +kernel
theorem dX0_add_36 : decode cX0_add 36 = .ok (.iconst 1, 1) := by decide +kernel
theorem dX0_add_37 : decode cX0_add 37 = .ok (.iadd, 1) := by decide +kernel
theorem dX0_add_38 : decode cX0_add 38 = .ok (.putfield 15, 3) := by decide +kernel
theorem dX0_add_41 : decode cX0_add 41 = .ok (.iconst 1, 1) := by decide +kernel
theorem dX0_add_42 : decode cX0_add 42 = .ok (.ireturn, 1) := by decide +kernel
theorem dX0_clear_0 : decode cX0_clear 0 = .ok (.aload_n 0, 1) := by decide +kernel
theorem dX0_clear_1 : decode cX0_clear 1 = .ok (.iconst 0, 1) := by decide +kernel
theorem dX0_clear_2 : decode cX0_clear 2 = .ok (.putfield 15, 3) := by decide +kernel
theorem dX0_clear_5 : decode cX0_clear 5 = .ok (.return_, 1) := by decide +kernel
theorem dX0_byteAt_0 : decode cX0_byteAt 0 = .ok (.iload_n 1, 1) := by decide +kernel
theorem dX0_byteAt_1 : decode cX0_byteAt 1 = .ok (.ifCond .lt 29, 3) := by decide +kernel
theorem dX0_byteAt_4 : decode cX0_byteAt 4 = .ok (.iload_n 1, 1) := by decide +kernel
theorem dX0_byteAt_5 : decode cX0_byteAt 5 = .ok (.aload_n 0, 1) := by decide +kernel
theorem dX0_byteAt_6 : decode cX0_byteAt 6 = .ok (.getfield 15, 3) := by decide +kernel
theorem dX0_byteAt_9 : decode cX0_byteAt 9 = .ok (.if_icmp .ge 21, 3) := by decide +kernel
theorem dX0_byteAt_12 : decode cX0_byteAt 12 = .ok (.iload_n 1, 1) := by decide +kernel
theorem dX0_byteAt_13 : decode cX0_byteAt 13 = .ok (.aload_n 0, 1) := by decide +kernel
theorem dX0_byteAt_14 : decode cX0_byteAt 14 = .ok (.getfield 9, 3) := by decide +kernel
theorem dX0_byteAt_17 : decode cX0_byteAt 17 = .ok (.arraylength, 1) := by decide +kernel
theorem dX0_byteAt_18 : decode cX0_byteAt 18 = .ok (.if_icmp .ge 12, 3) := by decide +kernel
theorem dX0_byteAt_21 : decode cX0_byteAt 21 = .ok (.aload_n 0, 1) := by decide +kernel
theorem dX0_byteAt_22 : decode cX0_byteAt 22 = .ok (.getfield 9, 3) := by decide +kernel
theorem dX0_byteAt_25 : decode cX0_byteAt 25 = .ok (.iload_n 1, 1) := by decide +kernel
theorem dX0_byteAt_26 : decode cX0_byteAt 26 = .ok (.iaload, 1) := by decide +kernel
theorem dX0_byteAt_27 : decode cX0_byteAt 27 = .ok (.goto 4, 3) := by decide +kernel
theorem dX0_byteAt_30 : decode cX0_byteAt 30 = .ok (.iconst (-1), 1) := by decide +kernel
theorem dX0_byteAt_31 : decode cX0_byteAt 31 = .ok (.ireturn, 1) := by decide +kernel
theorem dX0_sum_0 : decode cX0_sum 0 = .ok (.iconst 0, 1) := by decide +kernel
theorem dX0_sum_1 : decode cX0_sum 1 = .ok (.istore_n 1, 1) := by decide +kernel
theorem dX0_sum_2 : decode cX0_sum 2 = .ok (.iconst 0, 1) := by decide +kernel
theorem dX0_sum_3 : decode cX0_sum 3 = .ok (.istore_n 2, 1) := by decide +kernel
theorem dX0_sum_4 : decode cX0_sum 4 = .ok (.iload_n 2, 1) := by decide +kernel
theorem dX0_sum_5 : decode cX0_sum 5 = .ok (.aload_n 0, 1) := by decide +kernel
theorem dX0_sum_6 : decode cX0_sum 6 = .ok (.getfield 15, 3) := by decide +kernel
theorem dX0_sum_9 : decode cX0_sum 9 = .ok (.if_icmp .ge 17, 3) := by decide +kernel
theorem dX0_sum_12 : decode cX0_sum 12 = .ok (.iload_n 1, 1) := by decide +kernel
theorem dX0_sum_13 : decode cX0_sum 13 = .ok (.aload_n 0, 1) := by decide +kernel
theorem dX0_sum_14 : decode cX0_sum 14 = .ok (.iload_n 2, 1) := by decide +kernel
theorem dX0_sum_15 : decode cX0_sum 15 = .ok (.invokevirtual 19, 3) := by decide +kernel
theorem dX0_sum_18 : decode cX0_sum 18 = .ok (.iadd, 1) := by decide +kernel
theorem dX0_sum_19 : decode cX0_sum 19 = .ok (.istore_n 1, 1) := by decide +kernel
theorem dX0_sum_20 : decode cX0_sum 20 = .ok (.iinc 2 1, 3) := by decide +kernel
theorem dX0_sum_23 : decode cX0_sum 23 = .ok (.goto (-19), 3) := by decide +kernel
theorem dX0_sum_26 : decode cX0_sum 26 = .ok (.iload_n 1, 1) := by decide +kernel
theorem dX0_sum_27 : decode cX0_sum 27 = .ok (.sipush 255, 3) := by decide +kernel
theorem dX0_sum_30 : decode cX0_sum 30 = .ok (.iand, 1) := by decide +kernel
theorem dX0_sum_31 : decode cX0_sum 31 = .ok (.ireturn, 1) := by decide +kernel
theorem dX0_copy_0 : decode cX0_copy 0 = .ok (.new 10, 3) := by decide +kernel
theorem dX0_copy_3 : decode cX0_copy 3 = .ok (.dup, 1) := by decide +kernel
theorem dX0_copy_4 : decode cX0_copy 4 = .ok (.aload_n 0, 1) := by decide +kernel
theorem dX0_copy_5 : decode cX0_copy 5 = .ok (.getfield 9, 3) := by decide +kernel
theorem dX0_copy_8 : decode cX0_copy 8 = .ok (.aload_n 0, 1) := by decide +kernel
theorem dX0_copy_9 : decode cX0_copy 9 = .ok (.getfield 15, 3) := by decide +kernel
theorem dX0_copy_12 : decode cX0_copy 12 = .ok (.invokestatic 23, 3) := by decide +kernel
theorem dX0_copy_15 : decode cX0_copy 15 = .ok (.aload_n 0, 1) := by decide +kernel
theorem dX0_copy_16 : decode cX0_copy 16 = .ok (.getfield 15, 3) := by decide +kernel
theorem dX0_copy_19 : decode cX0_copy 19 = .ok (.invokespecial 29, 3) := by decide +kernel
theorem dX0_copy_22 : decode cX0_copy 22 = .ok (.areturn, 1) := by decide +kernel
theorem dX1_init_0 : decode cX1_init 0 = .ok (.aload_n 0, 1) := by decide +kernel
theorem dX1_init_1 : decode cX1_init 1 = .ok (.invokespecial 3, 3) := by decide +kernel
theorem dX1_init_4 : decode cX1_init 4 = .ok (.aload_n 0, 1) := by decide +kernel
theorem dX1_init_5 : decode cX1_init 5 = .ok (.iconst 4, 1) := by decide +kernel
theorem dX1_init_6 : decode cX1_init 6 = .ok (.newarray .int, 2) := by decide +kernel
theorem dX1_init_8 : decode cX1_init 8 = .ok (.putfield 9, 3) := by decide +kernel
theorem dX1_init_11 : decode cX1_init 11 = .ok (.aload_n 0, 1) := by decide +kernel
theorem dX1_init_12 : decode cX1_init 12 = .ok (.iconst 4, 1) := by decide +kernel
theorem dX1_init_13 : decode cX1_init 13 = .ok (.newarray .int, 2) := by decide +kernel
theorem dX1_init_15 : decode cX1_init 15 = .ok (.putfield 15, 3) := by decide +kernel
theorem dX1_init_18 : decode cX1_init 18 = .ok (.aload_n 0, 1) := by decide +kernel
theorem dX1_init_19 : decode cX1_init 19 = .ok (.iconst 0, 1) := by decide +kernel
theorem dX1_init_20 : decode cX1_init 20 = .ok (.putfield 18, 3) := by decide +kernel
theorem dX1_init_23 : decode cX1_init 23 = .ok (.return_, 1) := by decide +kernel
theorem dX1_add_0 : decode cX1_add 0 = .ok (.aload_n 0, 1) := by decide +kernel
theorem dX1_add_1 : decode cX1_add 1 = .ok (.getfield 18, 3) := by decide +kernel
theorem dX1_add_4 : decode cX1_add 4 = .ok (.iconst 4, 1) := by decide +kernel
theorem dX1_add_5 : decode cX1_add 5 = .ok (.if_icmp .lt 6, 3) := by decide +kernel
theorem dX1_add_8 : decode cX1_add 8 = .ok (.bipush (-4), 2) := by decide +kernel
theorem dX1_add_10 : decode cX1_add 10 = .ok (.ireturn, 1) := by decide +kernel
theorem dX1_add_11 : decode cX1_add 11 = .ok (.aload_n 0, 1) := by decide +kernel
theorem dX1_add_12 : decode cX1_add 12 = .ok (.getfield 9, 3) := by decide +kernel
theorem dX1_add_15 : decode cX1_add 15 = .ok (.aload_n 0, 1) := by decide +kernel
theorem dX1_add_16 : decode cX1_add 16 = .ok (.getfield 18, 3) := by decide +kernel
theorem dX1_add_19 : decode cX1_add 19 = .ok (.iload_n 1, 1) := by decide +kernel
theorem dX1_add_20 : decode cX1_add 20 = .ok (.iastore, 1) := by decide +kernel
theorem dX1_add_21 : decode cX1_add 21 = .ok (.aload_n 0, 1) := by decide +kernel
theorem dX1_add_22 : decode cX1_add 22 = .ok (.getfield 15, 3) := by decide +kernel
theorem dX1_add_25 : decode cX1_add 25 = .ok (.aload_n 0, 1) := by decide +kernel
theorem dX1_add_26 : decode cX1_add 26 = .ok (.getfield 18, 3) := by decide +kernel
theorem dX1_add_29 : decode cX1_add 29 = .ok (.iload_n 2, 1) := by decide +kernel
theorem dX1_add_30 : decode cX1_add 30 = .ok (.iastore, 1) := by decide +kernel
theorem dX1_add_31 : decode cX1_add 31 = .ok (.aload_n 0, 1) := by decide +kernel
theorem dX1_add_32 : decode cX1_add 32 = .ok (.dup, 1) := by decide +kernel
theorem dX1_add_33 : decode cX1_add 33 = .ok (.getfield 18, 3) := by decide +kernel
theorem dX1_add_36 : decode cX1_add 36 = .ok (.iconst 1, 1) := by decide +kernel
theorem dX1_add_37 : decode cX1_add 37 = .ok (.iadd, 1) := by decide +kernel
theorem dX1_add_38 : decode cX1_add 38 = .ok (.putfield 18, 3) := by decide +kernel
theorem dX1_add_41 : decode cX1_add 41 = .ok (.aload_n 0, 1) := by decide +kernel
theorem dX1_add_42 : decode cX1_add 42 = .ok (.getfield 18, 3) := by decide +kernel
theorem dX1_add_45 : decode cX1_add 45 = .ok (.ireturn, 1) := by decide +kernel
theorem dX1_hold_0 : decode cX1_hold 0 = .ok (.iconst 0, 1) := by decide +kernel
theorem dX1_hold_1 : decode cX1_hold 1 = .ok (.istore_n 2, 1) := by decide +kernel
theorem dX1_hold_2 : decode cX1_hold 2 = .ok (.iload_n 2, 1) := by decide +kernel
theorem dX1_hold_3 : decode cX1_hold 3 = .ok (.aload_n 0, 1) := by decide +kernel
theorem dX1_hold_4 : decode cX1_hold 4 = .ok (.getfield 18, 3) := by decide +kernel
theorem dX1_hold_7 : decode cX1_hold 7 = .ok (.if_icmp .ge 35, 3) := by decide +kernel
theorem dX1_hold_10 : decode cX1_hold 10 = .ok (.iload_n 2, 1) := by decide +kernel
theorem dX1_hold_11 : decode cX1_hold 11 = .ok (.iconst 4, 1) := by decide +kernel
theorem dX1_hold_12 : decode cX1_hold 12 = .ok (.if_icmp .ge 30, 3) := by decide +kernel
theorem dX1_hold_15 : decode cX1_hold 15 = .ok (.aload_n 0, 1) := by decide +kernel
theorem dX1_hold_16 : decode cX1_hold 16 = .ok (.getfield 9, 3) := by decide +kernel
theorem dX1_hold_19 : decode cX1_hold 19 = .ok (.iload_n 2, 1) := by decide +kernel
theorem dX1_hold_20 : decode cX1_hold 20 = .ok (.iaload, 1) := by decide +kernel
theorem dX1_hold_21 : decode cX1_hold 21 = .ok (.aload_n 0, 1) := by decide +kernel
theorem dX1_hold_22 : decode cX1_hold 22 = .ok (.getfield 15, 3) := by decide +kernel
theorem dX1_hold_25 : decode cX1_hold 25 = .ok (.iload_n 2, 1) := by decide +kernel
theorem dX1_hold_26 : decode cX1_hold 26 = .ok (.iaload, 1) := by decide +kernel
theorem dX1_hold_27 : decode cX1_hold 27 = .ok (.aload_n 1, 1) := by decide +kernel
theorem dX1_hold_28 : decode cX1_hold 28 = .ok (.invokestatic 22, 3) := by decide +kernel
theorem dX1_hold_31 : decode cX1_hold 31 = .ok (.ifCond .ne 5, 3) := by decide +kernel
theorem dX1_hold_34 : decode cX1_hold 34 = .ok (.iconst 0, 1) := by decide +kernel
theorem dX1_hold_35 : decode cX1_hold 35 = .ok (.ireturn, 1) := by decide +kernel
theorem dX1_hold_36 : decode cX1_hold 36 = .ok (.iinc 2 1, 3) := by decide +kernel
theorem dX1_hold_39 : decode cX1_hold 39 = .ok (.goto (-37), 3) := by decide +kernel
theorem dX1_hold_42 : decode cX1_hold 42 = .ok (.iconst 1, 1) := by decide +kernel
theorem dX1_hold_43 : decode cX1_hold 43 = .ok (.ireturn, 1) := by decide +kernel
theorem dX1_holds_0 : decode cX1_holds 0 = .ok (.iload_n 0, 1) := by decide +kernel
theorem dX1_holds_1 : decode cX1_holds 1 = .ok (.tableswitch 70 0 2 #[27, 41, 55], 27) := by decide +kernel
theorem dX1_holds_28 : decode cX1_holds 28 = .ok (.aload_n 2, 1) := by decide +kernel
theorem dX1_holds_29 : decode cX1_holds 29 = .ok (.getfield 26, 3) := by decide +kernel
theorem dX1_holds_32 : decode cX1_holds 32 = .ok (.iload_n 1, 1) := by decide +kernel
theorem dX1_holds_33 : decode cX1_holds 33 = .ok (.if_icmp .lt 7, 3) := by decide +kernel
theorem dX1_holds_36 : decode cX1_holds 36 = .ok (.iconst 1, 1) := by decide +kernel
theorem dX1_holds_37 : decode cX1_holds 37 = .ok (.goto 4, 3) := by decide +kernel
theorem dX1_holds_40 : decode cX1_holds 40 = .ok (.iconst 0, 1) := by decide +kernel
theorem dX1_holds_41 : decode cX1_holds 41 = .ok (.ireturn, 1) := by decide +kernel
theorem dX1_holds_42 : decode cX1_holds 42 = .ok (.aload_n 2, 1) := by decide +kernel
theorem dX1_holds_43 : decode cX1_holds 43 = .ok (.getfield 26, 3) := by decide +kernel
theorem dX1_holds_46 : decode cX1_holds 46 = .ok (.iload_n 1, 1) := by decide +kernel
theorem dX1_holds_47 : decode cX1_holds 47 = .ok (.if_icmp .gt 7, 3) := by decide +kernel
theorem dX1_holds_50 : decode cX1_holds 50 = .ok (.iconst 1, 1) := by decide +kernel
theorem dX1_holds_51 : decode cX1_holds 51 = .ok (.goto 4, 3) := by decide +kernel
theorem dX1_holds_54 : decode cX1_holds 54 = .ok (.iconst 0, 1) := by decide +kernel
theorem dX1_holds_55 : decode cX1_holds 55 = .ok (.ireturn, 1) := by decide +kernel
theorem dX1_holds_56 : decode cX1_holds 56 = .ok (.aload_n 2, 1) := by decide +kernel
theorem dX1_holds_57 : decode cX1_holds 57 = .ok (.iconst 0, 1) := by decide +kernel
theorem dX1_holds_58 : decode cX1_holds 58 = .ok (.invokevirtual 31, 3) := by decide +kernel
theorem dX1_holds_61 : decode cX1_holds 61 = .ok (.iload_n 1, 1) := by decide +kernel
theorem dX1_holds_62 : decode cX1_holds 62 = .ok (.if_icmp .ne 7, 3) := by decide +kernel
theorem dX1_holds_65 : decode cX1_holds 65 = .ok (.iconst 1, 1) := by decide +kernel
theorem dX1_holds_66 : decode cX1_holds 66 = .ok (.goto 4, 3) := by decide +kernel
theorem dX1_holds_69 : decode cX1_holds 69 = .ok (.iconst 0, 1) := by decide +kernel
theorem dX1_holds_70 : decode cX1_holds 70 = .ok (.ireturn, 1) := by decide +kernel
theorem dX1_holds_71 : decode cX1_holds 71 = .ok (.aload_n 2, 1) := by decide +kernel
theorem dX1_holds_72 : decode cX1_holds 72 = .ok (.invokevirtual 35, 3) := by decide +kernel
theorem dX1_holds_75 : decode cX1_holds 75 = .ok (.iload_n 1, 1) := by decide +kernel
theorem dX1_holds_76 : decode cX1_holds 76 = .ok (.if_icmp .ne 7, 3) := by decide +kernel
theorem dX1_holds_79 : decode cX1_holds 79 = .ok (.iconst 1, 1) := by decide +kernel
theorem dX1_holds_80 : decode cX1_holds 80 = .ok (.goto 4, 3) := by decide +kernel
theorem dX1_holds_83 : decode cX1_holds 83 = .ok (.iconst 0, 1) := by decide +kernel
theorem dX1_holds_84 : decode cX1_holds 84 = .ok (.ireturn, 1) := by decide +kernel
theorem dX2_init_0 : decode cX2_init 0 = .ok (.aload_n 0, 1) := by decide +kernel
theorem dX2_init_1 : decode cX2_init 1 = .ok (.invokespecial 3, 3) := by decide +kernel
theorem dX2_init_4 : decode cX2_init 4 = .ok (.aload_n 0, 1) := by decide +kernel
theorem dX2_init_5 : decode cX2_init 5 = .ok (.iconst (-1), 1) := by decide +kernel
theorem dX2_init_6 : decode cX2_init 6 = .ok (.putfield 9, 3) := by decide +kernel
theorem dX2_init_9 : decode cX2_init 9 = .ok (.aload_n 0, 1) := by decide +kernel
theorem dX2_init_10 : decode cX2_init 10 = .ok (.iconst 0, 1) := by decide +kernel
theorem dX2_init_11 : decode cX2_init 11 = .ok (.putfield 15, 3) := by decide +kernel
theorem dX2_init_14 : decode cX2_init 14 = .ok (.aload_n 0, 1) := by decide +kernel
theorem dX2_init_15 : decode cX2_init 15 = .ok (.aload_n 1, 1) := by decide +kernel
theorem dX2_init_16 : decode cX2_init 16 = .ok (.putfield 19, 3) := by decide +kernel
theorem dX2_init_19 : decode cX2_init 19 = .ok (.aload_n 0, 1) := by decide +kernel
theorem dX2_init_20 : decode cX2_init 20 = .ok (.iload_n 2, 1) := by decide +kernel
theorem dX2_init_21 : decode cX2_init 21 = .ok (.putfield 23, 3) := by decide +kernel
theorem dX2_init_24 : decode cX2_init 24 = .ok (.aload_n 0, 1) := by decide +kernel
theorem dX2_init_25 : decode cX2_init 25 = .ok (.iload_n 3, 1) := by decide +kernel
theorem dX2_init_26 : decode cX2_init 26 = .ok (.putfield 26, 3) := by decide +kernel
theorem dX2_init_29 : decode cX2_init 29 = .ok (.aload_n 0, 1) := by decide +kernel
theorem dX2_init_30 : decode cX2_init 30 = .ok (.iload 4, 2) := by decide +kernel
theorem dX2_init_32 : decode cX2_init 32 = .ok (.putfield 29, 3) := by decide +kernel
theorem dX2_init_35 : decode cX2_init 35 = .ok (.return_, 1) := by decide +kernel
theorem dX3_init_0 : decode cX3_init 0 = .ok (.aload_n 0, 1) := by decide +kernel
theorem dX3_init_1 : decode cX3_init 1 = .ok (.invokespecial 3, 3) := by decide +kernel
theorem dX3_init_4 : decode cX3_init 4 = .ok (.aload_n 0, 1) := by decide +kernel
theorem dX3_init_5 : decode cX3_init 5 = .ok (.new 9, 3) := by decide +kernel
theorem dX3_init_8 : decode cX3_init 8 = .ok (.dup, 1) := by decide +kernel
theorem dX3_init_9 : decode cX3_init 9 = .ok (.bipush 40, 2) := by decide +kernel
theorem dX3_init_11 : decode cX3_init 11 = .ok (.newarray .int, 2) := by decide +kernel
theorem dX3_init_13 : decode cX3_init 13 = .ok (.iconst 0, 1) := by decide +kernel
theorem dX3_init_14 : decode cX3_init 14 = .ok (.invokespecial 11, 3) := by decide +kernel
theorem dX3_init_17 : decode cX3_init 17 = .ok (.putfield 14, 3) := by decide +kernel
theorem dX3_init_20 : decode cX3_init 20 = .ok (.aload_n 0, 1) := by decide +kernel
theorem dX3_init_21 : decode cX3_init 21 = .ok (.iconst 0, 1) := by decide +kernel
theorem dX3_init_22 : decode cX3_init 22 = .ok (.putfield 20, 3) := by decide +kernel
theorem dX3_init_25 : decode cX3_init 25 = .ok (.aload_n 0, 1) := by decide +kernel
theorem dX3_init_26 : decode cX3_init 26 = .ok (.iconst 0, 1) := by decide +kernel
theorem dX3_init_27 : decode cX3_init 27 = .ok (.putfield 24, 3) := by decide +kernel
theorem dX3_init_30 : decode cX3_init 30 = .ok (.aload_n 0, 1) := by decide +kernel
theorem dX3_init_31 : decode cX3_init 31 = .ok (.iconst 0, 1) := by decide +kernel
theorem dX3_init_32 : decode cX3_init 32 = .ok (.putfield 27, 3) := by decide +kernel
theorem dX3_init_35 : decode cX3_init 35 = .ok (.aload_n 0, 1) := by decide +kernel
theorem dX3_init_36 : decode cX3_init 36 = .ok (.iconst 0, 1) := by decide +kernel
theorem dX3_init_37 : decode cX3_init 37 = .ok (.putfield 30, 3) := by decide +kernel
theorem dX3_init_40 : decode cX3_init 40 = .ok (.aload_n 0, 1) := by decide +kernel
theorem dX3_init_41 : decode cX3_init 41 = .ok (.iconst (-1), 1) := by decide +kernel
theorem dX3_init_42 : decode cX3_init 42 = .ok (.putfield 33, 3) := by decide +kernel
theorem dX3_init_45 : decode cX3_init 45 = .ok (.aload_n 0, 1) := by decide +kernel
theorem dX3_init_46 : decode cX3_init 46 = .ok (.lconst 0, 1) := by decide +kernel
theorem dX3_init_47 : decode cX3_init 47 = .ok (.putfield 36, 3) := by decide +kernel
theorem dX3_init_50 : decode cX3_init 50 = .ok (.aload_n 0, 1) := by decide +kernel
theorem dX3_init_51 : decode cX3_init 51 = .ok (.iload_n 1, 1) := by decide +kernel
theorem dX3_init_52 : decode cX3_init 52 = .ok (.putfield 40, 3) := by decide +kernel
theorem dX3_init_55 : decode cX3_init 55 = .ok (.aload_n 0, 1) := by decide +kernel
theorem dX3_init_56 : decode cX3_init 56 = .ok (.aload_n 2, 1) := by decide +kernel
theorem dX3_init_57 : decode cX3_init 57 = .ok (.putfield 43, 3) := by decide +kernel
theorem dX3_init_60 : decode cX3_init 60 = .ok (.return_, 1) := by decide +kernel
theorem dX3_run_0 : decode cX3_run 0 = .ok (.aload_n 0, 1) := by decide +kernel
theorem dX3_run_1 : decode cX3_run 1 = .ok (.invokevirtual 47, 3) := by decide +kernel
theorem dX3_run_4 : decode cX3_run 4 = .ok (.aload_n 1, 1) := by decide +kernel
theorem dX3_run_5 : decode cX3_run 5 = .ok (.invokevirtual 50, 3) := by decide +kernel
theorem dX3_run_8 : decode cX3_run 8 = .ok (.istore_n 3, 1) := by decide +kernel
theorem dX3_run_9 : decode cX3_run 9 = .ok (.iconst 0, 1) := by decide +kernel
theorem dX3_run_10 : decode cX3_run 10 = .ok (.istore 4, 2) := by decide +kernel
theorem dX3_run_12 : decode cX3_run 12 = .ok (.iload 4, 2) := by decide +kernel
theorem dX3_run_14 : decode cX3_run 14 = .ok (.aload_n 0, 1) := by decide +kernel
theorem dX3_run_15 : decode cX3_run 15 = .ok (.getfield 40, 3) := by decide +kernel
theorem dX3_run_18 : decode cX3_run 18 = .ok (.if_icmp .ge 79, 3) := by decide +kernel
theorem dX3_run_21 : decode cX3_run 21 = .ok (.aload_n 0, 1) := by decide +kernel
theorem dX3_run_22 : decode cX3_run 22 = .ok (.getfield 27, 3) := by decide +kernel
theorem dX3_run_25 : decode cX3_run 25 = .ok (.ifCond .lt 72, 3) := by decide +kernel
theorem dX3_run_28 : decode cX3_run 28 = .ok (.aload_n 0, 1) := by decide +kernel
theorem dX3_run_29 : decode cX3_run 29 = .ok (.getfield 27, 3) := by decide +kernel
theorem dX3_run_32 : decode cX3_run 32 = .ok (.iload_n 3, 1) := by decide +kernel
theorem dX3_run_33 : decode cX3_run 33 = .ok (.if_icmp .ge 64, 3) := by decide +kernel
theorem dX3_run_36 : decode cX3_run 36 = .ok (.aload_n 0, 1) := by decide +kernel
theorem dX3_run_37 : decode cX3_run 37 = .ok (.getfield 30, 3) := by decide +kernel
theorem dX3_run_40 : decode cX3_run 40 = .ok (.ifCond .ne 57, 3) := by decide +kernel
theorem dX3_run_43 : decode cX3_run 43 = .ok (.aload_n 0, 1) := by decide +kernel
theorem dX3_run_44 : decode cX3_run 44 = .ok (.getfield 27, 3) := by decide +kernel
theorem dX3_run_47 : decode cX3_run 47 = .ok (.istore 5, 2) := by decide +kernel
theorem dX3_run_49 : decode cX3_run 49 = .ok (.aload_n 0, 1) := by decide +kernel
theorem dX3_run_50 : decode cX3_run 50 = .ok (.dup, 1) := by decide +kernel
theorem dX3_run_51 : decode cX3_run 51 = .ok (.getfield 27, 3) := by decide +kernel
theorem dX3_run_54 : decode cX3_run 54 = .ok (.iconst 1, 1) := by decide +kernel
theorem dX3_run_55 : decode cX3_run 55 = .ok (.iadd, 1) := by decide +kernel
theorem dX3_run_56 : decode cX3_run 56 = .ok (.putfield 27, 3) := by decide +kernel
theorem dX3_run_59 : decode cX3_run 59 = .ok (.iinc 4 1, 3) := by decide +kernel
theorem dX3_run_62 : decode cX3_run 62 = .ok (.aload_n 0, 1) := by decide +kernel
theorem dX3_run_63 : decode cX3_run 63 = .ok (.aload_n 1, 1) := by decide +kernel
theorem dX3_run_64 : decode cX3_run 64 = .ok (.getfield 56, 3) := by decide +kernel
theorem dX3_run_67 : decode cX3_run 67 = .ok (.iload 5, 2) := by decide +kernel
theorem dX3_run_69 : decode cX3_run 69 = .ok (.iaload, 1) := by decide +kernel
theorem dX3_run_70 : decode cX3_run 70 = .ok (.aload_n 1, 1) := by decide +kernel
theorem dX3_run_71 : decode cX3_run 71 = .ok (.getfield 59, 3) := by decide +kernel
theorem dX3_run_74 : decode cX3_run 74 = .ok (.iload 5, 2) := by decide +kernel
theorem dX3_run_76 : decode cX3_run 76 = .ok (.iaload, 1) := by decide +kernel
theorem dX3_run_77 : decode cX3_run 77 = .ok (.aload_n 2, 1) := by decide +kernel
theorem dX3_run_78 : decode cX3_run 78 = .ok (.invokevirtual 62, 3) := by decide +kernel
theorem dX3_run_81 : decode cX3_run 81 = .ok (.aload_n 0, 1) := by decide +kernel
theorem dX3_run_82 : decode cX3_run 82 = .ok (.getfield 30, 3) := by decide +kernel
theorem dX3_run_85 : decode cX3_run 85 = .ok (.ifCond .eq 9, 3) := by decide +kernel
theorem dX3_run_88 : decode cX3_run 88 = .ok (.aload_n 0, 1) := by decide +kernel
theorem dX3_run_89 : decode cX3_run 89 = .ok (.iload 5, 2) := by decide +kernel
theorem dX3_run_91 : decode cX3_run 91 = .ok (.putfield 33, 3) := by decide +kernel
theorem dX3_run_94 : decode cX3_run 94 = .ok (.goto (-82), 3) := by decide +kernel
theorem dX3_run_97 : decode cX3_run 97 = .ok (.aload_n 0, 1) := by decide +kernel
theorem dX3_run_98 : decode cX3_run 98 = .ok (.dup, 1) := by decide +kernel
theorem dX3_run_99 : decode cX3_run 99 = .ok (.getfield 36, 3) := by decide +kernel
theorem dX3_run_102 : decode cX3_run 102 = .ok (.iload 4, 2) := by decide +kernel
theorem dX3_run_104 : decode cX3_run 104 = .ok (.i2l, 1) := by decide +kernel
theorem dX3_run_105 : decode cX3_run 105 = .ok (.ladd, 1) := by decide +kernel
theorem dX3_run_106 : decode cX3_run 106 = .ok (.putfield 36, 3) := by decide +kernel
theorem dX3_run_109 : decode cX3_run 109 = .ok (.aload_n 0, 1) := by decide +kernel
theorem dX3_run_110 : decode cX3_run 110 = .ok (.getfield 30, 3) := by decide +kernel
theorem dX3_run_113 : decode cX3_run 113 = .ok (.ifCond .ne 24, 3) := by decide +kernel
theorem dX3_run_116 : decode cX3_run 116 = .ok (.aload_n 0, 1) := by decide +kernel
theorem dX3_run_117 : decode cX3_run 117 = .ok (.getfield 27, 3) := by decide +kernel
theorem dX3_run_120 : decode cX3_run 120 = .ok (.iload_n 3, 1) := by decide +kernel
theorem dX3_run_121 : decode cX3_run 121 = .ok (.if_icmp .ge 16, 3) := by decide +kernel
theorem dX3_run_124 : decode cX3_run 124 = .ok (.aload_n 0, 1) := by decide +kernel
theorem dX3_run_125 : decode cX3_run 125 = .ok (.iconst 4, 1) := by decide +kernel
theorem dX3_run_126 : decode cX3_run 126 = .ok (.putfield 30, 3) := by decide +kernel
theorem dX3_run_129 : decode cX3_run 129 = .ok (.aload_n 0, 1) := by decide +kernel
theorem dX3_run_130 : decode cX3_run 130 = .ok (.aload_n 0, 1) := by decide +kernel
theorem dX3_run_131 : decode cX3_run 131 = .ok (.getfield 27, 3) := by decide +kernel
theorem dX3_run_134 : decode cX3_run 134 = .ok (.putfield 33, 3) := by decide +kernel
theorem dX3_run_137 : decode cX3_run 137 = .ok (.aload_n 0, 1) := by decide +kernel
theorem dX3_run_138 : decode cX3_run 138 = .ok (.getfield 30, 3) := by decide +kernel
theorem dX3_run_141 : decode cX3_run 141 = .ok (.ireturn, 1) := by decide +kernel
theorem dX3_begin_0 : decode cX3_begin 0 = .ok (.aload_n 0, 1) := by decide +kernel
theorem dX3_begin_1 : decode cX3_begin 1 = .ok (.getfield 43, 3) := by decide +kernel
theorem dX3_begin_4 : decode cX3_begin 4 = .ok (.iconst 0, 1) := by decide +kernel
theorem dX3_begin_5 : decode cX3_begin 5 = .ok (.invokestatic 66, 3) := by decide +kernel
theorem dX3_begin_8 : decode cX3_begin 8 = .ok (.aload_n 0, 1) := by decide +kernel
theorem dX3_begin_9 : decode cX3_begin 9 = .ok (.getfield 14, 3) := by decide +kernel
theorem dX3_begin_12 : decode cX3_begin 12 = .ok (.invokevirtual 71, 3) := by decide +kernel
theorem dX3_begin_15 : decode cX3_begin 15 = .ok (.aload_n 0, 1) := by decide +kernel
theorem dX3_begin_16 : decode cX3_begin 16 = .ok (.iconst 0, 1) := by decide +kernel
theorem dX3_begin_17 : decode cX3_begin 17 = .ok (.putfield 20, 3) := by decide +kernel
theorem dX3_begin_20 : decode cX3_begin 20 = .ok (.aload_n 0, 1) := by decide +kernel
theorem dX3_begin_21 : decode cX3_begin 21 = .ok (.iconst 0, 1) := by decide +kernel
theorem dX3_begin_22 : decode cX3_begin 22 = .ok (.putfield 24, 3) := by decide +kernel
theorem dX3_begin_25 : decode cX3_begin 25 = .ok (.aload_n 0, 1) := by decide +kernel
theorem dX3_begin_26 : decode cX3_begin 26 = .ok (.iconst 0, 1) := by decide +kernel
theorem dX3_begin_27 : decode cX3_begin 27 = .ok (.putfield 27, 3) := by decide +kernel
theorem dX3_begin_30 : decode cX3_begin 30 = .ok (.aload_n 0, 1) := by decide +kernel
theorem dX3_begin_31 : decode cX3_begin 31 = .ok (.iconst 0, 1) := by decide +kernel
theorem dX3_begin_32 : decode cX3_begin 32 = .ok (.putfield 30, 3) := by decide +kernel
theorem dX3_begin_35 : decode cX3_begin 35 = .ok (.aload_n 0, 1) := by decide +kernel
theorem dX3_begin_36 : decode cX3_begin 36 = .ok (.iconst (-1), 1) := by decide +kernel
theorem dX3_begin_37 : decode cX3_begin 37 = .ok (.putfield 33, 3) := by decide +kernel
theorem dX3_begin_40 : decode cX3_begin 40 = .ok (.return_, 1) := by decide +kernel
theorem dX3_step_0 : decode cX3_step 0 = .ok (.iload_n 1, 1) := by decide +kernel
theorem dX3_step_1 : decode cX3_step 1 = .ok (.lookupswitch 116 #[(101, 92), (103, 84), (114, 51), (115, 76), (119, 68)], 51) := by decide +kernel
theorem dX3_step_52 : decode cX3_step 52 = .ok (.aload_n 0, 1) := by decide +kernel
theorem dX3_step_53 : decode cX3_step 53 = .ok (.aload_n 3, 1) := by decide +kernel
theorem dX3_step_54 : decode cX3_step 54 = .ok (.aload_n 0, 1) := by decide +kernel
theorem dX3_step_55 : decode cX3_step 55 = .ok (.getfield 24, 3) := by decide +kernel
theorem dX3_step_58 : decode cX3_step 58 = .ok (.iload_n 2, 1) := by decide +kernel
theorem dX3_step_59 : decode cX3_step 59 = .ok (.iadd, 1) := by decide +kernel
theorem dX3_step_60 : decode cX3_step 60 = .ok (.invokevirtual 74, 3) := by decide +kernel
theorem dX3_step_63 : decode cX3_step 63 = .ok (.invokevirtual 78, 3) := by decide +kernel
theorem dX3_step_66 : decode cX3_step 66 = .ok (.goto 57, 3) := by decide +kernel
theorem dX3_step_69 : decode cX3_step 69 = .ok (.aload_n 0, 1) := by decide +kernel
theorem dX3_step_70 : decode cX3_step 70 = .ok (.iload_n 2, 1) := by decide +kernel
theorem dX3_step_71 : decode cX3_step 71 = .ok (.invokevirtual 82, 3) := by decide +kernel
theorem dX3_step_74 : decode cX3_step 74 = .ok (.goto 49, 3) := by decide +kernel
theorem dX3_step_77 : decode cX3_step 77 = .ok (.aload_n 0, 1) := by decide +kernel
theorem dX3_step_78 : decode cX3_step 78 = .ok (.iload_n 2, 1) := by decide +kernel
theorem dX3_step_79 : decode cX3_step 79 = .ok (.invokevirtual 85, 3) := by decide +kernel
theorem dX3_step_82 : decode cX3_step 82 = .ok (.goto 41, 3) := by decide +kernel
theorem dX3_step_85 : decode cX3_step 85 = .ok (.aload_n 0, 1) := by decide +kernel
theorem dX3_step_86 : decode cX3_step 86 = .ok (.iload_n 2, 1) := by decide +kernel
theorem dX3_step_87 : decode cX3_step 87 = .ok (.invokevirtual 88, 3) := by decide +kernel
theorem dX3_step_90 : decode cX3_step 90 = .ok (.goto 33, 3) := by decide +kernel
theorem dX3_step_93 : decode cX3_step 93 = .ok (.aload_n 0, 1) := by decide +kernel
theorem dX3_step_94 : decode cX3_step 94 = .ok (.aload_n 0, 1) := by decide +kernel
theorem dX3_step_95 : decode cX3_step 95 = .ok (.getfield 24, 3) := by decide +kernel
theorem dX3_step_98 : decode cX3_step 98 = .ok (.aload_n 3, 1) := by decide +kernel
theorem dX3_step_99 : decode cX3_step 99 = .ok (.getfield 91, 3) := by decide +kernel
theorem dX3_step_102 : decode cX3_step 102 = .ok (.if_icmp .lt 7, 3) := by decide +kernel
theorem dX3_step_105 : decode cX3_step 105 = .ok (.iconst 1, 1) := by decide +kernel
theorem dX3_step_106 : decode cX3_step 106 = .ok (.goto 4, 3) := by decide +kernel
theorem dX3_step_109 : decode cX3_step 109 = .ok (.iconst 0, 1) := by decide +kernel
theorem dX3_step_110 : decode cX3_step 110 = .ok (.iload_n 2, 1) := by decide +kernel
theorem dX3_step_111 : decode cX3_step 111 = .ok (.invokevirtual 93, 3) := by decide +kernel
theorem dX3_step_114 : decode cX3_step 114 = .ok (.goto 9, 3) := by decide +kernel
theorem dX3_step_117 : decode cX3_step 117 = .ok (.aload_n 0, 1) := by decide +kernel
theorem dX3_step_118 : decode cX3_step 118 = .ok (.iload_n 1, 1) := by decide +kernel
theorem dX3_step_119 : decode cX3_step 119 = .ok (.iload_n 2, 1) := by decide +kernel
theorem dX3_step_120 : decode cX3_step 120 = .ok (.invokevirtual 97, 3) := by decide +kernel
theorem dX3_step_123 : decode cX3_step 123 = .ok (.return_, 1) := by decide +kernel
theorem dX3_stepWithin_0 : decode cX3_stepWithin 0 = .ok (.iload_n 1, 1) := by decide +kernel
theorem dX3_stepWithin_1 : decode cX3_stepWithin 1 = .ok (.tableswitch 245 97 122 #[119, 215, 245, 245, 245, 224, 245, 245, 149, 175, 167, 245, 245, 245, 245, 245, 245, 245, 245, 245, 245, 245, 245, 136, 245, 195], 119) := by decide +kernel
theorem dX3_stepWithin_120 : decode cX3_stepWithin 120 = .ok (.aload_n 0, 1) := by decide +kernel
theorem dX3_stepWithin_121 : decode cX3_stepWithin 121 = .ok (.aload_n 0, 1) := by decide +kernel
theorem dX3_stepWithin_122 : decode cX3_stepWithin 122 = .ok (.getfield 20, 3) := by decide +kernel
theorem dX3_stepWithin_125 : decode cX3_stepWithin 125 = .ok (.iload_n 2, 1) := by decide +kernel
theorem dX3_stepWithin_126 : decode cX3_stepWithin 126 = .ok (.iadd, 1) := by decide +kernel
theorem dX3_stepWithin_127 : decode cX3_stepWithin 127 = .ok (.sipush 255, 3) := by decide +kernel
theorem dX3_stepWithin_130 : decode cX3_stepWithin 130 = .ok (.iand, 1) := by decide +kernel
theorem dX3_stepWithin_131 : decode cX3_stepWithin 131 = .ok (.putfield 20, 3) := by decide +kernel
theorem dX3_stepWithin_134 : decode cX3_stepWithin 134 = .ok (.goto 119, 3) := by decide +kernel
theorem dX3_stepWithin_137 : decode cX3_stepWithin 137 = .ok (.aload_n 0, 1) := by decide +kernel
theorem dX3_stepWithin_138 : decode cX3_stepWithin 138 = .ok (.aload_n 0, 1) := by decide +kernel
theorem dX3_stepWithin_139 : decode cX3_stepWithin 139 = .ok (.getfield 20, 3) := by decide +kernel
theorem dX3_stepWithin_142 : decode cX3_stepWithin 142 = .ok (.iload_n 2, 1) := by decide +kernel
theorem dX3_stepWithin_143 : decode cX3_stepWithin 143 = .ok (.ixor, 1) := by decide +kernel
theorem dX3_stepWithin_144 : decode cX3_stepWithin 144 = .ok (.putfield 20, 3) := by decide +kernel
theorem dX3_stepWithin_147 : decode cX3_stepWithin 147 = .ok (.goto 106, 3) := by decide +kernel
theorem dX3_stepWithin_150 : decode cX3_stepWithin 150 = .ok (.aload_n 0, 1) := by decide +kernel
theorem dX3_stepWithin_151 : decode cX3_stepWithin 151 = .ok (.aload_n 0, 1) := by decide +kernel
theorem dX3_stepWithin_152 : decode cX3_stepWithin 152 = .ok (.getfield 24, 3) := by decide +kernel
theorem dX3_stepWithin_155 : decode cX3_stepWithin 155 = .ok (.iload_n 2, 1) := by decide +kernel
theorem dX3_stepWithin_156 : decode cX3_stepWithin 156 = .ok (.iadd, 1) := by decide +kernel
theorem dX3_stepWithin_157 : decode cX3_stepWithin 157 = .ok (.ldc 101, 2) := by decide +kernel
theorem dX3_stepWithin_159 : decode cX3_stepWithin 159 = .ok (.invokestatic 102, 3) := by decide +kernel
theorem dX3_stepWithin_162 : decode cX3_stepWithin 162 = .ok (.putfield 24, 3) := by decide +kernel
theorem dX3_stepWithin_165 : decode cX3_stepWithin 165 = .ok (.goto 88, 3) := by decide +kernel
theorem dX3_stepWithin_168 : decode cX3_stepWithin 168 = .ok (.aload_n 0, 1) := by decide +kernel
theorem dX3_stepWithin_169 : decode cX3_stepWithin 169 = .ok (.iload_n 2, 1) := by decide +kernel
theorem dX3_stepWithin_170 : decode cX3_stepWithin 170 = .ok (.putfield 24, 3) := by decide +kernel
theorem dX3_stepWithin_173 : decode cX3_stepWithin 173 = .ok (.goto 80, 3) := by decide +kernel
theorem dX3_stepWithin_176 : decode cX3_stepWithin 176 = .ok (.aload_n 0, 1) := by decide +kernel
theorem dX3_stepWithin_177 : decode cX3_stepWithin 177 = .ok (.aload_n 0, 1) := by decide +kernel
theorem dX3_stepWithin_178 : decode cX3_stepWithin 178 = .ok (.getfield 20, 3) := by decide +kernel
theorem dX3_stepWithin_181 : decode cX3_stepWithin 181 = .ok (.ifCond .eq 7, 3) := by decide +kernel
theorem dX3_stepWithin_184 : decode cX3_stepWithin 184 = .ok (.iconst 1, 1) := by decide +kernel
theorem dX3_stepWithin_185 : decode cX3_stepWithin 185 = .ok (.goto 4, 3) := by decide +kernel
theorem dX3_stepWithin_188 : decode cX3_stepWithin 188 = .ok (.iconst 0, 1) := by decide +kernel
theorem dX3_stepWithin_189 : decode cX3_stepWithin 189 = .ok (.iload_n 2, 1) := by decide +kernel
theorem dX3_stepWithin_190 : decode cX3_stepWithin 190 = .ok (.invokevirtual 93, 3) := by decide +kernel
theorem dX3_stepWithin_193 : decode cX3_stepWithin 193 = .ok (.goto 60, 3) := by decide +kernel
theorem dX3_stepWithin_196 : decode cX3_stepWithin 196 = .ok (.aload_n 0, 1) := by decide +kernel
theorem dX3_stepWithin_197 : decode cX3_stepWithin 197 = .ok (.aload_n 0, 1) := by decide +kernel
theorem dX3_stepWithin_198 : decode cX3_stepWithin 198 = .ok (.getfield 20, 3) := by decide +kernel
theorem dX3_stepWithin_201 : decode cX3_stepWithin 201 = .ok (.ifCond .ne 7, 3) := by decide +kernel
theorem dX3_stepWithin_204 : decode cX3_stepWithin 204 = .ok (.iconst 1, 1) := by decide +kernel
theorem dX3_stepWithin_205 : decode cX3_stepWithin 205 = .ok (.goto 4, 3) := by decide +kernel
theorem dX3_stepWithin_208 : decode cX3_stepWithin 208 = .ok (.iconst 0, 1) := by decide +kernel
theorem dX3_stepWithin_209 : decode cX3_stepWithin 209 = .ok (.iload_n 2, 1) := by decide +kernel
theorem dX3_stepWithin_210 : decode cX3_stepWithin 210 = .ok (.invokevirtual 93, 3) := by decide +kernel
theorem dX3_stepWithin_213 : decode cX3_stepWithin 213 = .ok (.goto 40, 3) := by decide +kernel
theorem dX3_stepWithin_216 : decode cX3_stepWithin 216 = .ok (.aload_n 0, 1) := by decide +kernel
theorem dX3_stepWithin_217 : decode cX3_stepWithin 217 = .ok (.iconst 1, 1) := by decide +kernel
theorem dX3_stepWithin_218 : decode cX3_stepWithin 218 = .ok (.iload_n 2, 1) := by decide +kernel
theorem dX3_stepWithin_219 : decode cX3_stepWithin 219 = .ok (.invokevirtual 93, 3) := by decide +kernel
theorem dX3_stepWithin_222 : decode cX3_stepWithin 222 = .ok (.goto 31, 3) := by decide +kernel
theorem dX3_stepWithin_225 : decode cX3_stepWithin 225 = .ok (.aload_n 0, 1) := by decide +kernel
theorem dX3_stepWithin_226 : decode cX3_stepWithin 226 = .ok (.aload_n 0, 1) := by decide +kernel
theorem dX3_stepWithin_227 : decode cX3_stepWithin 227 = .ok (.getfield 20, 3) := by decide +kernel
theorem dX3_stepWithin_230 : decode cX3_stepWithin 230 = .ok (.iload_n 2, 1) := by decide +kernel
theorem dX3_stepWithin_231 : decode cX3_stepWithin 231 = .ok (.if_icmp .eq 7, 3) := by decide +kernel
theorem dX3_stepWithin_234 : decode cX3_stepWithin 234 = .ok (.iconst 1, 1) := by decide +kernel
theorem dX3_stepWithin_235 : decode cX3_stepWithin 235 = .ok (.goto 4, 3) := by decide +kernel
theorem dX3_stepWithin_238 : decode cX3_stepWithin 238 = .ok (.iconst 0, 1) := by decide +kernel
theorem dX3_stepWithin_239 : decode cX3_stepWithin 239 = .ok (.iconst 1, 1) := by decide +kernel
theorem dX3_stepWithin_240 : decode cX3_stepWithin 240 = .ok (.invokevirtual 108, 3) := by decide +kernel
theorem dX3_stepWithin_243 : decode cX3_stepWithin 243 = .ok (.goto 10, 3) := by decide +kernel
theorem dX3_stepWithin_246 : decode cX3_stepWithin 246 = .ok (.aload_n 0, 1) := by decide +kernel
theorem dX3_stepWithin_247 : decode cX3_stepWithin 247 = .ok (.iconst 1, 1) := by decide +kernel
theorem dX3_stepWithin_248 : decode cX3_stepWithin 248 = .ok (.bipush 40, 2) := by decide +kernel
theorem dX3_stepWithin_250 : decode cX3_stepWithin 250 = .ok (.invokevirtual 93, 3) := by decide +kernel
theorem dX3_stepWithin_253 : decode cX3_stepWithin 253 = .ok (.return_, 1) := by decide +kernel
theorem dX3_fetch_0 : decode cX3_fetch 0 = .ok (.iload_n 1, 1) := by decide +kernel
theorem dX3_fetch_1 : decode cX3_fetch 1 = .ok (.iconst (-1), 1) := by decide +kernel
theorem dX3_fetch_2 : decode cX3_fetch 2 = .ok (.if_icmp .ne 11, 3) := by decide +kernel
theorem dX3_fetch_5 : decode cX3_fetch 5 = .ok (.aload_n 0, 1) := by decide +kernel
theorem dX3_fetch_6 : decode cX3_fetch 6 = .ok (.iconst 2, 1) := by decide +kernel
theorem dX3_fetch_7 : decode cX3_fetch 7 = .ok (.putfield 30, 3) := by decide +kernel
theorem dX3_fetch_10 : decode cX3_fetch 10 = .ok (.goto 8, 3) := by decide +kernel
theorem dX3_fetch_13 : decode cX3_fetch 13 = .ok (.aload_n 0, 1) := by decide +kernel
theorem dX3_fetch_14 : decode cX3_fetch 14 = .ok (.iload_n 1, 1) := by decide +kernel
theorem dX3_fetch_15 : decode cX3_fetch 15 = .ok (.putfield 20, 3) := by decide +kernel
theorem dX3_fetch_18 : decode cX3_fetch 18 = .ok (.return_, 1) := by decide +kernel
theorem dX3_putOut_0 : decode cX3_putOut 0 = .ok (.iconst 1, 1) := by decide +kernel
theorem dX3_putOut_1 : decode cX3_putOut 1 = .ok (.istore_n 2, 1) := by decide +kernel
theorem dX3_putOut_2 : decode cX3_putOut 2 = .ok (.iconst 0, 1) := by decide +kernel
theorem dX3_putOut_3 : decode cX3_putOut 3 = .ok (.istore_n 3, 1) := by decide +kernel
theorem dX3_putOut_4 : decode cX3_putOut 4 = .ok (.iload_n 3, 1) := by decide +kernel
theorem dX3_putOut_5 : decode cX3_putOut 5 = .ok (.iload_n 1, 1) := by decide +kernel
theorem dX3_putOut_6 : decode cX3_putOut 6 = .ok (.if_icmp .ge 25, 3) := by decide +kernel
theorem dX3_putOut_9 : decode cX3_putOut 9 = .ok (.iload_n 2, 1) := by decide +kernel
theorem dX3_putOut_10 : decode cX3_putOut 10 = .ok (.ifCond .eq 21, 3) := by decide +kernel
theorem dX3_putOut_13 : decode cX3_putOut 13 = .ok (.aload_n 0, 1) := by decide +kernel
theorem dX3_putOut_14 : decode cX3_putOut 14 = .ok (.getfield 14, 3) := by decide +kernel
theorem dX3_putOut_17 : decode cX3_putOut 17 = .ok (.aload_n 0, 1) := by decide +kernel
theorem dX3_putOut_18 : decode cX3_putOut 18 = .ok (.getfield 20, 3) := by decide +kernel
theorem dX3_putOut_21 : decode cX3_putOut 21 = .ok (.invokevirtual 111, 3) := by decide +kernel
theorem dX3_putOut_24 : decode cX3_putOut 24 = .ok (.istore_n 2, 1) := by decide +kernel
theorem dX3_putOut_25 : decode cX3_putOut 25 = .ok (.iinc 3 1, 3) := by decide +kernel
theorem dX3_putOut_28 : decode cX3_putOut 28 = .ok (.goto (-24), 3) := by decide +kernel
theorem dX3_putOut_31 : decode cX3_putOut 31 = .ok (.aload_n 0, 1) := by decide +kernel
theorem dX3_putOut_32 : decode cX3_putOut 32 = .ok (.iload_n 2, 1) := by decide +kernel
theorem dX3_putOut_33 : decode cX3_putOut 33 = .ok (.ifCond .ne 7, 3) := by decide +kernel
theorem dX3_putOut_36 : decode cX3_putOut 36 = .ok (.iconst 1, 1) := by decide +kernel
theorem dX3_putOut_37 : decode cX3_putOut 37 = .ok (.goto 4, 3) := by decide +kernel
theorem dX3_putOut_40 : decode cX3_putOut 40 = .ok (.iconst 0, 1) := by decide +kernel
theorem dX3_putOut_41 : decode cX3_putOut 41 = .ok (.iconst 3, 1) := by decide +kernel
theorem dX3_putOut_42 : decode cX3_putOut 42 = .ok (.invokevirtual 108, 3) := by decide +kernel
theorem dX3_putOut_45 : decode cX3_putOut 45 = .ok (.return_, 1) := by decide +kernel
theorem dX3_store_0 : decode cX3_store 0 = .ok (.iload_n 1, 1) := by decide +kernel
theorem dX3_store_1 : decode cX3_store 1 = .ok (.ifCond .lt 12, 3) := by decide +kernel
theorem dX3_store_4 : decode cX3_store 4 = .ok (.iload_n 1, 1) := by decide +kernel
theorem dX3_store_5 : decode cX3_store 5 = .ok (.aload_n 0, 1) := by decide +kernel
theorem dX3_store_6 : decode cX3_store 6 = .ok (.getfield 43, 3) := by decide +kernel
theorem dX3_store_9 : decode cX3_store 9 = .ok (.arraylength, 1) := by decide +kernel
theorem dX3_store_10 : decode cX3_store 10 = .ok (.if_icmp .lt 11, 3) := by decide +kernel
theorem dX3_store_13 : decode cX3_store 13 = .ok (.aload_n 0, 1) := by decide +kernel
theorem dX3_store_14 : decode cX3_store 14 = .ok (.iconst 3, 1) := by decide +kernel
theorem dX3_store_15 : decode cX3_store 15 = .ok (.putfield 30, 3) := by decide +kernel
theorem dX3_store_18 : decode cX3_store 18 = .ok (.goto 13, 3) := by decide +kernel
theorem dX3_store_21 : decode cX3_store 21 = .ok (.aload_n 0, 1) := by decide +kernel
theorem dX3_store_22 : decode cX3_store 22 = .ok (.getfield 43, 3) := by decide +kernel
theorem dX3_store_25 : decode cX3_store 25 = .ok (.iload_n 1, 1) := by decide +kernel
theorem dX3_store_26 : decode cX3_store 26 = .ok (.aload_n 0, 1) := by decide +kernel
theorem dX3_store_27 : decode cX3_store 27 = .ok (.getfield 20, 3) := by decide +kernel
theorem dX3_store_30 : decode cX3_store 30 = .ok (.iastore, 1) := by decide +kernel
theorem dX3_store_31 : decode cX3_store 31 = .ok (.return_, 1) := by decide +kernel
theorem dX3_recall_0 : decode cX3_recall 0 = .ok (.iload_n 1, 1) := by decide +kernel
theorem dX3_recall_1 : decode cX3_recall 1 = .ok (.ifCond .lt 12, 3) := by decide +kernel
theorem dX3_recall_4 : decode cX3_recall 4 = .ok (.iload_n 1, 1) := by decide +kernel
theorem dX3_recall_5 : decode cX3_recall 5 = .ok (.aload_n 0, 1) := by decide +kernel
theorem dX3_recall_6 : decode cX3_recall 6 = .ok (.getfield 43, 3) := by decide +kernel
theorem dX3_recall_9 : decode cX3_recall 9 = .ok (.arraylength, 1) := by decide +kernel
theorem dX3_recall_10 : decode cX3_recall 10 = .ok (.if_icmp .lt 11, 3) := by decide +kernel
theorem dX3_recall_13 : decode cX3_recall 13 = .ok (.aload_n 0, 1) := by decide +kernel
theorem dX3_recall_14 : decode cX3_recall 14 = .ok (.iconst 3, 1) := by decide +kernel
theorem dX3_recall_15 : decode cX3_recall 15 = .ok (.putfield 30, 3) := by decide +kernel
theorem dX3_recall_18 : decode cX3_recall 18 = .ok (.goto 13, 3) := by decide +kernel
theorem dX3_recall_21 : decode cX3_recall 21 = .ok (.aload_n 0, 1) := by decide +kernel
theorem dX3_recall_22 : decode cX3_recall 22 = .ok (.aload_n 0, 1) := by decide +kernel
theorem dX3_recall_23 : decode cX3_recall 23 = .ok (.getfield 43, 3) := by decide +kernel
theorem dX3_recall_26 : decode cX3_recall 26 = .ok (.iload_n 1, 1) := by decide +kernel
theorem dX3_recall_27 : decode cX3_recall 27 = .ok (.iaload, 1) := by decide +kernel
theorem dX3_recall_28 : decode cX3_recall 28 = .ok (.putfield 20, 3) := by decide +kernel
theorem dX3_recall_31 : decode cX3_recall 31 = .ok (.return_, 1) := by decide +kernel
theorem dX3_jumpIf_0 : decode cX3_jumpIf 0 = .ok (.iload_n 1, 1) := by decide +kernel
theorem dX3_jumpIf_1 : decode cX3_jumpIf 1 = .ok (.ifCond .eq 8, 3) := by decide +kernel
theorem dX3_jumpIf_4 : decode cX3_jumpIf 4 = .ok (.aload_n 0, 1) := by decide +kernel
theorem dX3_jumpIf_5 : decode cX3_jumpIf 5 = .ok (.iload_n 2, 1) := by decide +kernel
theorem dX3_jumpIf_6 : decode cX3_jumpIf 6 = .ok (.putfield 27, 3) := by decide +kernel
theorem dX3_jumpIf_9 : decode cX3_jumpIf 9 = .ok (.return_, 1) := by decide +kernel
theorem dX3_failIf_0 : decode cX3_failIf 0 = .ok (.iload_n 1, 1) := by decide +kernel
theorem dX3_failIf_1 : decode cX3_failIf 1 = .ok (.ifCond .eq 8, 3) := by decide +kernel
theorem dX3_failIf_4 : decode cX3_failIf 4 = .ok (.aload_n 0, 1) := by decide +kernel
theorem dX3_failIf_5 : decode cX3_failIf 5 = .ok (.iload_n 2, 1) := by decide +kernel
theorem dX3_failIf_6 : decode cX3_failIf 6 = .ok (.putfield 30, 3) := by decide +kernel
theorem dX3_failIf_9 : decode cX3_failIf 9 = .ok (.return_, 1) := by decide +kernel
theorem dX4_init_0 : decode cX4_init 0 = .ok (.aload_n 0, 1) := by decide +kernel
theorem dX4_init_1 : decode cX4_init 1 = .ok (.invokespecial 3, 3) := by decide +kernel
theorem dX4_init_4 : decode cX4_init 4 = .ok (.aload_n 0, 1) := by decide +kernel
theorem dX4_init_5 : decode cX4_init 5 = .ok (.new 9, 3) := by decide +kernel
theorem dX4_init_8 : decode cX4_init 8 = .ok (.dup, 1) := by decide +kernel
theorem dX4_init_9 : decode cX4_init 9 = .ok (.invokespecial 11, 3) := by decide +kernel
theorem dX4_init_12 : decode cX4_init 12 = .ok (.putfield 12, 3) := by decide +kernel
theorem dX4_init_15 : decode cX4_init 15 = .ok (.aload_n 0, 1) := by decide +kernel
theorem dX4_init_16 : decode cX4_init 16 = .ok (.new 9, 3) := by decide +kernel
theorem dX4_init_19 : decode cX4_init 19 = .ok (.dup, 1) := by decide +kernel
theorem dX4_init_20 : decode cX4_init 20 = .ok (.invokespecial 11, 3) := by decide +kernel
theorem dX4_init_23 : decode cX4_init 23 = .ok (.putfield 18, 3) := by decide +kernel
theorem dX4_init_26 : decode cX4_init 26 = .ok (.aload_n 0, 1) := by decide +kernel
theorem dX4_init_27 : decode cX4_init 27 = .ok (.iconst (-1), 1) := by decide +kernel
theorem dX4_init_28 : decode cX4_init 28 = .ok (.putfield 21, 3) := by decide +kernel
theorem dX4_init_31 : decode cX4_init 31 = .ok (.aload_n 0, 1) := by decide +kernel
theorem dX4_init_32 : decode cX4_init 32 = .ok (.aload_n 1, 1) := by decide +kernel
theorem dX4_init_33 : decode cX4_init 33 = .ok (.putfield 25, 3) := by decide +kernel
theorem dX4_init_36 : decode cX4_init 36 = .ok (.aload_n 0, 1) := by decide +kernel
theorem dX4_init_37 : decode cX4_init 37 = .ok (.aload_n 2, 1) := by decide +kernel
theorem dX4_init_38 : decode cX4_init 38 = .ok (.putfield 29, 3) := by decide +kernel
theorem dX4_init_41 : decode cX4_init 41 = .ok (.return_, 1) := by decide +kernel
theorem dX4_size_0 : decode cX4_size 0 = .ok (.aload_n 0, 1) := by decide +kernel
theorem dX4_size_1 : decode cX4_size 1 = .ok (.getfield 25, 3) := by decide +kernel
theorem dX4_size_4 : decode cX4_size 4 = .ok (.arraylength, 1) := by decide +kernel
theorem dX4_size_5 : decode cX4_size 5 = .ok (.aload_n 0, 1) := by decide +kernel
theorem dX4_size_6 : decode cX4_size 6 = .ok (.getfield 29, 3) := by decide +kernel
theorem dX4_size_9 : decode cX4_size 9 = .ok (.arraylength, 1) := by decide +kernel
theorem dX4_size_10 : decode cX4_size 10 = .ok (.invokestatic 32, 3) := by decide +kernel
theorem dX4_size_13 : decode cX4_size 13 = .ok (.ireturn, 1) := by decide +kernel
theorem dX5_init_0 : decode cX5_init 0 = .ok (.aload_n 0, 1) := by decide +kernel
theorem dX5_init_1 : decode cX5_init 1 = .ok (.invokespecial 3, 3) := by decide +kernel
theorem dX5_init_4 : decode cX5_init 4 = .ok (.aload_n 0, 1) := by decide +kernel
theorem dX5_init_5 : decode cX5_init 5 = .ok (.sipush 200, 3) := by decide +kernel
theorem dX5_init_8 : decode cX5_init 8 = .ok (.newarray .int, 2) := by decide +kernel
theorem dX5_init_10 : decode cX5_init 10 = .ok (.putfield 9, 3) := by decide +kernel
theorem dX5_init_13 : decode cX5_init 13 = .ok (.aload_n 0, 1) := by decide +kernel
theorem dX5_init_14 : decode cX5_init 14 = .ok (.bipush 40, 2) := by decide +kernel
theorem dX5_init_16 : decode cX5_init 16 = .ok (.newarray .int, 2) := by decide +kernel
theorem dX5_init_18 : decode cX5_init 18 = .ok (.putfield 15, 3) := by decide +kernel
theorem dX5_init_21 : decode cX5_init 21 = .ok (.aload_n 0, 1) := by decide +kernel
theorem dX5_init_22 : decode cX5_init 22 = .ok (.bipush 40, 2) := by decide +kernel
theorem dX5_init_24 : decode cX5_init 24 = .ok (.newarray .int, 2) := by decide +kernel
theorem dX5_init_26 : decode cX5_init 26 = .ok (.putfield 18, 3) := by decide +kernel
theorem dX5_init_29 : decode cX5_init 29 = .ok (.aload_n 0, 1) := by decide +kernel
theorem dX5_init_30 : decode cX5_init 30 = .ok (.iconst 0, 1) := by decide +kernel
theorem dX5_init_31 : decode cX5_init 31 = .ok (.putfield 21, 3) := by decide +kernel
theorem dX5_init_34 : decode cX5_init 34 = .ok (.aload_n 0, 1) := by decide +kernel
theorem dX5_init_35 : decode cX5_init 35 = .ok (.iconst 0, 1) := by decide +kernel
theorem dX5_init_36 : decode cX5_init 36 = .ok (.putfield 25, 3) := by decide +kernel
theorem dX5_init_39 : decode cX5_init 39 = .ok (.return_, 1) := by decide +kernel
theorem dX5_add_0 : decode cX5_add 0 = .ok (.aload_n 0, 1) := by decide +kernel
theorem dX5_add_1 : decode cX5_add 1 = .ok (.getfield 21, 3) := by decide +kernel
theorem dX5_add_4 : decode cX5_add 4 = .ok (.sipush 200, 3) := by decide +kernel
theorem dX5_add_7 : decode cX5_add 7 = .ok (.if_icmp .ge 23, 3) := by decide +kernel
theorem dX5_add_10 : decode cX5_add 10 = .ok (.aload_n 0, 1) := by decide +kernel
theorem dX5_add_11 : decode cX5_add 11 = .ok (.getfield 9, 3) := by decide +kernel
theorem dX5_add_14 : decode cX5_add 14 = .ok (.aload_n 0, 1) := by decide +kernel
theorem dX5_add_15 : decode cX5_add 15 = .ok (.getfield 21, 3) := by decide +kernel
theorem dX5_add_18 : decode cX5_add 18 = .ok (.iload_n 1, 1) := by decide +kernel
theorem dX5_add_19 : decode cX5_add 19 = .ok (.iastore, 1) := by decide +kernel
theorem dX5_add_20 : decode cX5_add 20 = .ok (.aload_n 0, 1) := by decide +kernel
theorem dX5_add_21 : decode cX5_add 21 = .ok (.dup, 1) := by decide +kernel
theorem dX5_add_22 : decode cX5_add 22 = .ok (.getfield 21, 3) := by decide +kernel
theorem dX5_add_25 : decode cX5_add 25 = .ok (.iconst 1, 1) := by decide +kernel
theorem dX5_add_26 : decode cX5_add 26 = .ok (.iadd, 1) := by decide +kernel
theorem dX5_add_27 : decode cX5_add 27 = .ok (.putfield 21, 3) := by decide +kernel
theorem dX5_add_30 : decode cX5_add 30 = .ok (.return_, 1) := by decide +kernel
theorem dX5_clear_0 : decode cX5_clear 0 = .ok (.aload_n 0, 1) := by decide +kernel
theorem dX5_clear_1 : decode cX5_clear 1 = .ok (.iconst 0, 1) := by decide +kernel
theorem dX5_clear_2 : decode cX5_clear 2 = .ok (.putfield 21, 3) := by decide +kernel
theorem dX5_clear_5 : decode cX5_clear 5 = .ok (.return_, 1) := by decide +kernel
theorem dX5_parsed_0 : decode cX5_parsed 0 = .ok (.new 28, 3) := by decide +kernel
theorem dX5_parsed_3 : decode cX5_parsed 3 = .ok (.dup, 1) := by decide +kernel
theorem dX5_parsed_4 : decode cX5_parsed 4 = .ok (.aload_n 0, 1) := by decide +kernel
theorem dX5_parsed_5 : decode cX5_parsed 5 = .ok (.getfield 15, 3) := by decide +kernel
theorem dX5_parsed_8 : decode cX5_parsed 8 = .ok (.aload_n 0, 1) := by decide +kernel
theorem dX5_parsed_9 : decode cX5_parsed 9 = .ok (.getfield 25, 3) := by decide +kernel
theorem dX5_parsed_12 : decode cX5_parsed 12 = .ok (.invokestatic 30, 3) := by decide +kernel
theorem dX5_parsed_15 : decode cX5_parsed 15 = .ok (.aload_n 0, 1) := by decide +kernel
theorem dX5_parsed_16 : decode cX5_parsed 16 = .ok (.getfield 18, 3) := by decide +kernel
theorem dX5_parsed_19 : decode cX5_parsed 19 = .ok (.aload_n 0, 1) := by decide +kernel
theorem dX5_parsed_20 : decode cX5_parsed 20 = .ok (.getfield 25, 3) := by decide +kernel
theorem dX5_parsed_23 : decode cX5_parsed 23 = .ok (.invokestatic 30, 3) := by decide +kernel
theorem dX5_parsed_26 : decode cX5_parsed 26 = .ok (.invokespecial 36, 3) := by decide +kernel
theorem dX5_parsed_29 : decode cX5_parsed 29 = .ok (.areturn, 1) := by decide +kernel
theorem dX5_parse_0 : decode cX5_parse 0 = .ok (.aload_n 0, 1) := by decide +kernel
theorem dX5_parse_1 : decode cX5_parse 1 = .ok (.iconst 0, 1) := by decide +kernel
theorem dX5_parse_2 : decode cX5_parse 2 = .ok (.putfield 25, 3) := by decide +kernel
theorem dX5_parse_5 : decode cX5_parse 5 = .ok (.iconst 0, 1) := by decide +kernel
theorem dX5_parse_6 : decode cX5_parse 6 = .ok (.istore_n 1, 1) := by decide +kernel
theorem dX5_parse_7 : decode cX5_parse 7 = .ok (.aload_n 0, 1) := by decide +kernel
theorem dX5_parse_8 : decode cX5_parse 8 = .ok (.getfield 25, 3) := by decide +kernel
theorem dX5_parse_11 : decode cX5_parse 11 = .ok (.bipush 40, 2) := by decide +kernel
theorem dX5_parse_13 : decode cX5_parse 13 = .ok (.if_icmp .ge 117, 3) := by decide +kernel
theorem dX5_parse_16 : decode cX5_parse 16 = .ok (.aload_n 0, 1) := by decide +kernel
theorem dX5_parse_17 : decode cX5_parse 17 = .ok (.iload_n 1, 1) := by decide +kernel
theorem dX5_parse_18 : decode cX5_parse 18 = .ok (.invokevirtual 39, 3) := by decide +kernel
theorem dX5_parse_21 : decode cX5_parse 21 = .ok (.istore_n 2, 1) := by decide +kernel
theorem dX5_parse_22 : decode cX5_parse 22 = .ok (.iload_n 2, 1) := by decide +kernel
theorem dX5_parse_23 : decode cX5_parse 23 = .ok (.invokestatic 43, 3) := by decide +kernel
theorem dX5_parse_26 : decode cX5_parse 26 = .ok (.ifCond .ne 5, 3) := by decide +kernel
theorem dX5_parse_29 : decode cX5_parse 29 = .ok (.iload_n 1, 1) := by decide +kernel
theorem dX5_parse_30 : decode cX5_parse 30 = .ok (.ireturn, 1) := by decide +kernel
theorem dX5_parse_31 : decode cX5_parse 31 = .ok (.aload_n 0, 1) := by decide +kernel
theorem dX5_parse_32 : decode cX5_parse 32 = .ok (.iload_n 1, 1) := by decide +kernel
theorem dX5_parse_33 : decode cX5_parse 33 = .ok (.iconst 1, 1) := by decide +kernel
theorem dX5_parse_34 : decode cX5_parse 34 = .ok (.iadd, 1) := by decide +kernel
theorem dX5_parse_35 : decode cX5_parse 35 = .ok (.invokevirtual 47, 3) := by decide +kernel
theorem dX5_parse_38 : decode cX5_parse 38 = .ok (.istore_n 3, 1) := by decide +kernel
theorem dX5_parse_39 : decode cX5_parse 39 = .ok (.aload_n 0, 1) := by decide +kernel
theorem dX5_parse_40 : decode cX5_parse 40 = .ok (.iload_n 1, 1) := by decide +kernel
theorem dX5_parse_41 : decode cX5_parse 41 = .ok (.iconst 1, 1) := by decide +kernel
theorem dX5_parse_42 : decode cX5_parse 42 = .ok (.iadd, 1) := by decide +kernel
theorem dX5_parse_43 : decode cX5_parse 43 = .ok (.iload_n 3, 1) := by decide +kernel
theorem dX5_parse_44 : decode cX5_parse 44 = .ok (.invokevirtual 50, 3) := by decide +kernel
theorem dX5_parse_47 : decode cX5_parse 47 = .ok (.istore 4, 2) := by decide +kernel
theorem dX5_parse_49 : decode cX5_parse 49 = .ok (.iload_n 3, 1) := by decide +kernel
theorem dX5_parse_50 : decode cX5_parse 50 = .ok (.ifCond .eq 11, 3) := by decide +kernel
theorem dX5_parse_53 : decode cX5_parse 53 = .ok (.iload 4, 2) := by decide +kernel
theorem dX5_parse_55 : decode cX5_parse 55 = .ok (.sipush 255, 3) := by decide +kernel
theorem dX5_parse_58 : decode cX5_parse 58 = .ok (.if_icmp .le 7, 3) := by decide +kernel
theorem dX5_parse_61 : decode cX5_parse 61 = .ok (.iload_n 1, 1) := by decide +kernel
theorem dX5_parse_62 : decode cX5_parse 62 = .ok (.iconst 1, 1) := by decide +kernel
theorem dX5_parse_63 : decode cX5_parse 63 = .ok (.iadd, 1) := by decide +kernel
theorem dX5_parse_64 : decode cX5_parse 64 = .ok (.ireturn, 1) := by decide +kernel
theorem dX5_parse_65 : decode cX5_parse 65 = .ok (.aload_n 0, 1) := by decide +kernel
theorem dX5_parse_66 : decode cX5_parse 66 = .ok (.getfield 15, 3) := by decide +kernel
theorem dX5_parse_69 : decode cX5_parse 69 = .ok (.aload_n 0, 1) := by decide +kernel
theorem dX5_parse_70 : decode cX5_parse 70 = .ok (.getfield 25, 3) := by decide +kernel
theorem dX5_parse_73 : decode cX5_parse 73 = .ok (.iload_n 2, 1) := by decide +kernel
theorem dX5_parse_74 : decode cX5_parse 74 = .ok (.iastore, 1) := by decide +kernel
theorem dX5_parse_75 : decode cX5_parse 75 = .ok (.aload_n 0, 1) := by decide +kernel
theorem dX5_parse_76 : decode cX5_parse 76 = .ok (.getfield 18, 3) := by decide +kernel
theorem dX5_parse_79 : decode cX5_parse 79 = .ok (.aload_n 0, 1) := by decide +kernel
theorem dX5_parse_80 : decode cX5_parse 80 = .ok (.getfield 25, 3) := by decide +kernel
theorem dX5_parse_83 : decode cX5_parse 83 = .ok (.iload 4, 2) := by decide +kernel
theorem dX5_parse_85 : decode cX5_parse 85 = .ok (.iastore, 1) := by decide +kernel
theorem dX5_parse_86 : decode cX5_parse 86 = .ok (.aload_n 0, 1) := by decide +kernel
theorem dX5_parse_87 : decode cX5_parse 87 = .ok (.dup, 1) := by decide +kernel
theorem dX5_parse_88 : decode cX5_parse 88 = .ok (.getfield 25, 3) := by decide +kernel
theorem dX5_parse_91 : decode cX5_parse 91 = .ok (.iconst 1, 1) := by decide +kernel
theorem dX5_parse_92 : decode cX5_parse 92 = .ok (.iadd, 1) := by decide +kernel
theorem dX5_parse_93 : decode cX5_parse 93 = .ok (.putfield 25, 3) := by decide +kernel
theorem dX5_parse_96 : decode cX5_parse 96 = .ok (.iload_n 1, 1) := by decide +kernel
theorem dX5_parse_97 : decode cX5_parse 97 = .ok (.iconst 1, 1) := by decide +kernel
theorem dX5_parse_98 : decode cX5_parse 98 = .ok (.iload_n 3, 1) := by decide +kernel
theorem dX5_parse_99 : decode cX5_parse 99 = .ok (.iadd, 1) := by decide +kernel
theorem dX5_parse_100 : decode cX5_parse 100 = .ok (.iadd, 1) := by decide +kernel
theorem dX5_parse_101 : decode cX5_parse 101 = .ok (.istore_n 1, 1) := by decide +kernel
theorem dX5_parse_102 : decode cX5_parse 102 = .ok (.iload_n 1, 1) := by decide +kernel
theorem dX5_parse_103 : decode cX5_parse 103 = .ok (.aload_n 0, 1) := by decide +kernel
theorem dX5_parse_104 : decode cX5_parse 104 = .ok (.getfield 21, 3) := by decide +kernel
theorem dX5_parse_107 : decode cX5_parse 107 = .ok (.if_icmp .lt 5, 3) := by decide +kernel
theorem dX5_parse_110 : decode cX5_parse 110 = .ok (.iconst (-1), 1) := by decide +kernel
theorem dX5_parse_111 : decode cX5_parse 111 = .ok (.ireturn, 1) := by decide +kernel
theorem dX5_parse_112 : decode cX5_parse 112 = .ok (.aload_n 0, 1) := by decide +kernel
theorem dX5_parse_113 : decode cX5_parse 113 = .ok (.iload_n 1, 1) := by decide +kernel
theorem dX5_parse_114 : decode cX5_parse 114 = .ok (.invokevirtual 39, 3) := by decide +kernel
theorem dX5_parse_117 : decode cX5_parse 117 = .ok (.bipush 32, 2) := by decide +kernel
theorem dX5_parse_119 : decode cX5_parse 119 = .ok (.if_icmp .eq 5, 3) := by decide +kernel
theorem dX5_parse_122 : decode cX5_parse 122 = .ok (.iload_n 1, 1) := by decide +kernel
theorem dX5_parse_123 : decode cX5_parse 123 = .ok (.ireturn, 1) := by decide +kernel
theorem dX5_parse_124 : decode cX5_parse 124 = .ok (.iinc 1 1, 3) := by decide +kernel
theorem dX5_parse_127 : decode cX5_parse 127 = .ok (.goto (-120), 3) := by decide +kernel
theorem dX5_parse_130 : decode cX5_parse 130 = .ok (.iload_n 1, 1) := by decide +kernel
theorem dX5_parse_131 : decode cX5_parse 131 = .ok (.ireturn, 1) := by decide +kernel
theorem dX5_signAt_0 : decode cX5_signAt 0 = .ok (.iload_n 1, 1) := by decide +kernel
theorem dX5_signAt_1 : decode cX5_signAt 1 = .ok (.ifCond .lt 27, 3) := by decide +kernel
theorem dX5_signAt_4 : decode cX5_signAt 4 = .ok (.iload_n 1, 1) := by decide +kernel
theorem dX5_signAt_5 : decode cX5_signAt 5 = .ok (.aload_n 0, 1) := by decide +kernel
theorem dX5_signAt_6 : decode cX5_signAt 6 = .ok (.getfield 21, 3) := by decide +kernel
theorem dX5_signAt_9 : decode cX5_signAt 9 = .ok (.if_icmp .ge 19, 3) := by decide +kernel
theorem dX5_signAt_12 : decode cX5_signAt 12 = .ok (.iload_n 1, 1) := by decide +kernel
theorem dX5_signAt_13 : decode cX5_signAt 13 = .ok (.sipush 200, 3) := by decide +kernel
theorem dX5_signAt_16 : decode cX5_signAt 16 = .ok (.if_icmp .ge 12, 3) := by decide +kernel
theorem dX5_signAt_19 : decode cX5_signAt 19 = .ok (.aload_n 0, 1) := by decide +kernel
theorem dX5_signAt_20 : decode cX5_signAt 20 = .ok (.getfield 9, 3) := by decide +kernel
theorem dX5_signAt_23 : decode cX5_signAt 23 = .ok (.iload_n 1, 1) := by decide +kernel
theorem dX5_signAt_24 : decode cX5_signAt 24 = .ok (.iaload, 1) := by decide +kernel
theorem dX5_signAt_25 : decode cX5_signAt 25 = .ok (.goto 4, 3) := by decide +kernel
theorem dX5_signAt_28 : decode cX5_signAt 28 = .ok (.iconst (-1), 1) := by decide +kernel
theorem dX5_signAt_29 : decode cX5_signAt 29 = .ok (.ireturn, 1) := by decide +kernel
theorem dX5_digitsFrom_0 : decode cX5_digitsFrom 0 = .ok (.iconst 0, 1) := by decide +kernel
theorem dX5_digitsFrom_1 : decode cX5_digitsFrom 1 = .ok (.istore_n 2, 1) := by decide +kernel
theorem dX5_digitsFrom_2 : decode cX5_digitsFrom 2 = .ok (.iload_n 2, 1) := by decide +kernel
theorem dX5_digitsFrom_3 : decode cX5_digitsFrom 3 = .ok (.iconst 3, 1) := by decide +kernel
theorem dX5_digitsFrom_4 : decode cX5_digitsFrom 4 = .ok (.if_icmp .ge 22, 3) := by decide +kernel
theorem dX5_digitsFrom_7 : decode cX5_digitsFrom 7 = .ok (.aload_n 0, 1) := by decide +kernel
theorem dX5_digitsFrom_8 : decode cX5_digitsFrom 8 = .ok (.iload_n 1, 1) := by decide +kernel
theorem dX5_digitsFrom_9 : decode cX5_digitsFrom 9 = .ok (.iload_n 2, 1) := by decide +kernel
theorem dX5_digitsFrom_10 : decode cX5_digitsFrom 10 = .ok (.iadd, 1) := by decide +kernel
theorem dX5_digitsFrom_11 : decode cX5_digitsFrom 11 = .ok (.invokevirtual 39, 3) := by decide +kernel
theorem dX5_digitsFrom_14 : decode cX5_digitsFrom 14 = .ok (.invokestatic 54, 3) := by decide +kernel
theorem dX5_digitsFrom_17 : decode cX5_digitsFrom 17 = .ok (.ifCond .eq 9, 3) := by decide +kernel
theorem dX5_digitsFrom_20 : decode cX5_digitsFrom 20 = .ok (.iinc 2 1, 3) := by decide +kernel
theorem dX5_digitsFrom_23 : decode cX5_digitsFrom 23 = .ok (.goto (-21), 3) := by decide +kernel
theorem dX5_digitsFrom_26 : decode cX5_digitsFrom 26 = .ok (.iload_n 2, 1) := by decide +kernel
theorem dX5_digitsFrom_27 : decode cX5_digitsFrom 27 = .ok (.ireturn, 1) := by decide +kernel
theorem dX5_numberFrom_0 : decode cX5_numberFrom 0 = .ok (.iconst 0, 1) := by decide +kernel
theorem dX5_numberFrom_1 : decode cX5_numberFrom 1 = .ok (.istore_n 3, 1) := by decide +kernel
theorem dX5_numberFrom_2 : decode cX5_numberFrom 2 = .ok (.iconst 0, 1) := by decide +kernel
theorem dX5_numberFrom_3 : decode cX5_numberFrom 3 = .ok (.istore 4, 2) := by decide +kernel
theorem dX5_numberFrom_5 : decode cX5_numberFrom 5 = .ok (.iload 4, 2) := by decide +kernel
theorem dX5_numberFrom_7 : decode cX5_numberFrom 7 = .ok (.iload_n 2, 1) := by decide +kernel
theorem dX5_numberFrom_8 : decode cX5_numberFrom 8 = .ok (.if_icmp .ge 26, 3) := by decide +kernel
theorem dX5_numberFrom_11 : decode cX5_numberFrom 11 = .ok (.iload_n 3, 1) := by decide +kernel
theorem dX5_numberFrom_12 : decode cX5_numberFrom 12 = .ok (.bipush 10, 2) := by decide +kernel
theorem dX5_numberFrom_14 : decode cX5_numberFrom 14 = .ok (.imul, 1) := by decide +kernel
theorem dX5_numberFrom_15 : decode cX5_numberFrom 15 = .ok (.aload_n 0, 1) := by decide +kernel
theorem dX5_numberFrom_16 : decode cX5_numberFrom 16 = .ok (.iload_n 1, 1) := by decide +kernel
theorem dX5_numberFrom_17 : decode cX5_numberFrom 17 = .ok (.iload 4, 2) := by decide +kernel
theorem dX5_numberFrom_19 : decode cX5_numberFrom 19 = .ok (.iadd, 1) := by decide +kernel
theorem dX5_numberFrom_20 : decode cX5_numberFrom 20 = .ok (.invokevirtual 39, 3) := by decide +kernel
theorem dX5_numberFrom_23 : decode cX5_numberFrom 23 = .ok (.bipush 48, 2) := by decide +kernel
theorem dX5_numberFrom_25 : decode cX5_numberFrom 25 = .ok (.isub, 1) := by decide +kernel
theorem dX5_numberFrom_26 : decode cX5_numberFrom 26 = .ok (.iadd, 1) := by decide +kernel
theorem dX5_numberFrom_27 : decode cX5_numberFrom 27 = .ok (.istore_n 3, 1) := by decide +kernel
theorem dX5_numberFrom_28 : decode cX5_numberFrom 28 = .ok (.iinc 4 1, 3) := by decide +kernel
theorem dX5_numberFrom_31 : decode cX5_numberFrom 31 = .ok (.goto (-26), 3) := by decide +kernel
theorem dX5_numberFrom_34 : decode cX5_numberFrom 34 = .ok (.iload_n 3, 1) := by decide +kernel
theorem dX5_numberFrom_35 : decode cX5_numberFrom 35 = .ok (.ireturn, 1) := by decide +kernel
theorem dX5_isLetter_0 : decode cX5_isLetter 0 = .ok (.iload_n 0, 1) := by decide +kernel
theorem dX5_isLetter_1 : decode cX5_isLetter 1 = .ok (.ifCond .lt 17, 3) := by decide +kernel
theorem dX5_isLetter_4 : decode cX5_isLetter 4 = .ok (.ldc 57, 2) := by decide +kernel
theorem dX5_isLetter_6 : decode cX5_isLetter 6 = .ok (.iload_n 0, 1) := by decide +kernel
theorem dX5_isLetter_7 : decode cX5_isLetter 7 = .ok (.i2c, 1) := by decide +kernel
theorem dX5_isLetter_8 : decode cX5_isLetter 8 = .ok (.invokevirtual 59, 3) := by decide +kernel
theorem dX5_isLetter_11 : decode cX5_isLetter 11 = .ok (.ifCond .lt 7, 3) := by decide +kernel
theorem dX5_isLetter_14 : decode cX5_isLetter 14 = .ok (.iconst 1, 1) := by decide +kernel
theorem dX5_isLetter_15 : decode cX5_isLetter 15 = .ok (.goto 4, 3) := by decide +kernel
theorem dX5_isLetter_18 : decode cX5_isLetter 18 = .ok (.iconst 0, 1) := by decide +kernel
theorem dX5_isLetter_19 : decode cX5_isLetter 19 = .ok (.ireturn, 1) := by decide +kernel
theorem dX5_isDigit_0 : decode cX5_isDigit 0 = .ok (.iload_n 0, 1) := by decide +kernel
theorem dX5_isDigit_1 : decode cX5_isDigit 1 = .ok (.bipush 48, 2) := by decide +kernel
theorem dX5_isDigit_3 : decode cX5_isDigit 3 = .ok (.if_icmp .lt 13, 3) := by decide +kernel
theorem dX5_isDigit_6 : decode cX5_isDigit 6 = .ok (.iload_n 0, 1) := by decide +kernel
theorem dX5_isDigit_7 : decode cX5_isDigit 7 = .ok (.bipush 57, 2) := by decide +kernel
theorem dX5_isDigit_9 : decode cX5_isDigit 9 = .ok (.if_icmp .gt 7, 3) := by decide +kernel
theorem dX5_isDigit_12 : decode cX5_isDigit 12 = .ok (.iconst 1, 1) := by decide +kernel
theorem dX5_isDigit_13 : decode cX5_isDigit 13 = .ok (.goto 4, 3) := by decide +kernel
theorem dX5_isDigit_16 : decode cX5_isDigit 16 = .ok (.iconst 0, 1) := by decide +kernel
theorem dX5_isDigit_17 : decode cX5_isDigit 17 = .ok (.ireturn, 1) := by decide +kernel
theorem dX6_init_0 : decode cX6_init 0 = .ok (.aload_n 0, 1) := by decide +kernel
theorem dX6_init_1 : decode cX6_init 1 = .ok (.invokespecial 1, 3) := by decide +kernel
theorem dX6_init_4 : decode cX6_init 4 = .ok (.aload_n 0, 1) := by decide +kernel
theorem dX6_init_5 : decode cX6_init 5 = .ok (.new 7, 3) := by decide +kernel
theorem dX6_init_8 : decode cX6_init 8 = .ok (.dup, 1) := by decide +kernel
theorem dX6_init_9 : decode cX6_init 9 = .ok (.invokespecial 9, 3) := by decide +kernel
theorem dX6_init_12 : decode cX6_init 12 = .ok (.putfield 10, 3) := by decide +kernel
theorem dX6_init_15 : decode cX6_init 15 = .ok (.aload_n 0, 1) := by decide +kernel
theorem dX6_init_16 : decode cX6_init 16 = .ok (.new 16, 3) := by decide +kernel
theorem dX6_init_19 : decode cX6_init 19 = .ok (.dup, 1) := by decide +kernel
theorem dX6_init_20 : decode cX6_init 20 = .ok (.bipush 40, 2) := by decide +kernel
theorem dX6_init_22 : decode cX6_init 22 = .ok (.newarray .int, 2) := by decide +kernel
theorem dX6_init_24 : decode cX6_init 24 = .ok (.iconst 0, 1) := by decide +kernel
theorem dX6_init_25 : decode cX6_init 25 = .ok (.invokespecial 18, 3) := by decide +kernel
theorem dX6_init_28 : decode cX6_init 28 = .ok (.putfield 21, 3) := by decide +kernel
theorem dX6_init_31 : decode cX6_init 31 = .ok (.aload_n 0, 1) := by decide +kernel
theorem dX6_init_32 : decode cX6_init 32 = .ok (.bipush 10, 2) := by decide +kernel
theorem dX6_init_34 : decode cX6_init 34 = .ok (.anewarray 25, 3) := by decide +kernel
theorem dX6_init_37 : decode cX6_init 37 = .ok (.putfield 27, 3) := by decide +kernel
theorem dX6_init_40 : decode cX6_init 40 = .ok (.aload_n 0, 1) := by decide +kernel
theorem dX6_init_41 : decode cX6_init 41 = .ok (.bipush 60, 2) := by decide +kernel
theorem dX6_init_43 : decode cX6_init 43 = .ok (.anewarray 31, 3) := by decide +kernel
theorem dX6_init_46 : decode cX6_init 46 = .ok (.putfield 33, 3) := by decide +kernel
theorem dX6_init_49 : decode cX6_init 49 = .ok (.aload_n 0, 1) := by decide +kernel
theorem dX6_init_50 : decode cX6_init 50 = .ok (.iconst 0, 1) := by decide +kernel
theorem dX6_init_51 : decode cX6_init 51 = .ok (.putfield 37, 3) := by decide +kernel
theorem dX6_init_54 : decode cX6_init 54 = .ok (.aload_n 0, 1) := by decide +kernel
theorem dX6_init_55 : decode cX6_init 55 = .ok (.iconst 0, 1) := by decide +kernel
theorem dX6_init_56 : decode cX6_init 56 = .ok (.putfield 41, 3) := by decide +kernel
theorem dX6_init_59 : decode cX6_init 59 = .ok (.aload_n 0, 1) := by decide +kernel
theorem dX6_init_60 : decode cX6_init 60 = .ok (.iconst 0, 1) := by decide +kernel
theorem dX6_init_61 : decode cX6_init 61 = .ok (.putfield 44, 3) := by decide +kernel
theorem dX6_init_64 : decode cX6_init 64 = .ok (.aload_n 0, 1) := by decide +kernel
theorem dX6_init_65 : decode cX6_init 65 = .ok (.iconst (-1), 1) := by decide +kernel
theorem dX6_init_66 : decode cX6_init 66 = .ok (.putfield 47, 3) := by decide +kernel
theorem dX6_init_69 : decode cX6_init 69 = .ok (.aload_n 0, 1) := by decide +kernel
theorem dX6_init_70 : decode cX6_init 70 = .ok (.iconst 0, 1) := by decide +kernel
theorem dX6_init_71 : decode cX6_init 71 = .ok (.putfield 50, 3) := by decide +kernel
theorem dX6_init_74 : decode cX6_init 74 = .ok (.aload_n 0, 1) := by decide +kernel
theorem dX6_init_75 : decode cX6_init 75 = .ok (.new 53, 3) := by decide +kernel
theorem dX6_init_78 : decode cX6_init 78 = .ok (.dup, 1) := by decide +kernel
theorem dX6_init_79 : decode cX6_init 79 = .ok (.iconst 0, 1) := by decide +kernel
theorem dX6_init_80 : decode cX6_init 80 = .ok (.iload_n 1, 1) := by decide +kernel
theorem dX6_init_81 : decode cX6_init 81 = .ok (.sipush 2000, 3) := by decide +kernel
theorem dX6_init_84 : decode cX6_init 84 = .ok (.invokestatic 55, 3) := by decide +kernel
theorem dX6_init_87 : decode cX6_init 87 = .ok (.invokestatic 61, 3) := by decide +kernel
theorem dX6_init_90 : decode cX6_init 90 = .ok (.iconst 0, 1) := by decide +kernel
theorem dX6_init_91 : decode cX6_init 91 = .ok (.iload_n 2, 1) := by decide +kernel
theorem dX6_init_92 : decode cX6_init 92 = .ok (.bipush 32, 2) := by decide +kernel
theorem dX6_init_94 : decode cX6_init 94 = .ok (.invokestatic 55, 3) := by decide +kernel
theorem dX6_init_97 : decode cX6_init 97 = .ok (.invokestatic 61, 3) := by decide +kernel
theorem dX6_init_100 : decode cX6_init 100 = .ok (.newarray .int, 2) := by decide +kernel
theorem dX6_init_102 : decode cX6_init 102 = .ok (.invokespecial 64, 3) := by decide +kernel
theorem dX6_init_105 : decode cX6_init 105 = .ok (.putfield 67, 3) := by decide +kernel
theorem dX6_init_108 : decode cX6_init 108 = .ok (.return_, 1) := by decide +kernel
theorem dX6_sign_0 : decode cX6_sign 0 = .ok (.aload_n 0, 1) := by decide +kernel
theorem dX6_sign_1 : decode cX6_sign 1 = .ok (.getfield 10, 3) := by decide +kernel
theorem dX6_sign_4 : decode cX6_sign 4 = .ok (.iload_n 1, 1) := by decide +kernel
theorem dX6_sign_5 : decode cX6_sign 5 = .ok (.sipush 255, 3) := by decide +kernel
theorem dX6_sign_8 : decode cX6_sign 8 = .ok (.iand, 1) := by decide +kernel
theorem dX6_sign_9 : decode cX6_sign 9 = .ok (.invokevirtual 71, 3) := by decide +kernel
theorem dX6_sign_12 : decode cX6_sign 12 = .ok (.return_, 1) := by decide +kernel
theorem dX6_read_0 : decode cX6_read 0 = .ok (.aload_n 0, 1) := by decide +kernel
theorem dX6_read_1 : decode cX6_read 1 = .ok (.aload_n 0, 1) := by decide +kernel
theorem dX6_read_2 : decode cX6_read 2 = .ok (.getfield 10, 3) := by decide +kernel
theorem dX6_read_5 : decode cX6_read 5 = .ok (.invokevirtual 75, 3) := by decide +kernel
theorem dX6_read_8 : decode cX6_read 8 = .ok (.putfield 47, 3) := by decide +kernel
theorem dX6_read_11 : decode cX6_read 11 = .ok (.aload_n 0, 1) := by decide +kernel
theorem dX6_read_12 : decode cX6_read 12 = .ok (.getfield 10, 3) := by decide +kernel
theorem dX6_read_15 : decode cX6_read 15 = .ok (.invokevirtual 79, 3) := by decide +kernel
theorem dX6_read_18 : decode cX6_read 18 = .ok (.aload_n 0, 1) := by decide +kernel
theorem dX6_read_19 : decode cX6_read 19 = .ok (.getfield 47, 3) := by decide +kernel
theorem dX6_read_22 : decode cX6_read 22 = .ok (.iconst (-1), 1) := by decide +kernel
theorem dX6_read_23 : decode cX6_read 23 = .ok (.if_icmp .eq 13, 3) := by decide +kernel
theorem dX6_read_26 : decode cX6_read 26 = .ok (.new 82, 3) := by decide +kernel
theorem dX6_read_29 : decode cX6_read 29 = .ok (.dup, 1) := by decide +kernel
theorem dX6_read_30 : decode cX6_read 30 = .ok (.ldc 84, 2) := by decide +kernel
theorem dX6_read_32 : decode cX6_read 32 = .ok (.invokespecial 86, 3) := by decide +kernel
theorem dX6_read_35 : decode cX6_read 35 = .ok (.athrow, 1) := by decide +kernel
theorem dX6_read_36 : decode cX6_read 36 = .ok (.aload_n 0, 1) := by decide +kernel
theorem dX6_read_37 : decode cX6_read 37 = .ok (.getfield 37, 3) := by decide +kernel
theorem dX6_read_40 : decode cX6_read 40 = .ok (.bipush 10, 2) := by decide +kernel
theorem dX6_read_42 : decode cX6_read 42 = .ok (.if_icmp .lt 6, 3) := by decide +kernel
theorem dX6_read_45 : decode cX6_read 45 = .ok (.bipush (-4), 2) := by decide +kernel
theorem dX6_read_47 : decode cX6_read 47 = .ok (.ireturn, 1) := by decide +kernel
theorem dX6_read_48 : decode cX6_read 48 = .ok (.aload_n 0, 1) := by decide +kernel
theorem dX6_read_49 : decode cX6_read 49 = .ok (.getfield 27, 3) := by decide +kernel
theorem dX6_read_52 : decode cX6_read 52 = .ok (.aload_n 0, 1) := by decide +kernel
theorem dX6_read_53 : decode cX6_read 53 = .ok (.getfield 37, 3) := by decide +kernel
theorem dX6_read_56 : decode cX6_read 56 = .ok (.aload_n 0, 1) := by decide +kernel
theorem dX6_read_57 : decode cX6_read 57 = .ok (.getfield 10, 3) := by decide +kernel
theorem dX6_read_60 : decode cX6_read 60 = .ok (.invokevirtual 89, 3) := by decide +kernel
theorem dX6_read_63 : decode cX6_read 63 = .ok (.aastore, 1) := by decide +kernel
theorem dX6_read_64 : decode cX6_read 64 = .ok (.aload_n 0, 1) := by decide +kernel
theorem dX6_read_65 : decode cX6_read 65 = .ok (.dup, 1) := by decide +kernel
theorem dX6_read_66 : decode cX6_read 66 = .ok (.getfield 37, 3) := by decide +kernel
theorem dX6_read_69 : decode cX6_read 69 = .ok (.iconst 1, 1) := by decide +kernel
theorem dX6_read_70 : decode cX6_read 70 = .ok (.iadd, 1) := by decide +kernel
theorem dX6_read_71 : decode cX6_read 71 = .ok (.putfield 37, 3) := by decide +kernel
theorem dX6_read_74 : decode cX6_read 74 = .ok (.aload_n 0, 1) := by decide +kernel
theorem dX6_read_75 : decode cX6_read 75 = .ok (.getfield 37, 3) := by decide +kernel
theorem dX6_read_78 : decode cX6_read 78 = .ok (.iconst 1, 1) := by decide +kernel
theorem dX6_read_79 : decode cX6_read 79 = .ok (.isub, 1) := by decide +kernel
theorem dX6_read_80 : decode cX6_read 80 = .ok (.ireturn, 1) := by decide +kernel
theorem dX6_place_0 : decode cX6_place 0 = .ok (.aload_n 0, 1) := by decide +kernel
theorem dX6_place_1 : decode cX6_place 1 = .ok (.getfield 47, 3) := by decide +kernel
theorem dX6_place_4 : decode cX6_place 4 = .ok (.ireturn, 1) := by decide +kernel
theorem dX6_octet_0 : decode cX6_octet 0 = .ok (.aload_n 0, 1) := by decide +kernel
theorem dX6_octet_1 : decode cX6_octet 1 = .ok (.getfield 21, 3) := by decide +kernel
theorem dX6_octet_4 : decode cX6_octet 4 = .ok (.iload_n 1, 1) := by decide +kernel
theorem dX6_octet_5 : decode cX6_octet 5 = .ok (.sipush 255, 3) := by decide +kernel
theorem dX6_octet_8 : decode cX6_octet 8 = .ok (.iand, 1) := by decide +kernel
theorem dX6_octet_9 : decode cX6_octet 9 = .ok (.invokevirtual 93, 3) := by decide +kernel
theorem dX6_octet_12 : decode cX6_octet 12 = .ok (.pop, 1) := by decide +kernel
theorem dX6_octet_13 : decode cX6_octet 13 = .ok (.return_, 1) := by decide +kernel
theorem dX6_original_0 : decode cX6_original 0 = .ok (.aload_n 0, 1) := by decide +kernel
theorem dX6_original_1 : decode cX6_original 1 = .ok (.getfield 41, 3) := by decide +kernel
theorem dX6_original_4 : decode cX6_original 4 = .ok (.bipush 60, 2) := by decide +kernel
theorem dX6_original_6 : decode cX6_original 6 = .ok (.if_icmp .lt 6, 3) := by decide +kernel
theorem dX6_original_9 : decode cX6_original 9 = .ok (.bipush (-4), 2) := by decide +kernel
theorem dX6_original_11 : decode cX6_original 11 = .ok (.ireturn, 1) := by decide +kernel
theorem dX6_original_12 : decode cX6_original 12 = .ok (.aload_n 0, 1) := by decide +kernel
theorem dX6_original_13 : decode cX6_original 13 = .ok (.new 31, 3) := by decide +kernel
theorem dX6_original_16 : decode cX6_original 16 = .ok (.dup, 1) := by decide +kernel
theorem dX6_original_17 : decode cX6_original 17 = .ok (.aload_n 0, 1) := by decide +kernel
theorem dX6_original_18 : decode cX6_original 18 = .ok (.getfield 21, 3) := by decide +kernel
theorem dX6_original_21 : decode cX6_original 21 = .ok (.invokevirtual 96, 3) := by decide +kernel
theorem dX6_original_24 : decode cX6_original 24 = .ok (.iconst (-1), 1) := by decide +kernel
theorem dX6_original_25 : decode cX6_original 25 = .ok (.iconst (-1), 1) := by decide +kernel
theorem dX6_original_26 : decode cX6_original 26 = .ok (.aload_n 0, 1) := by decide +kernel
theorem dX6_original_27 : decode cX6_original 27 = .ok (.getfield 41, 3) := by decide +kernel
theorem dX6_original_30 : decode cX6_original 30 = .ok (.invokespecial 100, 3) := by decide +kernel
theorem dX6_original_33 : decode cX6_original 33 = .ok (.invokevirtual 103, 3) := by decide +kernel
theorem dX6_original_36 : decode cX6_original 36 = .ok (.istore_n 1, 1) := by decide +kernel
theorem dX6_original_37 : decode cX6_original 37 = .ok (.aload_n 0, 1) := by decide +kernel
theorem dX6_original_38 : decode cX6_original 38 = .ok (.getfield 21, 3) := by decide +kernel
theorem dX6_original_41 : decode cX6_original 41 = .ok (.invokevirtual 107, 3) := by decide +kernel
theorem dX6_original_44 : decode cX6_original 44 = .ok (.iload_n 1, 1) := by decide +kernel
theorem dX6_original_45 : decode cX6_original 45 = .ok (.ireturn, 1) := by decide +kernel
theorem dX6_check_0 : decode cX6_check 0 = .ok (.aload_n 0, 1) := by decide +kernel
theorem dX6_check_1 : decode cX6_check 1 = .ok (.iload_n 1, 1) := by decide +kernel
theorem dX6_check_2 : decode cX6_check 2 = .ok (.invokevirtual 108, 3) := by decide +kernel
theorem dX6_check_5 : decode cX6_check 5 = .ok (.astore 5, 2) := by decide +kernel
theorem dX6_check_7 : decode cX6_check 7 = .ok (.aload 5, 2) := by decide +kernel
theorem dX6_check_9 : decode cX6_check 9 = .ok (.ifnonnull 5, 3) := by decide +kernel
theorem dX6_check_12 : decode cX6_check 12 = .ok (.iconst (-1), 1) := by decide +kernel
theorem dX6_check_13 : decode cX6_check 13 = .ok (.ireturn, 1) := by decide +kernel
theorem dX6_check_14 : decode cX6_check 14 = .ok (.iload_n 3, 1) := by decide +kernel
theorem dX6_check_15 : decode cX6_check 15 = .ok (.ifCond .lt 21, 3) := by decide +kernel
theorem dX6_check_18 : decode cX6_check 18 = .ok (.iload_n 3, 1) := by decide +kernel
theorem dX6_check_19 : decode cX6_check 19 = .ok (.iconst 3, 1) := by decide +kernel
theorem dX6_check_20 : decode cX6_check 20 = .ok (.if_icmp .gt 16, 3) := by decide +kernel
theorem dX6_check_23 : decode cX6_check 23 = .ok (.iload 4, 2) := by decide +kernel
theorem dX6_check_25 : decode cX6_check 25 = .ok (.ifCond .lt 11, 3) := by decide +kernel
theorem dX6_check_28 : decode cX6_check 28 = .ok (.iload 4, 2) := by decide +kernel
theorem dX6_check_30 : decode cX6_check 30 = .ok (.sipush 255, 3) := by decide +kernel
theorem dX6_check_33 : decode cX6_check 33 = .ok (.if_icmp .le 6, 3) := by decide +kernel
theorem dX6_check_36 : decode cX6_check 36 = .ok (.bipush (-2), 2) := by decide +kernel
theorem dX6_check_38 : decode cX6_check 38 = .ok (.ireturn, 1) := by decide +kernel
theorem dX6_check_39 : decode cX6_check 39 = .ok (.iload_n 2, 1) := by decide +kernel
theorem dX6_check_40 : decode cX6_check 40 = .ok (.ifCond .eq 17, 3) := by decide +kernel
theorem dX6_check_43 : decode cX6_check 43 = .ok (.aload 5, 2) := by decide +kernel
theorem dX6_check_45 : decode cX6_check 45 = .ok (.getfield 112, 3) := by decide +kernel
theorem dX6_check_48 : decode cX6_check 48 = .ok (.iload_n 3, 1) := by decide +kernel
theorem dX6_check_49 : decode cX6_check 49 = .ok (.iload 4, 2) := by decide +kernel
theorem dX6_check_51 : decode cX6_check 51 = .ok (.invokevirtual 116, 3) := by decide +kernel
theorem dX6_check_54 : decode cX6_check 54 = .ok (.goto 14, 3) := by decide +kernel
theorem dX6_check_57 : decode cX6_check 57 = .ok (.aload 5, 2) := by decide +kernel
theorem dX6_check_59 : decode cX6_check 59 = .ok (.getfield 120, 3) := by decide +kernel
theorem dX6_check_62 : decode cX6_check 62 = .ok (.iload_n 3, 1) := by decide +kernel
theorem dX6_check_63 : decode cX6_check 63 = .ok (.iload 4, 2) := by decide +kernel
theorem dX6_check_65 : decode cX6_check 65 = .ok (.invokevirtual 116, 3) := by decide +kernel
theorem dX6_check_68 : decode cX6_check 68 = .ok (.ireturn, 1) := by decide +kernel
theorem dX6_migrate_0 : decode cX6_migrate 0 = .ok (.aload_n 0, 1) := by decide +kernel
theorem dX6_migrate_1 : decode cX6_migrate 1 = .ok (.iload_n 1, 1) := by decide +kernel
theorem dX6_migrate_2 : decode cX6_migrate 2 = .ok (.invokevirtual 123, 3) := by decide +kernel
theorem dX6_migrate_5 : decode cX6_migrate 5 = .ok (.ifnull 11, 3) := by decide +kernel
theorem dX6_migrate_8 : decode cX6_migrate 8 = .ok (.aload_n 0, 1) := by decide +kernel
theorem dX6_migrate_9 : decode cX6_migrate 9 = .ok (.iload_n 2, 1) := by decide +kernel
theorem dX6_migrate_10 : decode cX6_migrate 10 = .ok (.invokevirtual 108, 3) := by decide +kernel
theorem dX6_migrate_13 : decode cX6_migrate 13 = .ok (.ifnonnull 5, 3) := by decide +kernel
theorem dX6_migrate_16 : decode cX6_migrate 16 = .ok (.iconst (-1), 1) := by decide +kernel
theorem dX6_migrate_17 : decode cX6_migrate 17 = .ok (.ireturn, 1) := by decide +kernel
theorem dX6_migrate_18 : decode cX6_migrate 18 = .ok (.aload_n 0, 1) := by decide +kernel
theorem dX6_migrate_19 : decode cX6_migrate 19 = .ok (.iload_n 1, 1) := by decide +kernel
theorem dX6_migrate_20 : decode cX6_migrate 20 = .ok (.iload_n 2, 1) := by decide +kernel
theorem dX6_migrate_21 : decode cX6_migrate 21 = .ok (.invokevirtual 127, 3) := by decide +kernel
theorem dX6_migrate_24 : decode cX6_migrate 24 = .ok (.istore_n 3, 1) := by decide +kernel
theorem dX6_migrate_25 : decode cX6_migrate 25 = .ok (.aload_n 0, 1) := by decide +kernel
theorem dX6_migrate_26 : decode cX6_migrate 26 = .ok (.iload_n 3, 1) := by decide +kernel
theorem dX6_migrate_27 : decode cX6_migrate 27 = .ok (.invokestatic 130, 3) := by decide +kernel
theorem dX6_migrate_30 : decode cX6_migrate 30 = .ok (.putfield 50, 3) := by decide +kernel
theorem dX6_migrate_33 : decode cX6_migrate 33 = .ok (.iload_n 3, 1) := by decide +kernel
theorem dX6_migrate_34 : decode cX6_migrate 34 = .ok (.ireturn, 1) := by decide +kernel
theorem dX6_chain_0 : decode cX6_chain 0 = .ok (.aload_n 0, 1) := by decide +kernel
theorem dX6_chain_1 : decode cX6_chain 1 = .ok (.iload_n 1, 1) := by decide +kernel
theorem dX6_chain_2 : decode cX6_chain 2 = .ok (.invokevirtual 108, 3) := by decide +kernel
theorem dX6_chain_5 : decode cX6_chain 5 = .ok (.astore_n 3, 1) := by decide +kernel
theorem dX6_chain_6 : decode cX6_chain 6 = .ok (.aload_n 3, 1) := by decide +kernel
theorem dX6_chain_7 : decode cX6_chain 7 = .ok (.ifnull 16, 3) := by decide +kernel
theorem dX6_chain_10 : decode cX6_chain 10 = .ok (.iload_n 2, 1) := by decide +kernel
theorem dX6_chain_11 : decode cX6_chain 11 = .ok (.iconst (-1), 1) := by decide +kernel
theorem dX6_chain_12 : decode cX6_chain 12 = .ok (.if_icmp .eq 13, 3) := by decide +kernel
theorem dX6_chain_15 : decode cX6_chain 15 = .ok (.aload_n 0, 1) := by decide +kernel
theorem dX6_chain_16 : decode cX6_chain 16 = .ok (.iload_n 2, 1) := by decide +kernel
theorem dX6_chain_17 : decode cX6_chain 17 = .ok (.invokevirtual 108, 3) := by decide +kernel
theorem dX6_chain_20 : decode cX6_chain 20 = .ok (.ifnonnull 5, 3) := by decide +kernel
theorem dX6_chain_23 : decode cX6_chain 23 = .ok (.iconst (-1), 1) := by decide +kernel
theorem dX6_chain_24 : decode cX6_chain 24 = .ok (.ireturn, 1) := by decide +kernel
theorem dX6_chain_25 : decode cX6_chain 25 = .ok (.aload_n 0, 1) := by decide +kernel
theorem dX6_chain_26 : decode cX6_chain 26 = .ok (.iload_n 2, 1) := by decide +kernel
theorem dX6_chain_27 : decode cX6_chain 27 = .ok (.iload_n 1, 1) := by decide +kernel
theorem dX6_chain_28 : decode cX6_chain 28 = .ok (.invokevirtual 134, 3) := by decide +kernel
theorem dX6_chain_31 : decode cX6_chain 31 = .ok (.ifCond .eq 6, 3) := by decide +kernel
theorem dX6_chain_34 : decode cX6_chain 34 = .ok (.bipush (-3), 2) := by decide +kernel
theorem dX6_chain_36 : decode cX6_chain 36 = .ok (.ireturn, 1) := by decide +kernel
theorem dX6_chain_37 : decode cX6_chain 37 = .ok (.aload_n 3, 1) := by decide +kernel
theorem dX6_chain_38 : decode cX6_chain 38 = .ok (.iload_n 2, 1) := by decide +kernel
theorem dX6_chain_39 : decode cX6_chain 39 = .ok (.putfield 138, 3) := by decide +kernel
theorem dX6_chain_42 : decode cX6_chain 42 = .ok (.iconst 1, 1) := by decide +kernel
theorem dX6_chain_43 : decode cX6_chain 43 = .ok (.ireturn, 1) := by decide +kernel
theorem dX6_goesOn_0 : decode cX6_goesOn 0 = .ok (.aload_n 0, 1) := by decide +kernel
theorem dX6_goesOn_1 : decode cX6_goesOn 1 = .ok (.iload_n 1, 1) := by decide +kernel
theorem dX6_goesOn_2 : decode cX6_goesOn 2 = .ok (.invokevirtual 123, 3) := by decide +kernel
theorem dX6_goesOn_5 : decode cX6_goesOn 5 = .ok (.ifnull 11, 3) := by decide +kernel
theorem dX6_goesOn_8 : decode cX6_goesOn 8 = .ok (.aload_n 0, 1) := by decide +kernel
theorem dX6_goesOn_9 : decode cX6_goesOn 9 = .ok (.iload_n 2, 1) := by decide +kernel
theorem dX6_goesOn_10 : decode cX6_goesOn 10 = .ok (.invokevirtual 108, 3) := by decide +kernel
theorem dX6_goesOn_13 : decode cX6_goesOn 13 = .ok (.ifnonnull 5, 3) := by decide +kernel
theorem dX6_goesOn_16 : decode cX6_goesOn 16 = .ok (.iconst (-1), 1) := by decide +kernel
theorem dX6_goesOn_17 : decode cX6_goesOn 17 = .ok (.ireturn, 1) := by decide +kernel
theorem dX6_goesOn_18 : decode cX6_goesOn 18 = .ok (.iconst 0, 1) := by decide +kernel
theorem dX6_goesOn_19 : decode cX6_goesOn 19 = .ok (.istore_n 3, 1) := by decide +kernel
theorem dX6_goesOn_20 : decode cX6_goesOn 20 = .ok (.iload_n 1, 1) := by decide +kernel
theorem dX6_goesOn_21 : decode cX6_goesOn 21 = .ok (.istore 4, 2) := by decide +kernel
theorem dX6_goesOn_23 : decode cX6_goesOn 23 = .ok (.iload_n 2, 1) := by decide +kernel
theorem dX6_goesOn_24 : decode cX6_goesOn 24 = .ok (.istore 5, 2) := by decide +kernel
theorem dX6_goesOn_26 : decode cX6_goesOn 26 = .ok (.iconst 0, 1) := by decide +kernel
theorem dX6_goesOn_27 : decode cX6_goesOn 27 = .ok (.istore 6, 2) := by decide +kernel
theorem dX6_goesOn_29 : decode cX6_goesOn 29 = .ok (.iload 6, 2) := by decide +kernel
theorem dX6_goesOn_31 : decode cX6_goesOn 31 = .ok (.bipush 10, 2) := by decide +kernel
theorem dX6_goesOn_33 : decode cX6_goesOn 33 = .ok (.if_icmp .ge 53, 3) := by decide +kernel
theorem dX6_goesOn_36 : decode cX6_goesOn 36 = .ok (.iload 5, 2) := by decide +kernel
theorem dX6_goesOn_38 : decode cX6_goesOn 38 = .ok (.iconst (-1), 1) := by decide +kernel
theorem dX6_goesOn_39 : decode cX6_goesOn 39 = .ok (.if_icmp .eq 47, 3) := by decide +kernel
theorem dX6_goesOn_42 : decode cX6_goesOn 42 = .ok (.aload_n 0, 1) := by decide +kernel
theorem dX6_goesOn_43 : decode cX6_goesOn 43 = .ok (.iload 4, 2) := by decide +kernel
theorem dX6_goesOn_45 : decode cX6_goesOn 45 = .ok (.iload 5, 2) := by decide +kernel
theorem dX6_goesOn_47 : decode cX6_goesOn 47 = .ok (.invokevirtual 127, 3) := by decide +kernel
theorem dX6_goesOn_50 : decode cX6_goesOn 50 = .ok (.istore 4, 2) := by decide +kernel
theorem dX6_goesOn_52 : decode cX6_goesOn 52 = .ok (.aload_n 0, 1) := by decide +kernel
theorem dX6_goesOn_53 : decode cX6_goesOn 53 = .ok (.iload 4, 2) := by decide +kernel
theorem dX6_goesOn_55 : decode cX6_goesOn 55 = .ok (.invokestatic 130, 3) := by decide +kernel
theorem dX6_goesOn_58 : decode cX6_goesOn 58 = .ok (.putfield 50, 3) := by decide +kernel
theorem dX6_goesOn_61 : decode cX6_goesOn 61 = .ok (.iload 4, 2) := by decide +kernel
theorem dX6_goesOn_63 : decode cX6_goesOn 63 = .ok (.ifCond .ge 6, 3) := by decide +kernel
theorem dX6_goesOn_66 : decode cX6_goesOn 66 = .ok (.goto 20, 3) := by decide +kernel
theorem dX6_goesOn_69 : decode cX6_goesOn 69 = .ok (.iinc 3 1, 3) := by decide +kernel
theorem dX6_goesOn_72 : decode cX6_goesOn 72 = .ok (.aload_n 0, 1) := by decide +kernel
theorem dX6_goesOn_73 : decode cX6_goesOn 73 = .ok (.iload 5, 2) := by decide +kernel
theorem dX6_goesOn_75 : decode cX6_goesOn 75 = .ok (.invokevirtual 141, 3) := by decide +kernel
theorem dX6_goesOn_78 : decode cX6_goesOn 78 = .ok (.istore 5, 2) := by decide +kernel
theorem dX6_goesOn_80 : decode cX6_goesOn 80 = .ok (.iinc 6 1, 3) := by decide +kernel
theorem dX6_goesOn_83 : decode cX6_goesOn 83 = .ok (.goto (-54), 3) := by decide +kernel
theorem dX6_goesOn_86 : decode cX6_goesOn 86 = .ok (.iload_n 3, 1) := by decide +kernel
theorem dX6_goesOn_87 : decode cX6_goesOn 87 = .ok (.ireturn, 1) := by decide +kernel
theorem dX6_what_0 : decode cX6_what 0 = .ok (.aload_n 0, 1) := by decide +kernel
theorem dX6_what_1 : decode cX6_what 1 = .ok (.getfield 50, 3) := by decide +kernel
theorem dX6_what_4 : decode cX6_what 4 = .ok (.ireturn, 1) := by decide +kernel
theorem dX6_failed_0 : decode cX6_failed 0 = .ok (.aload_n 0, 1) := by decide +kernel
theorem dX6_failed_1 : decode cX6_failed 1 = .ok (.getfield 67, 3) := by decide +kernel
theorem dX6_failed_4 : decode cX6_failed 4 = .ok (.getfield 144, 3) := by decide +kernel
theorem dX6_failed_7 : decode cX6_failed 7 = .ok (.ireturn, 1) := by decide +kernel
theorem dX6_counted_0 : decode cX6_counted 0 = .ok (.aload_n 0, 1) := by decide +kernel
theorem dX6_counted_1 : decode cX6_counted 1 = .ok (.getfield 67, 3) := by decide +kernel
theorem dX6_counted_4 : decode cX6_counted 4 = .ok (.getfield 147, 3) := by decide +kernel
theorem dX6_counted_7 : decode cX6_counted 7 = .ok (.lreturn, 1) := by decide +kernel
theorem dX6_batch_0 : decode cX6_batch 0 = .ok (.aload_n 0, 1) := by decide +kernel
theorem dX6_batch_1 : decode cX6_batch 1 = .ok (.iload_n 1, 1) := by decide +kernel
theorem dX6_batch_2 : decode cX6_batch 2 = .ok (.invokevirtual 108, 3) := by decide +kernel
theorem dX6_batch_5 : decode cX6_batch 5 = .ok (.ifnonnull 5, 3) := by decide +kernel
theorem dX6_batch_8 : decode cX6_batch 8 = .ok (.iconst (-1), 1) := by decide +kernel
theorem dX6_batch_9 : decode cX6_batch 9 = .ok (.ireturn, 1) := by decide +kernel
theorem dX6_batch_10 : decode cX6_batch 10 = .ok (.iconst 0, 1) := by decide +kernel
theorem dX6_batch_11 : decode cX6_batch 11 = .ok (.istore_n 2, 1) := by decide +kernel
theorem dX6_batch_12 : decode cX6_batch 12 = .ok (.aload_n 0, 1) := by decide +kernel
theorem dX6_batch_13 : decode cX6_batch 13 = .ok (.getfield 41, 3) := by decide +kernel
theorem dX6_batch_16 : decode cX6_batch 16 = .ok (.istore_n 3, 1) := by decide +kernel
theorem dX6_batch_17 : decode cX6_batch 17 = .ok (.iconst 0, 1) := by decide +kernel
theorem dX6_batch_18 : decode cX6_batch 18 = .ok (.istore 4, 2) := by decide +kernel
theorem dX6_batch_20 : decode cX6_batch 20 = .ok (.iload 4, 2) := by decide +kernel
theorem dX6_batch_22 : decode cX6_batch 22 = .ok (.iload_n 3, 1) := by decide +kernel
theorem dX6_batch_23 : decode cX6_batch 23 = .ok (.if_icmp .ge 35, 3) := by decide +kernel
theorem dX6_batch_26 : decode cX6_batch 26 = .ok (.aload_n 0, 1) := by decide +kernel
theorem dX6_batch_27 : decode cX6_batch 27 = .ok (.iload 4, 2) := by decide +kernel
theorem dX6_batch_29 : decode cX6_batch 29 = .ok (.invokevirtual 151, 3) := by decide +kernel
theorem dX6_batch_32 : decode cX6_batch 32 = .ok (.ifCond .eq 20, 3) := by decide +kernel
theorem dX6_batch_35 : decode cX6_batch 35 = .ok (.aload_n 0, 1) := by decide +kernel
theorem dX6_batch_36 : decode cX6_batch 36 = .ok (.aload_n 0, 1) := by decide +kernel
theorem dX6_batch_37 : decode cX6_batch 37 = .ok (.iload 4, 2) := by decide +kernel
theorem dX6_batch_39 : decode cX6_batch 39 = .ok (.iload_n 1, 1) := by decide +kernel
theorem dX6_batch_40 : decode cX6_batch 40 = .ok (.invokevirtual 127, 3) := by decide +kernel
theorem dX6_batch_43 : decode cX6_batch 43 = .ok (.invokevirtual 154, 3) := by decide +kernel
theorem dX6_batch_46 : decode cX6_batch 46 = .ok (.ifCond .eq 6, 3) := by decide +kernel
theorem dX6_batch_49 : decode cX6_batch 49 = .ok (.iinc 2 1, 3) := by decide +kernel
theorem dX6_batch_52 : decode cX6_batch 52 = .ok (.iinc 4 1, 3) := by decide +kernel
theorem dX6_batch_55 : decode cX6_batch 55 = .ok (.goto (-35), 3) := by decide +kernel
theorem dX6_batch_58 : decode cX6_batch 58 = .ok (.iload_n 2, 1) := by decide +kernel
theorem dX6_batch_59 : decode cX6_batch 59 = .ok (.ifCond .le 13, 3) := by decide +kernel
theorem dX6_batch_62 : decode cX6_batch 62 = .ok (.aload_n 0, 1) := by decide +kernel
theorem dX6_batch_63 : decode cX6_batch 63 = .ok (.dup, 1) := by decide +kernel
theorem dX6_batch_64 : decode cX6_batch 64 = .ok (.getfield 44, 3) := by decide +kernel
theorem dX6_batch_67 : decode cX6_batch 67 = .ok (.iconst 1, 1) := by decide +kernel
theorem dX6_batch_68 : decode cX6_batch 68 = .ok (.iadd, 1) := by decide +kernel
theorem dX6_batch_69 : decode cX6_batch 69 = .ok (.putfield 44, 3) := by decide +kernel
theorem dX6_batch_72 : decode cX6_batch 72 = .ok (.iload_n 2, 1) := by decide +kernel
theorem dX6_batch_73 : decode cX6_batch 73 = .ok (.ireturn, 1) := by decide +kernel
theorem dX6_undo_0 : decode cX6_undo 0 = .ok (.aload_n 0, 1) := by decide +kernel
theorem dX6_undo_1 : decode cX6_undo 1 = .ok (.getfield 44, 3) := by decide +kernel
theorem dX6_undo_4 : decode cX6_undo 4 = .ok (.ifCond .ne 5, 3) := by decide +kernel
theorem dX6_undo_7 : decode cX6_undo 7 = .ok (.iconst (-1), 1) := by decide +kernel
theorem dX6_undo_8 : decode cX6_undo 8 = .ok (.ireturn, 1) := by decide +kernel
theorem dX6_undo_9 : decode cX6_undo 9 = .ok (.aload_n 0, 1) := by decide +kernel
theorem dX6_undo_10 : decode cX6_undo 10 = .ok (.dup, 1) := by decide +kernel
theorem dX6_undo_11 : decode cX6_undo 11 = .ok (.getfield 44, 3) := by decide +kernel
theorem dX6_undo_14 : decode cX6_undo 14 = .ok (.iconst 1, 1) := by decide +kernel
theorem dX6_undo_15 : decode cX6_undo 15 = .ok (.isub, 1) := by decide +kernel
theorem dX6_undo_16 : decode cX6_undo 16 = .ok (.putfield 44, 3) := by decide +kernel
theorem dX6_undo_19 : decode cX6_undo 19 = .ok (.iconst 0, 1) := by decide +kernel
theorem dX6_undo_20 : decode cX6_undo 20 = .ok (.istore_n 1, 1) := by decide +kernel
theorem dX6_undo_21 : decode cX6_undo 21 = .ok (.aload_n 0, 1) := by decide +kernel
theorem dX6_undo_22 : decode cX6_undo 22 = .ok (.getfield 41, 3) := by decide +kernel
theorem dX6_undo_25 : decode cX6_undo 25 = .ok (.iconst 1, 1) := by decide +kernel
theorem dX6_undo_26 : decode cX6_undo 26 = .ok (.isub, 1) := by decide +kernel
theorem dX6_undo_27 : decode cX6_undo 27 = .ok (.istore_n 2, 1) := by decide +kernel
theorem dX6_undo_28 : decode cX6_undo 28 = .ok (.iload_n 2, 1) := by decide +kernel
theorem dX6_undo_29 : decode cX6_undo 29 = .ok (.ifCond .lt 33, 3) := by decide +kernel
theorem dX6_undo_32 : decode cX6_undo 32 = .ok (.aload_n 0, 1) := by decide +kernel
theorem dX6_undo_33 : decode cX6_undo 33 = .ok (.iload_n 2, 1) := by decide +kernel
theorem dX6_undo_34 : decode cX6_undo 34 = .ok (.invokevirtual 157, 3) := by decide +kernel
theorem dX6_undo_37 : decode cX6_undo 37 = .ok (.ifCond .eq 19, 3) := by decide +kernel
theorem dX6_undo_40 : decode cX6_undo 40 = .ok (.aload_n 0, 1) := by decide +kernel
theorem dX6_undo_41 : decode cX6_undo 41 = .ok (.iload_n 2, 1) := by decide +kernel
theorem dX6_undo_42 : decode cX6_undo 42 = .ok (.invokevirtual 160, 3) := by decide +kernel
theorem dX6_undo_45 : decode cX6_undo 45 = .ok (.ifCond .ne 11, 3) := by decide +kernel
theorem dX6_undo_48 : decode cX6_undo 48 = .ok (.iload_n 1, 1) := by decide +kernel
theorem dX6_undo_49 : decode cX6_undo 49 = .ok (.aload_n 0, 1) := by decide +kernel
theorem dX6_undo_50 : decode cX6_undo 50 = .ok (.iload_n 2, 1) := by decide +kernel
theorem dX6_undo_51 : decode cX6_undo 51 = .ok (.invokevirtual 163, 3) := by decide +kernel
theorem dX6_undo_54 : decode cX6_undo 54 = .ok (.iadd, 1) := by decide +kernel
theorem dX6_undo_55 : decode cX6_undo 55 = .ok (.istore_n 1, 1) := by decide +kernel
theorem dX6_undo_56 : decode cX6_undo 56 = .ok (.iinc 2 (-1), 3) := by decide +kernel
theorem dX6_undo_59 : decode cX6_undo 59 = .ok (.goto (-31), 3) := by decide +kernel
theorem dX6_undo_62 : decode cX6_undo 62 = .ok (.iload_n 1, 1) := by decide +kernel
theorem dX6_undo_63 : decode cX6_undo 63 = .ok (.ireturn, 1) := by decide +kernel
theorem dX6_drop_0 : decode cX6_drop 0 = .ok (.aload_n 0, 1) := by decide +kernel
theorem dX6_drop_1 : decode cX6_drop 1 = .ok (.iload_n 1, 1) := by decide +kernel
theorem dX6_drop_2 : decode cX6_drop 2 = .ok (.invokevirtual 123, 3) := by decide +kernel
theorem dX6_drop_5 : decode cX6_drop 5 = .ok (.ifnonnull 5, 3) := by decide +kernel
theorem dX6_drop_8 : decode cX6_drop 8 = .ok (.iconst (-1), 1) := by decide +kernel
theorem dX6_drop_9 : decode cX6_drop 9 = .ok (.ireturn, 1) := by decide +kernel
theorem dX6_drop_10 : decode cX6_drop 10 = .ok (.aload_n 0, 1) := by decide +kernel
theorem dX6_drop_11 : decode cX6_drop 11 = .ok (.iload_n 1, 1) := by decide +kernel
theorem dX6_drop_12 : decode cX6_drop 12 = .ok (.invokevirtual 151, 3) := by decide +kernel
theorem dX6_drop_15 : decode cX6_drop 15 = .ok (.ifCond .ne 11, 3) := by decide +kernel
theorem dX6_drop_18 : decode cX6_drop 18 = .ok (.aload_n 0, 1) := by decide +kernel
theorem dX6_drop_19 : decode cX6_drop 19 = .ok (.iload_n 1, 1) := by decide +kernel
theorem dX6_drop_20 : decode cX6_drop 20 = .ok (.invokevirtual 160, 3) := by decide +kernel
theorem dX6_drop_23 : decode cX6_drop 23 = .ok (.ifCond .eq 6, 3) := by decide +kernel
theorem dX6_drop_26 : decode cX6_drop 26 = .ok (.bipush (-3), 2) := by decide +kernel
theorem dX6_drop_28 : decode cX6_drop 28 = .ok (.ireturn, 1) := by decide +kernel
theorem dX6_drop_29 : decode cX6_drop 29 = .ok (.aload_n 0, 1) := by decide +kernel
theorem dX6_drop_30 : decode cX6_drop 30 = .ok (.iload_n 1, 1) := by decide +kernel
theorem dX6_drop_31 : decode cX6_drop 31 = .ok (.invokevirtual 163, 3) := by decide +kernel
theorem dX6_drop_34 : decode cX6_drop 34 = .ok (.ireturn, 1) := by decide +kernel
theorem dX6_about_0 : decode cX6_about 0 = .ok (.aload_n 0, 1) := by decide +kernel
theorem dX6_about_1 : decode cX6_about 1 = .ok (.iload_n 1, 1) := by decide +kernel
theorem dX6_about_2 : decode cX6_about 2 = .ok (.invokevirtual 166, 3) := by decide +kernel
theorem dX6_about_5 : decode cX6_about 5 = .ok (.astore_n 3, 1) := by decide +kernel
theorem dX6_about_6 : decode cX6_about 6 = .ok (.aload_n 3, 1) := by decide +kernel
theorem dX6_about_7 : decode cX6_about 7 = .ok (.ifnonnull 5, 3) := by decide +kernel
theorem dX6_about_10 : decode cX6_about 10 = .ok (.iconst (-1), 1) := by decide +kernel
theorem dX6_about_11 : decode cX6_about 11 = .ok (.ireturn, 1) := by decide +kernel
theorem dX6_about_12 : decode cX6_about 12 = .ok (.iload_n 2, 1) := by decide +kernel
theorem dX6_about_13 : decode cX6_about 13 = .ok (.tableswitch 71 0 4 #[35, 43, 48, 53, 66], 35) := by decide +kernel
theorem dX6_about_48 : decode cX6_about 48 = .ok (.aload_n 3, 1) := by decide +kernel
theorem dX6_about_49 : decode cX6_about 49 = .ok (.getfield 169, 3) := by decide +kernel
theorem dX6_about_52 : decode cX6_about 52 = .ok (.getfield 172, 3) := by decide +kernel
theorem dX6_about_55 : decode cX6_about 55 = .ok (.ireturn, 1) := by decide +kernel
theorem dX6_about_56 : decode cX6_about 56 = .ok (.aload_n 3, 1) := by decide +kernel
theorem dX6_about_57 : decode cX6_about 57 = .ok (.getfield 175, 3) := by decide +kernel
theorem dX6_about_60 : decode cX6_about 60 = .ok (.ireturn, 1) := by decide +kernel
theorem dX6_about_61 : decode cX6_about 61 = .ok (.aload_n 3, 1) := by decide +kernel
theorem dX6_about_62 : decode cX6_about 62 = .ok (.getfield 178, 3) := by decide +kernel
theorem dX6_about_65 : decode cX6_about 65 = .ok (.ireturn, 1) := by decide +kernel
theorem dX6_about_66 : decode cX6_about 66 = .ok (.aload_n 3, 1) := by decide +kernel
theorem dX6_about_67 : decode cX6_about 67 = .ok (.getfield 181, 3) := by decide +kernel
theorem dX6_about_70 : decode cX6_about 70 = .ok (.ifCond .eq 7, 3) := by decide +kernel
theorem dX6_about_73 : decode cX6_about 73 = .ok (.iconst 1, 1) := by decide +kernel
theorem dX6_about_74 : decode cX6_about 74 = .ok (.goto 4, 3) := by decide +kernel
theorem dX6_about_77 : decode cX6_about 77 = .ok (.iconst 0, 1) := by decide +kernel
theorem dX6_about_78 : decode cX6_about 78 = .ok (.ireturn, 1) := by decide +kernel
theorem dX6_about_79 : decode cX6_about 79 = .ok (.aload_n 3, 1) := by decide +kernel
theorem dX6_about_80 : decode cX6_about 80 = .ok (.getfield 185, 3) := by decide +kernel
theorem dX6_about_83 : decode cX6_about 83 = .ok (.ireturn, 1) := by decide +kernel
theorem dX6_about_84 : decode cX6_about 84 = .ok (.iconst (-1), 1) := by decide +kernel
theorem dX6_about_85 : decode cX6_about 85 = .ok (.ireturn, 1) := by decide +kernel
theorem dX6_at_0 : decode cX6_at 0 = .ok (.aload_n 0, 1) := by decide +kernel
theorem dX6_at_1 : decode cX6_at 1 = .ok (.iload_n 1, 1) := by decide +kernel
theorem dX6_at_2 : decode cX6_at 2 = .ok (.invokevirtual 166, 3) := by decide +kernel
theorem dX6_at_5 : decode cX6_at 5 = .ok (.astore_n 3, 1) := by decide +kernel
theorem dX6_at_6 : decode cX6_at 6 = .ok (.aload_n 3, 1) := by decide +kernel
theorem dX6_at_7 : decode cX6_at 7 = .ok (.ifnonnull 5, 3) := by decide +kernel
theorem dX6_at_10 : decode cX6_at 10 = .ok (.iconst (-1), 1) := by decide +kernel
theorem dX6_at_11 : decode cX6_at 11 = .ok (.ireturn, 1) := by decide +kernel
theorem dX6_at_12 : decode cX6_at 12 = .ok (.aload_n 3, 1) := by decide +kernel
theorem dX6_at_13 : decode cX6_at 13 = .ok (.getfield 169, 3) := by decide +kernel
theorem dX6_at_16 : decode cX6_at 16 = .ok (.iload_n 2, 1) := by decide +kernel
theorem dX6_at_17 : decode cX6_at 17 = .ok (.invokevirtual 188, 3) := by decide +kernel
theorem dX6_at_20 : decode cX6_at 20 = .ok (.istore 4, 2) := by decide +kernel
theorem dX6_at_22 : decode cX6_at 22 = .ok (.iload 4, 2) := by decide +kernel
theorem dX6_at_24 : decode cX6_at 24 = .ok (.iconst (-1), 1) := by decide +kernel
theorem dX6_at_25 : decode cX6_at 25 = .ok (.if_icmp .ne 13, 3) := by decide +kernel
theorem dX6_at_28 : decode cX6_at 28 = .ok (.new 191, 3) := by decide +kernel
theorem dX6_at_31 : decode cX6_at 31 = .ok (.dup, 1) := by decide +kernel
theorem dX6_at_32 : decode cX6_at 32 = .ok (.ldc 193, 2) := by decide +kernel
theorem dX6_at_34 : decode cX6_at 34 = .ok (.invokespecial 195, 3) := by decide +kernel
theorem dX6_at_37 : decode cX6_at 37 = .ok (.athrow, 1) := by decide +kernel
theorem dX6_at_38 : decode cX6_at 38 = .ok (.iload 4, 2) := by decide +kernel
theorem dX6_at_40 : decode cX6_at 40 = .ok (.ireturn, 1) := by decide +kernel
theorem dX6_tried_0 : decode cX6_tried 0 = .ok (.aload_n 0, 1) := by decide +kernel
theorem dX6_tried_1 : decode cX6_tried 1 = .ok (.getfield 67, 3) := by decide +kernel
theorem dX6_tried_4 : decode cX6_tried 4 = .ok (.getfield 196, 3) := by decide +kernel
theorem dX6_tried_7 : decode cX6_tried 7 = .ok (.iload_n 1, 1) := by decide +kernel
theorem dX6_tried_8 : decode cX6_tried 8 = .ok (.invokevirtual 188, 3) := by decide +kernel
theorem dX6_tried_11 : decode cX6_tried 11 = .ok (.ireturn, 1) := by decide +kernel
theorem dX6_scriptOf_0 : decode cX6_scriptOf 0 = .ok (.iload_n 1, 1) := by decide +kernel
theorem dX6_scriptOf_1 : decode cX6_scriptOf 1 = .ok (.ifCond .lt 20, 3) := by decide +kernel
theorem dX6_scriptOf_4 : decode cX6_scriptOf 4 = .ok (.iload_n 1, 1) := by decide +kernel
theorem dX6_scriptOf_5 : decode cX6_scriptOf 5 = .ok (.aload_n 0, 1) := by decide +kernel
theorem dX6_scriptOf_6 : decode cX6_scriptOf 6 = .ok (.getfield 37, 3) := by decide +kernel
theorem dX6_scriptOf_9 : decode cX6_scriptOf 9 = .ok (.if_icmp .ge 12, 3) := by decide +kernel
theorem dX6_scriptOf_12 : decode cX6_scriptOf 12 = .ok (.aload_n 0, 1) := by decide +kernel
theorem dX6_scriptOf_13 : decode cX6_scriptOf 13 = .ok (.getfield 27, 3) := by decide +kernel
theorem dX6_scriptOf_16 : decode cX6_scriptOf 16 = .ok (.iload_n 1, 1) := by decide +kernel
theorem dX6_scriptOf_17 : decode cX6_scriptOf 17 = .ok (.aaload, 1) := by decide +kernel
theorem dX6_scriptOf_18 : decode cX6_scriptOf 18 = .ok (.goto 4, 3) := by decide +kernel
theorem dX6_scriptOf_21 : decode cX6_scriptOf 21 = .ok (.aconst_null, 1) := by decide +kernel
theorem dX6_scriptOf_22 : decode cX6_scriptOf 22 = .ok (.areturn, 1) := by decide +kernel
theorem dX6_itemOf_0 : decode cX6_itemOf 0 = .ok (.iload_n 1, 1) := by decide +kernel
theorem dX6_itemOf_1 : decode cX6_itemOf 1 = .ok (.ifCond .lt 20, 3) := by decide +kernel
theorem dX6_itemOf_4 : decode cX6_itemOf 4 = .ok (.iload_n 1, 1) := by decide +kernel
theorem dX6_itemOf_5 : decode cX6_itemOf 5 = .ok (.aload_n 0, 1) := by decide +kernel
theorem dX6_itemOf_6 : decode cX6_itemOf 6 = .ok (.getfield 41, 3) := by decide +kernel
theorem dX6_itemOf_9 : decode cX6_itemOf 9 = .ok (.if_icmp .ge 12, 3) := by decide +kernel
theorem dX6_itemOf_12 : decode cX6_itemOf 12 = .ok (.aload_n 0, 1) := by decide +kernel
theorem dX6_itemOf_13 : decode cX6_itemOf 13 = .ok (.getfield 33, 3) := by decide +kernel
theorem dX6_itemOf_16 : decode cX6_itemOf 16 = .ok (.iload_n 1, 1) := by decide +kernel
theorem dX6_itemOf_17 : decode cX6_itemOf 17 = .ok (.aaload, 1) := by decide +kernel
theorem dX6_itemOf_18 : decode cX6_itemOf 18 = .ok (.goto 4, 3) := by decide +kernel
theorem dX6_itemOf_21 : decode cX6_itemOf 21 = .ok (.aconst_null, 1) := by decide +kernel
theorem dX6_itemOf_22 : decode cX6_itemOf 22 = .ok (.areturn, 1) := by decide +kernel
theorem dX6_liveItem_0 : decode cX6_liveItem 0 = .ok (.aload_n 0, 1) := by decide +kernel
theorem dX6_liveItem_1 : decode cX6_liveItem 1 = .ok (.iload_n 1, 1) := by decide +kernel
theorem dX6_liveItem_2 : decode cX6_liveItem 2 = .ok (.invokevirtual 166, 3) := by decide +kernel
theorem dX6_liveItem_5 : decode cX6_liveItem 5 = .ok (.astore_n 2, 1) := by decide +kernel
theorem dX6_liveItem_6 : decode cX6_liveItem 6 = .ok (.aload_n 2, 1) := by decide +kernel
theorem dX6_liveItem_7 : decode cX6_liveItem 7 = .ok (.ifnull 14, 3) := by decide +kernel
theorem dX6_liveItem_10 : decode cX6_liveItem 10 = .ok (.aload_n 2, 1) := by decide +kernel
theorem dX6_liveItem_11 : decode cX6_liveItem 11 = .ok (.getfield 181, 3) := by decide +kernel
theorem dX6_liveItem_14 : decode cX6_liveItem 14 = .ok (.ifCond .ne 7, 3) := by decide +kernel
theorem dX6_liveItem_17 : decode cX6_liveItem 17 = .ok (.aload_n 2, 1) := by decide +kernel
theorem dX6_liveItem_18 : decode cX6_liveItem 18 = .ok (.goto 4, 3) := by decide +kernel
theorem dX6_liveItem_21 : decode cX6_liveItem 21 = .ok (.aconst_null, 1) := by decide +kernel
theorem dX6_liveItem_22 : decode cX6_liveItem 22 = .ok (.areturn, 1) := by decide +kernel
theorem dX6_isOriginal_0 : decode cX6_isOriginal 0 = .ok (.aload_n 0, 1) := by decide +kernel
theorem dX6_isOriginal_1 : decode cX6_isOriginal 1 = .ok (.iload_n 1, 1) := by decide +kernel
theorem dX6_isOriginal_2 : decode cX6_isOriginal 2 = .ok (.invokevirtual 166, 3) := by decide +kernel
theorem dX6_isOriginal_5 : decode cX6_isOriginal 5 = .ok (.astore_n 2, 1) := by decide +kernel
theorem dX6_isOriginal_6 : decode cX6_isOriginal 6 = .ok (.aload_n 2, 1) := by decide +kernel
theorem dX6_isOriginal_7 : decode cX6_isOriginal 7 = .ok (.ifnull 15, 3) := by decide +kernel
theorem dX6_isOriginal_10 : decode cX6_isOriginal 10 = .ok (.aload_n 2, 1) := by decide +kernel
theorem dX6_isOriginal_11 : decode cX6_isOriginal 11 = .ok (.getfield 175, 3) := by decide +kernel
theorem dX6_isOriginal_14 : decode cX6_isOriginal 14 = .ok (.iconst (-1), 1) := by decide +kernel
theorem dX6_isOriginal_15 : decode cX6_isOriginal 15 = .ok (.if_icmp .ne 7, 3) := by decide +kernel
theorem dX6_isOriginal_18 : decode cX6_isOriginal 18 = .ok (.iconst 1, 1) := by decide +kernel
theorem dX6_isOriginal_19 : decode cX6_isOriginal 19 = .ok (.goto 4, 3) := by decide +kernel
theorem dX6_isOriginal_22 : decode cX6_isOriginal 22 = .ok (.iconst 0, 1) := by decide +kernel
theorem dX6_isOriginal_23 : decode cX6_isOriginal 23 = .ok (.ireturn, 1) := by decide +kernel
theorem dX6_hasDerived_0 : decode cX6_hasDerived 0 = .ok (.iconst 0, 1) := by decide +kernel
theorem dX6_hasDerived_1 : decode cX6_hasDerived 1 = .ok (.istore_n 2, 1) := by decide +kernel
theorem dX6_hasDerived_2 : decode cX6_hasDerived 2 = .ok (.iload_n 2, 1) := by decide +kernel
theorem dX6_hasDerived_3 : decode cX6_hasDerived 3 = .ok (.aload_n 0, 1) := by decide +kernel
theorem dX6_hasDerived_4 : decode cX6_hasDerived 4 = .ok (.getfield 41, 3) := by decide +kernel
theorem dX6_hasDerived_7 : decode cX6_hasDerived 7 = .ok (.if_icmp .ge 29, 3) := by decide +kernel
theorem dX6_hasDerived_10 : decode cX6_hasDerived 10 = .ok (.aload_n 0, 1) := by decide +kernel
theorem dX6_hasDerived_11 : decode cX6_hasDerived 11 = .ok (.iload_n 2, 1) := by decide +kernel
theorem dX6_hasDerived_12 : decode cX6_hasDerived 12 = .ok (.invokevirtual 123, 3) := by decide +kernel
theorem dX6_hasDerived_15 : decode cX6_hasDerived 15 = .ok (.astore_n 3, 1) := by decide +kernel
theorem dX6_hasDerived_16 : decode cX6_hasDerived 16 = .ok (.aload_n 3, 1) := by decide +kernel
theorem dX6_hasDerived_17 : decode cX6_hasDerived 17 = .ok (.ifnull 13, 3) := by decide +kernel
theorem dX6_hasDerived_20 : decode cX6_hasDerived 20 = .ok (.aload_n 3, 1) := by decide +kernel
theorem dX6_hasDerived_21 : decode cX6_hasDerived 21 = .ok (.getfield 175, 3) := by decide +kernel
theorem dX6_hasDerived_24 : decode cX6_hasDerived 24 = .ok (.iload_n 1, 1) := by decide +kernel
theorem dX6_hasDerived_25 : decode cX6_hasDerived 25 = .ok (.if_icmp .ne 5, 3) := by decide +kernel
theorem dX6_hasDerived_28 : decode cX6_hasDerived 28 = .ok (.iconst 1, 1) := by decide +kernel
theorem dX6_hasDerived_29 : decode cX6_hasDerived 29 = .ok (.ireturn, 1) := by decide +kernel
theorem dX6_hasDerived_30 : decode cX6_hasDerived 30 = .ok (.iinc 2 1, 3) := by decide +kernel
theorem dX6_hasDerived_33 : decode cX6_hasDerived 33 = .ok (.goto (-31), 3) := by decide +kernel
theorem dX6_hasDerived_36 : decode cX6_hasDerived 36 = .ok (.iconst 0, 1) := by decide +kernel
theorem dX6_hasDerived_37 : decode cX6_hasDerived 37 = .ok (.ireturn, 1) := by decide +kernel
theorem dX6_hasDerivedBy_0 : decode cX6_hasDerivedBy 0 = .ok (.iconst 0, 1) := by decide +kernel
theorem dX6_hasDerivedBy_1 : decode cX6_hasDerivedBy 1 = .ok (.istore_n 3, 1) := by decide +kernel
theorem dX6_hasDerivedBy_2 : decode cX6_hasDerivedBy 2 = .ok (.iload_n 3, 1) := by decide +kernel
theorem dX6_hasDerivedBy_3 : decode cX6_hasDerivedBy 3 = .ok (.aload_n 0, 1) := by decide +kernel
theorem dX6_hasDerivedBy_4 : decode cX6_hasDerivedBy 4 = .ok (.getfield 41, 3) := by decide +kernel
theorem dX6_hasDerivedBy_7 : decode cX6_hasDerivedBy 7 = .ok (.if_icmp .ge 41, 3) := by decide +kernel
theorem dX6_hasDerivedBy_10 : decode cX6_hasDerivedBy 10 = .ok (.aload_n 0, 1) := by decide +kernel
theorem dX6_hasDerivedBy_11 : decode cX6_hasDerivedBy 11 = .ok (.iload_n 3, 1) := by decide +kernel
end
section
theorem dX6_hasDerivedBy_12 : decode cX6_hasDerivedBy 12 = .ok (.invokevirtual 123, 3) := by decide +kernel
theorem dX6_hasDerivedBy_15 : decode cX6_hasDerivedBy 15 = .ok (.astore 4, 2) := by decide +kernel
theorem dX6_hasDerivedBy_17 : decode cX6_hasDerivedBy 17 = .ok (.aload 4, 2) := by decide +kernel
theorem dX6_hasDerivedBy_19 : decode cX6_hasDerivedBy 19 = .ok (.ifnull 23, 3) := by decide +kernel
theorem dX6_hasDerivedBy_22 : decode cX6_hasDerivedBy 22 = .ok (.aload 4, 2) := by decide +kernel
theorem dX6_hasDerivedBy_24 : decode cX6_hasDerivedBy 24 = .ok (.getfield 175, 3) := by decide +kernel
theorem dX6_hasDerivedBy_27 : decode cX6_hasDerivedBy 27 = .ok (.iload_n 1, 1) := by decide +kernel
theorem dX6_hasDerivedBy_28 : decode cX6_hasDerivedBy 28 = .ok (.if_icmp .ne 14, 3) := by decide +kernel
theorem dX6_hasDerivedBy_31 : decode cX6_hasDerivedBy 31 = .ok (.aload 4, 2) := by decide +kernel
theorem dX6_hasDerivedBy_33 : decode cX6_hasDerivedBy 33 = .ok (.getfield 178, 3) := by decide +kernel
theorem dX6_hasDerivedBy_36 : decode cX6_hasDerivedBy 36 = .ok (.iload_n 2, 1) := by decide +kernel
theorem dX6_hasDerivedBy_37 : decode cX6_hasDerivedBy 37 = .ok (.if_icmp .ne 5, 3) := by decide +kernel
theorem dX6_hasDerivedBy_40 : decode cX6_hasDerivedBy 40 = .ok (.iconst 1, 1) := by decide +kernel
theorem dX6_hasDerivedBy_41 : decode cX6_hasDerivedBy 41 = .ok (.ireturn, 1) := by decide +kernel
theorem dX6_hasDerivedBy_42 : decode cX6_hasDerivedBy 42 = .ok (.iinc 3 1, 3) := by decide +kernel
theorem dX6_hasDerivedBy_45 : decode cX6_hasDerivedBy 45 = .ok (.goto (-43), 3) := by decide +kernel
theorem dX6_hasDerivedBy_48 : decode cX6_hasDerivedBy 48 = .ok (.iconst 0, 1) := by decide +kernel
theorem dX6_hasDerivedBy_49 : decode cX6_hasDerivedBy 49 = .ok (.ireturn, 1) := by decide +kernel
theorem dX6_derive_0 : decode cX6_derive 0 = .ok (.aload_n 0, 1) := by decide +kernel
theorem dX6_derive_1 : decode cX6_derive 1 = .ok (.iload_n 1, 1) := by decide +kernel
theorem dX6_derive_2 : decode cX6_derive 2 = .ok (.invokevirtual 123, 3) := by decide +kernel
theorem dX6_derive_5 : decode cX6_derive 5 = .ok (.astore_n 3, 1) := by decide +kernel
theorem dX6_derive_6 : decode cX6_derive 6 = .ok (.aload_n 0, 1) := by decide +kernel
theorem dX6_derive_7 : decode cX6_derive 7 = .ok (.iload_n 2, 1) := by decide +kernel
theorem dX6_derive_8 : decode cX6_derive 8 = .ok (.invokevirtual 108, 3) := by decide +kernel
theorem dX6_derive_11 : decode cX6_derive 11 = .ok (.astore 4, 2) := by decide +kernel
theorem dX6_derive_13 : decode cX6_derive 13 = .ok (.aload_n 3, 1) := by decide +kernel
theorem dX6_derive_14 : decode cX6_derive 14 = .ok (.ifnull 8, 3) := by decide +kernel
theorem dX6_derive_17 : decode cX6_derive 17 = .ok (.aload 4, 2) := by decide +kernel
theorem dX6_derive_19 : decode cX6_derive 19 = .ok (.ifnonnull 5, 3) := by decide +kernel
theorem dX6_derive_22 : decode cX6_derive 22 = .ok (.iconst (-1), 1) := by decide +kernel
theorem dX6_derive_23 : decode cX6_derive 23 = .ok (.ireturn, 1) := by decide +kernel
theorem dX6_derive_24 : decode cX6_derive 24 = .ok (.aload_n 0, 1) := by decide +kernel
theorem dX6_derive_25 : decode cX6_derive 25 = .ok (.iload_n 1, 1) := by decide +kernel
theorem dX6_derive_26 : decode cX6_derive 26 = .ok (.iload_n 2, 1) := by decide +kernel
theorem dX6_derive_27 : decode cX6_derive 27 = .ok (.invokevirtual 199, 3) := by decide +kernel
theorem dX6_derive_30 : decode cX6_derive 30 = .ok (.ifCond .eq 6, 3) := by decide +kernel
theorem dX6_derive_33 : decode cX6_derive 33 = .ok (.bipush (-11), 2) := by decide +kernel
theorem dX6_derive_35 : decode cX6_derive 35 = .ok (.ireturn, 1) := by decide +kernel
theorem dX6_derive_36 : decode cX6_derive 36 = .ok (.aload 4, 2) := by decide +kernel
theorem dX6_derive_38 : decode cX6_derive 38 = .ok (.getfield 120, 3) := by decide +kernel
theorem dX6_derive_41 : decode cX6_derive 41 = .ok (.aload_n 3, 1) := by decide +kernel
theorem dX6_derive_42 : decode cX6_derive 42 = .ok (.getfield 169, 3) := by decide +kernel
theorem dX6_derive_45 : decode cX6_derive 45 = .ok (.invokevirtual 202, 3) := by decide +kernel
theorem dX6_derive_48 : decode cX6_derive 48 = .ok (.ifCond .ne 6, 3) := by decide +kernel
theorem dX6_derive_51 : decode cX6_derive 51 = .ok (.bipush (-12), 2) := by decide +kernel
theorem dX6_derive_53 : decode cX6_derive 53 = .ok (.ireturn, 1) := by decide +kernel
theorem dX6_derive_54 : decode cX6_derive 54 = .ok (.aload_n 0, 1) := by decide +kernel
theorem dX6_derive_55 : decode cX6_derive 55 = .ok (.getfield 67, 3) := by decide +kernel
theorem dX6_derive_58 : decode cX6_derive 58 = .ok (.aload 4, 2) := by decide +kernel
theorem dX6_derive_60 : decode cX6_derive 60 = .ok (.aload_n 3, 1) := by decide +kernel
theorem dX6_derive_61 : decode cX6_derive 61 = .ok (.getfield 169, 3) := by decide +kernel
theorem dX6_derive_64 : decode cX6_derive 64 = .ok (.invokevirtual 206, 3) := by decide +kernel
theorem dX6_derive_67 : decode cX6_derive 67 = .ok (.istore 5, 2) := by decide +kernel
theorem dX6_derive_69 : decode cX6_derive 69 = .ok (.iload 5, 2) := by decide +kernel
theorem dX6_derive_71 : decode cX6_derive 71 = .ok (.ifCond .eq 9, 3) := by decide +kernel
theorem dX6_derive_74 : decode cX6_derive 74 = .ok (.bipush (-12), 2) := by decide +kernel
theorem dX6_derive_76 : decode cX6_derive 76 = .ok (.iload 5, 2) := by decide +kernel
theorem dX6_derive_78 : decode cX6_derive 78 = .ok (.isub, 1) := by decide +kernel
theorem dX6_derive_79 : decode cX6_derive 79 = .ok (.ireturn, 1) := by decide +kernel
theorem dX6_derive_80 : decode cX6_derive 80 = .ok (.aload 4, 2) := by decide +kernel
theorem dX6_derive_82 : decode cX6_derive 82 = .ok (.getfield 112, 3) := by decide +kernel
theorem dX6_derive_85 : decode cX6_derive 85 = .ok (.aload_n 0, 1) := by decide +kernel
theorem dX6_derive_86 : decode cX6_derive 86 = .ok (.getfield 67, 3) := by decide +kernel
theorem dX6_derive_89 : decode cX6_derive 89 = .ok (.getfield 196, 3) := by decide +kernel
theorem dX6_derive_92 : decode cX6_derive 92 = .ok (.invokevirtual 202, 3) := by decide +kernel
theorem dX6_derive_95 : decode cX6_derive 95 = .ok (.ifCond .ne 6, 3) := by decide +kernel
theorem dX6_derive_98 : decode cX6_derive 98 = .ok (.bipush (-17), 2) := by decide +kernel
theorem dX6_derive_100 : decode cX6_derive 100 = .ok (.ireturn, 1) := by decide +kernel
theorem dX6_derive_101 : decode cX6_derive 101 = .ok (.aload_n 0, 1) := by decide +kernel
theorem dX6_derive_102 : decode cX6_derive 102 = .ok (.getfield 41, 3) := by decide +kernel
theorem dX6_derive_105 : decode cX6_derive 105 = .ok (.bipush 60, 2) := by decide +kernel
theorem dX6_derive_107 : decode cX6_derive 107 = .ok (.if_icmp .lt 6, 3) := by decide +kernel
theorem dX6_derive_110 : decode cX6_derive 110 = .ok (.bipush (-4), 2) := by decide +kernel
theorem dX6_derive_112 : decode cX6_derive 112 = .ok (.ireturn, 1) := by decide +kernel
theorem dX6_derive_113 : decode cX6_derive 113 = .ok (.aload_n 0, 1) := by decide +kernel
theorem dX6_derive_114 : decode cX6_derive 114 = .ok (.new 31, 3) := by decide +kernel
theorem dX6_derive_117 : decode cX6_derive 117 = .ok (.dup, 1) := by decide +kernel
theorem dX6_derive_118 : decode cX6_derive 118 = .ok (.aload_n 0, 1) := by decide +kernel
theorem dX6_derive_119 : decode cX6_derive 119 = .ok (.getfield 67, 3) := by decide +kernel
theorem dX6_derive_122 : decode cX6_derive 122 = .ok (.getfield 196, 3) := by decide +kernel
theorem dX6_derive_125 : decode cX6_derive 125 = .ok (.invokevirtual 96, 3) := by decide +kernel
theorem dX6_derive_128 : decode cX6_derive 128 = .ok (.iload_n 1, 1) := by decide +kernel
theorem dX6_derive_129 : decode cX6_derive 129 = .ok (.iload_n 2, 1) := by decide +kernel
theorem dX6_derive_130 : decode cX6_derive 130 = .ok (.aload_n 3, 1) := by decide +kernel
theorem dX6_derive_131 : decode cX6_derive 131 = .ok (.getfield 185, 3) := by decide +kernel
theorem dX6_derive_134 : decode cX6_derive 134 = .ok (.invokespecial 100, 3) := by decide +kernel
theorem dX6_derive_137 : decode cX6_derive 137 = .ok (.invokevirtual 103, 3) := by decide +kernel
theorem dX6_derive_140 : decode cX6_derive 140 = .ok (.ireturn, 1) := by decide +kernel
theorem dX6_against_0 : decode cX6_against 0 = .ok (.iload_n 0, 1) := by decide +kernel
theorem dX6_against_1 : decode cX6_against 1 = .ok (.ifCond .lt 7, 3) := by decide +kernel
theorem dX6_against_4 : decode cX6_against 4 = .ok (.iconst 0, 1) := by decide +kernel
theorem dX6_against_5 : decode cX6_against 5 = .ok (.goto 4, 3) := by decide +kernel
theorem dX6_against_8 : decode cX6_against 8 = .ok (.iload_n 0, 1) := by decide +kernel
theorem dX6_against_9 : decode cX6_against 9 = .ok (.ireturn, 1) := by decide +kernel
theorem dX6_keep_0 : decode cX6_keep 0 = .ok (.aload_n 0, 1) := by decide +kernel
theorem dX6_keep_1 : decode cX6_keep 1 = .ok (.getfield 41, 3) := by decide +kernel
theorem dX6_keep_4 : decode cX6_keep 4 = .ok (.bipush 60, 2) := by decide +kernel
theorem dX6_keep_6 : decode cX6_keep 6 = .ok (.if_icmp .lt 6, 3) := by decide +kernel
theorem dX6_keep_9 : decode cX6_keep 9 = .ok (.bipush (-4), 2) := by decide +kernel
theorem dX6_keep_11 : decode cX6_keep 11 = .ok (.ireturn, 1) := by decide +kernel
theorem dX6_keep_12 : decode cX6_keep 12 = .ok (.aload_n 0, 1) := by decide +kernel
theorem dX6_keep_13 : decode cX6_keep 13 = .ok (.getfield 33, 3) := by decide +kernel
theorem dX6_keep_16 : decode cX6_keep 16 = .ok (.aload_n 0, 1) := by decide +kernel
theorem dX6_keep_17 : decode cX6_keep 17 = .ok (.getfield 41, 3) := by decide +kernel
theorem dX6_keep_20 : decode cX6_keep 20 = .ok (.aload_n 1, 1) := by decide +kernel
theorem dX6_keep_21 : decode cX6_keep 21 = .ok (.aastore, 1) := by decide +kernel
theorem dX6_keep_22 : decode cX6_keep 22 = .ok (.aload_n 0, 1) := by decide +kernel
theorem dX6_keep_23 : decode cX6_keep 23 = .ok (.dup, 1) := by decide +kernel
theorem dX6_keep_24 : decode cX6_keep 24 = .ok (.getfield 41, 3) := by decide +kernel
theorem dX6_keep_27 : decode cX6_keep 27 = .ok (.iconst 1, 1) := by decide +kernel
theorem dX6_keep_28 : decode cX6_keep 28 = .ok (.iadd, 1) := by decide +kernel
theorem dX6_keep_29 : decode cX6_keep 29 = .ok (.putfield 41, 3) := by decide +kernel
theorem dX6_keep_32 : decode cX6_keep 32 = .ok (.aload_n 0, 1) := by decide +kernel
theorem dX6_keep_33 : decode cX6_keep 33 = .ok (.getfield 41, 3) := by decide +kernel
theorem dX6_keep_36 : decode cX6_keep 36 = .ok (.iconst 1, 1) := by decide +kernel
theorem dX6_keep_37 : decode cX6_keep 37 = .ok (.isub, 1) := by decide +kernel
theorem dX6_keep_38 : decode cX6_keep 38 = .ok (.ireturn, 1) := by decide +kernel
theorem dX6_dismiss_0 : decode cX6_dismiss 0 = .ok (.aload_n 0, 1) := by decide +kernel
theorem dX6_dismiss_1 : decode cX6_dismiss 1 = .ok (.iload_n 1, 1) := by decide +kernel
theorem dX6_dismiss_2 : decode cX6_dismiss 2 = .ok (.invokevirtual 123, 3) := by decide +kernel
theorem dX6_dismiss_5 : decode cX6_dismiss 5 = .ok (.astore_n 2, 1) := by decide +kernel
theorem dX6_dismiss_6 : decode cX6_dismiss 6 = .ok (.aload_n 2, 1) := by decide +kernel
theorem dX6_dismiss_7 : decode cX6_dismiss 7 = .ok (.ifnonnull 5, 3) := by decide +kernel
theorem dX6_dismiss_10 : decode cX6_dismiss 10 = .ok (.iconst 0, 1) := by decide +kernel
theorem dX6_dismiss_11 : decode cX6_dismiss 11 = .ok (.ireturn, 1) := by decide +kernel
theorem dX6_dismiss_12 : decode cX6_dismiss 12 = .ok (.aload_n 2, 1) := by decide +kernel
theorem dX6_dismiss_13 : decode cX6_dismiss 13 = .ok (.iconst 1, 1) := by decide +kernel
theorem dX6_dismiss_14 : decode cX6_dismiss 14 = .ok (.putfield 181, 3) := by decide +kernel
theorem dX6_dismiss_17 : decode cX6_dismiss 17 = .ok (.iconst 1, 1) := by decide +kernel
theorem dX6_dismiss_18 : decode cX6_dismiss 18 = .ok (.ireturn, 1) := by decide +kernel
theorem dX6_nextOf_0 : decode cX6_nextOf 0 = .ok (.aload_n 0, 1) := by decide +kernel
theorem dX6_nextOf_1 : decode cX6_nextOf 1 = .ok (.iload_n 1, 1) := by decide +kernel
theorem dX6_nextOf_2 : decode cX6_nextOf 2 = .ok (.invokevirtual 108, 3) := by decide +kernel
theorem dX6_nextOf_5 : decode cX6_nextOf 5 = .ok (.astore_n 2, 1) := by decide +kernel
theorem dX6_nextOf_6 : decode cX6_nextOf 6 = .ok (.aload_n 2, 1) := by decide +kernel
theorem dX6_nextOf_7 : decode cX6_nextOf 7 = .ok (.ifnonnull 7, 3) := by decide +kernel
theorem dX6_nextOf_10 : decode cX6_nextOf 10 = .ok (.iconst (-1), 1) := by decide +kernel
theorem dX6_nextOf_11 : decode cX6_nextOf 11 = .ok (.goto 7, 3) := by decide +kernel
theorem dX6_nextOf_14 : decode cX6_nextOf 14 = .ok (.aload_n 2, 1) := by decide +kernel
theorem dX6_nextOf_15 : decode cX6_nextOf 15 = .ok (.getfield 138, 3) := by decide +kernel
theorem dX6_nextOf_18 : decode cX6_nextOf 18 = .ok (.ireturn, 1) := by decide +kernel
theorem dX6_comesTo_0 : decode cX6_comesTo 0 = .ok (.iload_n 1, 1) := by decide +kernel
theorem dX6_comesTo_1 : decode cX6_comesTo 1 = .ok (.istore_n 3, 1) := by decide +kernel
theorem dX6_comesTo_2 : decode cX6_comesTo 2 = .ok (.iconst 0, 1) := by decide +kernel
theorem dX6_comesTo_3 : decode cX6_comesTo 3 = .ok (.istore 4, 2) := by decide +kernel
theorem dX6_comesTo_5 : decode cX6_comesTo 5 = .ok (.iload 4, 2) := by decide +kernel
theorem dX6_comesTo_7 : decode cX6_comesTo 7 = .ok (.bipush 10, 2) := by decide +kernel
theorem dX6_comesTo_9 : decode cX6_comesTo 9 = .ok (.if_icmp .ge 27, 3) := by decide +kernel
theorem dX6_comesTo_12 : decode cX6_comesTo 12 = .ok (.iload_n 3, 1) := by decide +kernel
theorem dX6_comesTo_13 : decode cX6_comesTo 13 = .ok (.iconst (-1), 1) := by decide +kernel
theorem dX6_comesTo_14 : decode cX6_comesTo 14 = .ok (.if_icmp .eq 22, 3) := by decide +kernel
theorem dX6_comesTo_17 : decode cX6_comesTo 17 = .ok (.iload_n 3, 1) := by decide +kernel
theorem dX6_comesTo_18 : decode cX6_comesTo 18 = .ok (.iload_n 2, 1) := by decide +kernel
theorem dX6_comesTo_19 : decode cX6_comesTo 19 = .ok (.if_icmp .ne 5, 3) := by decide +kernel
theorem dX6_comesTo_22 : decode cX6_comesTo 22 = .ok (.iconst 1, 1) := by decide +kernel
theorem dX6_comesTo_23 : decode cX6_comesTo 23 = .ok (.ireturn, 1) := by decide +kernel
theorem dX6_comesTo_24 : decode cX6_comesTo 24 = .ok (.aload_n 0, 1) := by decide +kernel
theorem dX6_comesTo_25 : decode cX6_comesTo 25 = .ok (.iload_n 3, 1) := by decide +kernel
theorem dX6_comesTo_26 : decode cX6_comesTo 26 = .ok (.invokevirtual 141, 3) := by decide +kernel
theorem dX6_comesTo_29 : decode cX6_comesTo 29 = .ok (.istore_n 3, 1) := by decide +kernel
theorem dX6_comesTo_30 : decode cX6_comesTo 30 = .ok (.iinc 4 1, 3) := by decide +kernel
theorem dX6_comesTo_33 : decode cX6_comesTo 33 = .ok (.goto (-28), 3) := by decide +kernel
theorem dX6_comesTo_36 : decode cX6_comesTo 36 = .ok (.iconst 0, 1) := by decide +kernel
theorem dX6_comesTo_37 : decode cX6_comesTo 37 = .ok (.ireturn, 1) := by decide +kernel
theorem dX6_joinBatch_0 : decode cX6_joinBatch 0 = .ok (.aload_n 0, 1) := by decide +kernel
theorem dX6_joinBatch_1 : decode cX6_joinBatch 1 = .ok (.iload_n 1, 1) := by decide +kernel
theorem dX6_joinBatch_2 : decode cX6_joinBatch 2 = .ok (.invokevirtual 166, 3) := by decide +kernel
theorem dX6_joinBatch_5 : decode cX6_joinBatch 5 = .ok (.astore_n 2, 1) := by decide +kernel
theorem dX6_joinBatch_6 : decode cX6_joinBatch 6 = .ok (.aload_n 2, 1) := by decide +kernel
theorem dX6_joinBatch_7 : decode cX6_joinBatch 7 = .ok (.ifnonnull 5, 3) := by decide +kernel
theorem dX6_joinBatch_10 : decode cX6_joinBatch 10 = .ok (.iconst 0, 1) := by decide +kernel
theorem dX6_joinBatch_11 : decode cX6_joinBatch 11 = .ok (.ireturn, 1) := by decide +kernel
theorem dX6_joinBatch_12 : decode cX6_joinBatch 12 = .ok (.aload_n 2, 1) := by decide +kernel
theorem dX6_joinBatch_13 : decode cX6_joinBatch 13 = .ok (.aload_n 0, 1) := by decide +kernel
theorem dX6_joinBatch_14 : decode cX6_joinBatch 14 = .ok (.getfield 44, 3) := by decide +kernel
theorem dX6_joinBatch_17 : decode cX6_joinBatch 17 = .ok (.putfield 210, 3) := by decide +kernel
theorem dX6_joinBatch_20 : decode cX6_joinBatch 20 = .ok (.iconst 1, 1) := by decide +kernel
theorem dX6_joinBatch_21 : decode cX6_joinBatch 21 = .ok (.ireturn, 1) := by decide +kernel
theorem dX6_leaveBatch_0 : decode cX6_leaveBatch 0 = .ok (.aload_n 0, 1) := by decide +kernel
theorem dX6_leaveBatch_1 : decode cX6_leaveBatch 1 = .ok (.iload_n 1, 1) := by decide +kernel
theorem dX6_leaveBatch_2 : decode cX6_leaveBatch 2 = .ok (.invokevirtual 166, 3) := by decide +kernel
theorem dX6_leaveBatch_5 : decode cX6_leaveBatch 5 = .ok (.astore_n 2, 1) := by decide +kernel
theorem dX6_leaveBatch_6 : decode cX6_leaveBatch 6 = .ok (.aload_n 2, 1) := by decide +kernel
theorem dX6_leaveBatch_7 : decode cX6_leaveBatch 7 = .ok (.ifnull 14, 3) := by decide +kernel
theorem dX6_leaveBatch_10 : decode cX6_leaveBatch 10 = .ok (.aload_n 2, 1) := by decide +kernel
theorem dX6_leaveBatch_11 : decode cX6_leaveBatch 11 = .ok (.getfield 210, 3) := by decide +kernel
theorem dX6_leaveBatch_14 : decode cX6_leaveBatch 14 = .ok (.aload_n 0, 1) := by decide +kernel
theorem dX6_leaveBatch_15 : decode cX6_leaveBatch 15 = .ok (.getfield 44, 3) := by decide +kernel
theorem dX6_leaveBatch_18 : decode cX6_leaveBatch 18 = .ok (.if_icmp .eq 5, 3) := by decide +kernel
theorem dX6_leaveBatch_21 : decode cX6_leaveBatch 21 = .ok (.iconst 0, 1) := by decide +kernel
theorem dX6_leaveBatch_22 : decode cX6_leaveBatch 22 = .ok (.ireturn, 1) := by decide +kernel
theorem dX6_leaveBatch_23 : decode cX6_leaveBatch 23 = .ok (.aload_n 2, 1) := by decide +kernel
theorem dX6_leaveBatch_24 : decode cX6_leaveBatch 24 = .ok (.iconst (-1), 1) := by decide +kernel
theorem dX6_leaveBatch_25 : decode cX6_leaveBatch 25 = .ok (.putfield 210, 3) := by decide +kernel
theorem dX6_leaveBatch_28 : decode cX6_leaveBatch 28 = .ok (.iconst 1, 1) := by decide +kernel
theorem dX6_leaveBatch_29 : decode cX6_leaveBatch 29 = .ok (.ireturn, 1) := by decide +kernel
theorem dX7_init_0 : decode cX7_init 0 = .ok (.aload_n 0, 1) := by decide +kernel
theorem dX7_init_1 : decode cX7_init 1 = .ok (.invokespecial 1, 3) := by decide +kernel
theorem dX7_init_4 : decode cX7_init 4 = .ok (.aload_n 0, 1) := by decide +kernel
theorem dX7_init_5 : decode cX7_init 5 = .ok (.sipush 200, 3) := by decide +kernel
theorem dX7_init_8 : decode cX7_init 8 = .ok (.newarray .byte, 2) := by decide +kernel
theorem dX7_init_10 : decode cX7_init 10 = .ok (.putfield 7, 3) := by decide +kernel
theorem dX7_init_13 : decode cX7_init 13 = .ok (.aload_n 0, 1) := by decide +kernel
theorem dX7_init_14 : decode cX7_init 14 = .ok (.iconst (-1), 1) := by decide +kernel
theorem dX7_init_15 : decode cX7_init 15 = .ok (.putfield 13, 3) := by decide +kernel
theorem dX7_init_18 : decode cX7_init 18 = .ok (.aload_n 0, 1) := by decide +kernel
theorem dX7_init_19 : decode cX7_init 19 = .ok (.bipush 11, 2) := by decide +kernel
theorem dX7_init_21 : decode cX7_init 21 = .ok (.newarray .int, 2) := by decide +kernel
theorem dX7_init_23 : decode cX7_init 23 = .ok (.putfield 17, 3) := by decide +kernel
theorem dX7_init_26 : decode cX7_init 26 = .ok (.aload_n 0, 1) := by decide +kernel
theorem dX7_init_27 : decode cX7_init 27 = .ok (.sipush 440, 3) := by decide +kernel
theorem dX7_init_30 : decode cX7_init 30 = .ok (.newarray .int, 2) := by decide +kernel
theorem dX7_init_32 : decode cX7_init 32 = .ok (.putfield 21, 3) := by decide +kernel
theorem dX7_init_35 : decode cX7_init 35 = .ok (.aload_n 0, 1) := by decide +kernel
theorem dX7_init_36 : decode cX7_init 36 = .ok (.sipush 440, 3) := by decide +kernel
theorem dX7_init_39 : decode cX7_init 39 = .ok (.newarray .int, 2) := by decide +kernel
theorem dX7_init_41 : decode cX7_init 41 = .ok (.putfield 24, 3) := by decide +kernel
theorem dX7_init_44 : decode cX7_init 44 = .ok (.aload_n 0, 1) := by decide +kernel
theorem dX7_init_45 : decode cX7_init 45 = .ok (.bipush 10, 2) := by decide +kernel
theorem dX7_init_47 : decode cX7_init 47 = .ok (.newarray .int, 2) := by decide +kernel
theorem dX7_init_49 : decode cX7_init 49 = .ok (.putfield 27, 3) := by decide +kernel
theorem dX7_init_52 : decode cX7_init 52 = .ok (.aload_n 0, 1) := by decide +kernel
theorem dX7_init_53 : decode cX7_init 53 = .ok (.bipush 20, 2) := by decide +kernel
theorem dX7_init_55 : decode cX7_init 55 = .ok (.newarray .int, 2) := by decide +kernel
theorem dX7_init_57 : decode cX7_init 57 = .ok (.putfield 30, 3) := by decide +kernel
theorem dX7_init_60 : decode cX7_init 60 = .ok (.aload_n 0, 1) := by decide +kernel
theorem dX7_init_61 : decode cX7_init 61 = .ok (.bipush 80, 2) := by decide +kernel
theorem dX7_init_63 : decode cX7_init 63 = .ok (.newarray .int, 2) := by decide +kernel
theorem dX7_init_65 : decode cX7_init 65 = .ok (.putfield 33, 3) := by decide +kernel
theorem dX7_init_68 : decode cX7_init 68 = .ok (.aload_n 0, 1) := by decide +kernel
theorem dX7_init_69 : decode cX7_init 69 = .ok (.bipush 80, 2) := by decide +kernel
theorem dX7_init_71 : decode cX7_init 71 = .ok (.newarray .int, 2) := by decide +kernel
theorem dX7_init_73 : decode cX7_init 73 = .ok (.putfield 36, 3) := by decide +kernel
theorem dX7_init_76 : decode cX7_init 76 = .ok (.aload_n 0, 1) := by decide +kernel
theorem dX7_init_77 : decode cX7_init 77 = .ok (.bipush 40, 2) := by decide +kernel
theorem dX7_init_79 : decode cX7_init 79 = .ok (.newarray .byte, 2) := by decide +kernel
theorem dX7_init_81 : decode cX7_init 81 = .ok (.putfield 39, 3) := by decide +kernel
theorem dX7_init_84 : decode cX7_init 84 = .ok (.aload_n 0, 1) := by decide +kernel
theorem dX7_init_85 : decode cX7_init 85 = .ok (.bipush 60, 2) := by decide +kernel
theorem dX7_init_87 : decode cX7_init 87 = .ok (.newarray .int, 2) := by decide +kernel
theorem dX7_init_89 : decode cX7_init 89 = .ok (.putfield 42, 3) := by decide +kernel
theorem dX7_init_92 : decode cX7_init 92 = .ok (.aload_n 0, 1) := by decide +kernel
theorem dX7_init_93 : decode cX7_init 93 = .ok (.sipush 2400, 3) := by decide +kernel
theorem dX7_init_96 : decode cX7_init 96 = .ok (.newarray .byte, 2) := by decide +kernel
theorem dX7_init_98 : decode cX7_init 98 = .ok (.putfield 45, 3) := by decide +kernel
theorem dX7_init_101 : decode cX7_init 101 = .ok (.aload_n 0, 1) := by decide +kernel
theorem dX7_init_102 : decode cX7_init 102 = .ok (.bipush 60, 2) := by decide +kernel
theorem dX7_init_104 : decode cX7_init 104 = .ok (.newarray .int, 2) := by decide +kernel
theorem dX7_init_106 : decode cX7_init 106 = .ok (.putfield 48, 3) := by decide +kernel
theorem dX7_init_109 : decode cX7_init 109 = .ok (.aload_n 0, 1) := by decide +kernel
theorem dX7_init_110 : decode cX7_init 110 = .ok (.bipush 60, 2) := by decide +kernel
theorem dX7_init_112 : decode cX7_init 112 = .ok (.newarray .int, 2) := by decide +kernel
theorem dX7_init_114 : decode cX7_init 114 = .ok (.putfield 51, 3) := by decide +kernel
theorem dX7_init_117 : decode cX7_init 117 = .ok (.aload_n 0, 1) := by decide +kernel
theorem dX7_init_118 : decode cX7_init 118 = .ok (.bipush 60, 2) := by decide +kernel
theorem dX7_init_120 : decode cX7_init 120 = .ok (.newarray .boolean, 2) := by decide +kernel
theorem dX7_init_122 : decode cX7_init 122 = .ok (.putfield 54, 3) := by decide +kernel
theorem dX7_init_125 : decode cX7_init 125 = .ok (.aload_n 0, 1) := by decide +kernel
theorem dX7_init_126 : decode cX7_init 126 = .ok (.bipush 60, 2) := by decide +kernel
theorem dX7_init_128 : decode cX7_init 128 = .ok (.newarray .int, 2) := by decide +kernel
theorem dX7_init_130 : decode cX7_init 130 = .ok (.putfield 58, 3) := by decide +kernel
theorem dX7_init_133 : decode cX7_init 133 = .ok (.aload_n 0, 1) := by decide +kernel
theorem dX7_init_134 : decode cX7_init 134 = .ok (.sipush 600, 3) := by decide +kernel
theorem dX7_init_137 : decode cX7_init 137 = .ok (.newarray .boolean, 2) := by decide +kernel
theorem dX7_init_139 : decode cX7_init 139 = .ok (.putfield 61, 3) := by decide +kernel
theorem dX7_init_142 : decode cX7_init 142 = .ok (.aload_n 0, 1) := by decide +kernel
theorem dX7_init_143 : decode cX7_init 143 = .ok (.iconst (-1), 1) := by decide +kernel
theorem dX7_init_144 : decode cX7_init 144 = .ok (.putfield 64, 3) := by decide +kernel
theorem dX7_init_147 : decode cX7_init 147 = .ok (.aload_n 0, 1) := by decide +kernel
theorem dX7_init_148 : decode cX7_init 148 = .ok (.bipush 40, 2) := by decide +kernel
theorem dX7_init_150 : decode cX7_init 150 = .ok (.newarray .byte, 2) := by decide +kernel
theorem dX7_init_152 : decode cX7_init 152 = .ok (.putfield 67, 3) := by decide +kernel
theorem dX7_init_155 : decode cX7_init 155 = .ok (.aload_n 0, 1) := by decide +kernel
theorem dX7_init_156 : decode cX7_init 156 = .ok (.bipush 32, 2) := by decide +kernel
theorem dX7_init_158 : decode cX7_init 158 = .ok (.newarray .int, 2) := by decide +kernel
theorem dX7_init_160 : decode cX7_init 160 = .ok (.putfield 70, 3) := by decide +kernel
theorem dX7_init_163 : decode cX7_init 163 = .ok (.aload_n 0, 1) := by decide +kernel
theorem dX7_init_164 : decode cX7_init 164 = .ok (.iload_n 1, 1) := by decide +kernel
theorem dX7_init_165 : decode cX7_init 165 = .ok (.ifCond .ge 7, 3) := by decide +kernel
theorem dX7_init_168 : decode cX7_init 168 = .ok (.iconst 0, 1) := by decide +kernel
theorem dX7_init_169 : decode cX7_init 169 = .ok (.goto 17, 3) := by decide +kernel
theorem dX7_init_172 : decode cX7_init 172 = .ok (.iload_n 1, 1) := by decide +kernel
theorem dX7_init_173 : decode cX7_init 173 = .ok (.sipush 2000, 3) := by decide +kernel
theorem dX7_init_176 : decode cX7_init 176 = .ok (.if_icmp .le 9, 3) := by decide +kernel
theorem dX7_init_179 : decode cX7_init 179 = .ok (.sipush 2000, 3) := by decide +kernel
theorem dX7_init_182 : decode cX7_init 182 = .ok (.goto 4, 3) := by decide +kernel
theorem dX7_init_185 : decode cX7_init 185 = .ok (.iload_n 1, 1) := by decide +kernel
theorem dX7_init_186 : decode cX7_init 186 = .ok (.putfield 73, 3) := by decide +kernel
theorem dX7_init_189 : decode cX7_init 189 = .ok (.aload_n 0, 1) := by decide +kernel
theorem dX7_init_190 : decode cX7_init 190 = .ok (.iload_n 2, 1) := by decide +kernel
theorem dX7_init_191 : decode cX7_init 191 = .ok (.ifCond .ge 7, 3) := by decide +kernel
theorem dX7_init_194 : decode cX7_init 194 = .ok (.iconst 0, 1) := by decide +kernel
theorem dX7_init_195 : decode cX7_init 195 = .ok (.goto 15, 3) := by decide +kernel
theorem dX7_init_198 : decode cX7_init 198 = .ok (.iload_n 2, 1) := by decide +kernel
theorem dX7_init_199 : decode cX7_init 199 = .ok (.bipush 32, 2) := by decide +kernel
theorem dX7_init_201 : decode cX7_init 201 = .ok (.if_icmp .le 8, 3) := by decide +kernel
theorem dX7_init_204 : decode cX7_init 204 = .ok (.bipush 32, 2) := by decide +kernel
theorem dX7_init_206 : decode cX7_init 206 = .ok (.goto 4, 3) := by decide +kernel
theorem dX7_init_209 : decode cX7_init 209 = .ok (.iload_n 2, 1) := by decide +kernel
theorem dX7_init_210 : decode cX7_init 210 = .ok (.putfield 76, 3) := by decide +kernel
theorem dX7_init_213 : decode cX7_init 213 = .ok (.iconst 0, 1) := by decide +kernel
theorem dX7_init_214 : decode cX7_init 214 = .ok (.istore_n 3, 1) := by decide +kernel
theorem dX7_init_215 : decode cX7_init 215 = .ok (.iload_n 3, 1) := by decide +kernel
theorem dX7_init_216 : decode cX7_init 216 = .ok (.bipush 10, 2) := by decide +kernel
theorem dX7_init_218 : decode cX7_init 218 = .ok (.if_icmp .ge 16, 3) := by decide +kernel
theorem dX7_init_221 : decode cX7_init 221 = .ok (.aload_n 0, 1) := by decide +kernel
theorem dX7_init_222 : decode cX7_init 222 = .ok (.getfield 27, 3) := by decide +kernel
theorem dX7_init_225 : decode cX7_init 225 = .ok (.iload_n 3, 1) := by decide +kernel
theorem dX7_init_226 : decode cX7_init 226 = .ok (.iconst (-1), 1) := by decide +kernel
theorem dX7_init_227 : decode cX7_init 227 = .ok (.iastore, 1) := by decide +kernel
theorem dX7_init_228 : decode cX7_init 228 = .ok (.iinc 3 1, 3) := by decide +kernel
theorem dX7_init_231 : decode cX7_init 231 = .ok (.goto (-16), 3) := by decide +kernel
theorem dX7_init_234 : decode cX7_init 234 = .ok (.return_, 1) := by decide +kernel
theorem dX7_thrown_0 : decode cX7_thrown 0 = .ok (.aload_n 0, 1) := by decide +kernel
theorem dX7_thrown_1 : decode cX7_thrown 1 = .ok (.getfield 79, 3) := by decide +kernel
theorem dX7_thrown_4 : decode cX7_thrown 4 = .ok (.ireturn, 1) := by decide +kernel
theorem dX7_in_0 : decode cX7_in 0 = .ok (.iload_n 0, 1) := by decide +kernel
theorem dX7_in_1 : decode cX7_in 1 = .ok (.iload_n 1, 1) := by decide +kernel
theorem dX7_in_2 : decode cX7_in 2 = .ok (.if_icmp .lt 12, 3) := by decide +kernel
theorem dX7_in_5 : decode cX7_in 5 = .ok (.iload_n 0, 1) := by decide +kernel
theorem dX7_in_6 : decode cX7_in 6 = .ok (.iload_n 2, 1) := by decide +kernel
theorem dX7_in_7 : decode cX7_in 7 = .ok (.if_icmp .gt 7, 3) := by decide +kernel
theorem dX7_in_10 : decode cX7_in 10 = .ok (.iconst 1, 1) := by decide +kernel
theorem dX7_in_11 : decode cX7_in 11 = .ok (.goto 4, 3) := by decide +kernel
theorem dX7_in_14 : decode cX7_in 14 = .ok (.iconst 0, 1) := by decide +kernel
theorem dX7_in_15 : decode cX7_in 15 = .ok (.ireturn, 1) := by decide +kernel
theorem dX7_isScript_0 : decode cX7_isScript 0 = .ok (.iload_n 1, 1) := by decide +kernel
theorem dX7_isScript_1 : decode cX7_isScript 1 = .ok (.iconst 0, 1) := by decide +kernel
theorem dX7_isScript_2 : decode cX7_isScript 2 = .ok (.aload_n 0, 1) := by decide +kernel
theorem dX7_isScript_3 : decode cX7_isScript 3 = .ok (.getfield 82, 3) := by decide +kernel
theorem dX7_isScript_6 : decode cX7_isScript 6 = .ok (.iconst 1, 1) := by decide +kernel
theorem dX7_isScript_7 : decode cX7_isScript 7 = .ok (.isub, 1) := by decide +kernel
theorem dX7_isScript_8 : decode cX7_isScript 8 = .ok (.invokestatic 85, 3) := by decide +kernel
theorem dX7_isScript_11 : decode cX7_isScript 11 = .ok (.ireturn, 1) := by decide +kernel
theorem dX7_isItem_0 : decode cX7_isItem 0 = .ok (.iload_n 1, 1) := by decide +kernel
theorem dX7_isItem_1 : decode cX7_isItem 1 = .ok (.iconst 0, 1) := by decide +kernel
theorem dX7_isItem_2 : decode cX7_isItem 2 = .ok (.aload_n 0, 1) := by decide +kernel
theorem dX7_isItem_3 : decode cX7_isItem 3 = .ok (.getfield 89, 3) := by decide +kernel
theorem dX7_isItem_6 : decode cX7_isItem 6 = .ok (.iconst 1, 1) := by decide +kernel
theorem dX7_isItem_7 : decode cX7_isItem 7 = .ok (.isub, 1) := by decide +kernel
theorem dX7_isItem_8 : decode cX7_isItem 8 = .ok (.invokestatic 85, 3) := by decide +kernel
theorem dX7_isItem_11 : decode cX7_isItem 11 = .ok (.ireturn, 1) := by decide +kernel
theorem dX7_sign_0 : decode cX7_sign 0 = .ok (.aload_n 0, 1) := by decide +kernel
theorem dX7_sign_1 : decode cX7_sign 1 = .ok (.iconst 0, 1) := by decide +kernel
theorem dX7_sign_2 : decode cX7_sign 2 = .ok (.putfield 79, 3) := by decide +kernel
theorem dX7_sign_5 : decode cX7_sign 5 = .ok (.aload_n 0, 1) := by decide +kernel
theorem dX7_sign_6 : decode cX7_sign 6 = .ok (.getfield 92, 3) := by decide +kernel
theorem dX7_sign_9 : decode cX7_sign 9 = .ok (.sipush 200, 3) := by decide +kernel
theorem dX7_sign_12 : decode cX7_sign 12 = .ok (.if_icmp .ne 4, 3) := by decide +kernel
theorem dX7_sign_15 : decode cX7_sign 15 = .ok (.return_, 1) := by decide +kernel
theorem dX7_sign_16 : decode cX7_sign 16 = .ok (.aload_n 0, 1) := by decide +kernel
theorem dX7_sign_17 : decode cX7_sign 17 = .ok (.getfield 7, 3) := by decide +kernel
theorem dX7_sign_20 : decode cX7_sign 20 = .ok (.aload_n 0, 1) := by decide +kernel
theorem dX7_sign_21 : decode cX7_sign 21 = .ok (.getfield 92, 3) := by decide +kernel
theorem dX7_sign_24 : decode cX7_sign 24 = .ok (.iload_n 1, 1) := by decide +kernel
theorem dX7_sign_25 : decode cX7_sign 25 = .ok (.i2b, 1) := by decide +kernel
theorem dX7_sign_26 : decode cX7_sign 26 = .ok (.bastore, 1) := by decide +kernel
theorem dX7_sign_27 : decode cX7_sign 27 = .ok (.aload_n 0, 1) := by decide +kernel
theorem dX7_sign_28 : decode cX7_sign 28 = .ok (.dup, 1) := by decide +kernel
theorem dX7_sign_29 : decode cX7_sign 29 = .ok (.getfield 92, 3) := by decide +kernel
theorem dX7_sign_32 : decode cX7_sign 32 = .ok (.iconst 1, 1) := by decide +kernel
theorem dX7_sign_33 : decode cX7_sign 33 = .ok (.iadd, 1) := by decide +kernel
theorem dX7_sign_34 : decode cX7_sign 34 = .ok (.putfield 92, 3) := by decide +kernel
theorem dX7_sign_37 : decode cX7_sign 37 = .ok (.return_, 1) := by decide +kernel
theorem dX7_look_0 : decode cX7_look 0 = .ok (.aload_n 0, 1) := by decide +kernel
theorem dX7_look_1 : decode cX7_look 1 = .ok (.getfield 95, 3) := by decide +kernel
theorem dX7_look_4 : decode cX7_look 4 = .ok (.aload_n 0, 1) := by decide +kernel
theorem dX7_look_5 : decode cX7_look 5 = .ok (.getfield 92, 3) := by decide +kernel
theorem dX7_look_8 : decode cX7_look 8 = .ok (.if_icmp .ge 19, 3) := by decide +kernel
theorem dX7_look_11 : decode cX7_look 11 = .ok (.aload_n 0, 1) := by decide +kernel
theorem dX7_look_12 : decode cX7_look 12 = .ok (.getfield 7, 3) := by decide +kernel
theorem dX7_look_15 : decode cX7_look 15 = .ok (.aload_n 0, 1) := by decide +kernel
theorem dX7_look_16 : decode cX7_look 16 = .ok (.getfield 95, 3) := by decide +kernel
theorem dX7_look_19 : decode cX7_look 19 = .ok (.baload, 1) := by decide +kernel
theorem dX7_look_20 : decode cX7_look 20 = .ok (.sipush 255, 3) := by decide +kernel
theorem dX7_look_23 : decode cX7_look 23 = .ok (.iand, 1) := by decide +kernel
theorem dX7_look_24 : decode cX7_look 24 = .ok (.goto 4, 3) := by decide +kernel
theorem dX7_look_27 : decode cX7_look 27 = .ok (.iconst (-1), 1) := by decide +kernel
theorem dX7_look_28 : decode cX7_look 28 = .ok (.ireturn, 1) := by decide +kernel
theorem dX7_isLetter_0 : decode cX7_isLetter 0 = .ok (.iload_n 0, 1) := by decide +kernel
theorem dX7_isLetter_1 : decode cX7_isLetter 1 = .ok (.bipush 114, 2) := by decide +kernel
theorem dX7_isLetter_3 : decode cX7_isLetter 3 = .ok (.if_icmp .eq 81, 3) := by decide +kernel
theorem dX7_isLetter_6 : decode cX7_isLetter 6 = .ok (.iload_n 0, 1) := by decide +kernel
theorem dX7_isLetter_7 : decode cX7_isLetter 7 = .ok (.bipush 119, 2) := by decide +kernel
theorem dX7_isLetter_9 : decode cX7_isLetter 9 = .ok (.if_icmp .eq 75, 3) := by decide +kernel
theorem dX7_isLetter_12 : decode cX7_isLetter 12 = .ok (.iload_n 0, 1) := by decide +kernel
theorem dX7_isLetter_13 : decode cX7_isLetter 13 = .ok (.bipush 97, 2) := by decide +kernel
theorem dX7_isLetter_15 : decode cX7_isLetter 15 = .ok (.if_icmp .eq 69, 3) := by decide +kernel
theorem dX7_isLetter_18 : decode cX7_isLetter 18 = .ok (.iload_n 0, 1) := by decide +kernel
theorem dX7_isLetter_19 : decode cX7_isLetter 19 = .ok (.bipush 120, 2) := by decide +kernel
theorem dX7_isLetter_21 : decode cX7_isLetter 21 = .ok (.if_icmp .eq 63, 3) := by decide +kernel
theorem dX7_isLetter_24 : decode cX7_isLetter 24 = .ok (.iload_n 0, 1) := by decide +kernel
theorem dX7_isLetter_25 : decode cX7_isLetter 25 = .ok (.bipush 115, 2) := by decide +kernel
theorem dX7_isLetter_27 : decode cX7_isLetter 27 = .ok (.if_icmp .eq 57, 3) := by decide +kernel
theorem dX7_isLetter_30 : decode cX7_isLetter 30 = .ok (.iload_n 0, 1) := by decide +kernel
theorem dX7_isLetter_31 : decode cX7_isLetter 31 = .ok (.bipush 103, 2) := by decide +kernel
theorem dX7_isLetter_33 : decode cX7_isLetter 33 = .ok (.if_icmp .eq 51, 3) := by decide +kernel
theorem dX7_isLetter_36 : decode cX7_isLetter 36 = .ok (.iload_n 0, 1) := by decide +kernel
theorem dX7_isLetter_37 : decode cX7_isLetter 37 = .ok (.bipush 105, 2) := by decide +kernel
theorem dX7_isLetter_39 : decode cX7_isLetter 39 = .ok (.if_icmp .eq 45, 3) := by decide +kernel
theorem dX7_isLetter_42 : decode cX7_isLetter 42 = .ok (.iload_n 0, 1) := by decide +kernel
theorem dX7_isLetter_43 : decode cX7_isLetter 43 = .ok (.bipush 107, 2) := by decide +kernel
theorem dX7_isLetter_45 : decode cX7_isLetter 45 = .ok (.if_icmp .eq 39, 3) := by decide +kernel
theorem dX7_isLetter_48 : decode cX7_isLetter 48 = .ok (.iload_n 0, 1) := by decide +kernel
theorem dX7_isLetter_49 : decode cX7_isLetter 49 = .ok (.bipush 106, 2) := by decide +kernel
theorem dX7_isLetter_51 : decode cX7_isLetter 51 = .ok (.if_icmp .eq 33, 3) := by decide +kernel
theorem dX7_isLetter_54 : decode cX7_isLetter 54 = .ok (.iload_n 0, 1) := by decide +kernel
theorem dX7_isLetter_55 : decode cX7_isLetter 55 = .ok (.bipush 122, 2) := by decide +kernel
theorem dX7_isLetter_57 : decode cX7_isLetter 57 = .ok (.if_icmp .eq 27, 3) := by decide +kernel
theorem dX7_isLetter_60 : decode cX7_isLetter 60 = .ok (.iload_n 0, 1) := by decide +kernel
theorem dX7_isLetter_61 : decode cX7_isLetter 61 = .ok (.bipush 101, 2) := by decide +kernel
theorem dX7_isLetter_63 : decode cX7_isLetter 63 = .ok (.if_icmp .eq 21, 3) := by decide +kernel
theorem dX7_isLetter_66 : decode cX7_isLetter 66 = .ok (.iload_n 0, 1) := by decide +kernel
theorem dX7_isLetter_67 : decode cX7_isLetter 67 = .ok (.bipush 98, 2) := by decide +kernel
theorem dX7_isLetter_69 : decode cX7_isLetter 69 = .ok (.if_icmp .eq 15, 3) := by decide +kernel
theorem dX7_isLetter_72 : decode cX7_isLetter 72 = .ok (.iload_n 0, 1) := by decide +kernel
theorem dX7_isLetter_73 : decode cX7_isLetter 73 = .ok (.bipush 102, 2) := by decide +kernel
theorem dX7_isLetter_75 : decode cX7_isLetter 75 = .ok (.if_icmp .eq 9, 3) := by decide +kernel
theorem dX7_isLetter_78 : decode cX7_isLetter 78 = .ok (.iload_n 0, 1) := by decide +kernel
theorem dX7_isLetter_79 : decode cX7_isLetter 79 = .ok (.bipush 104, 2) := by decide +kernel
theorem dX7_isLetter_81 : decode cX7_isLetter 81 = .ok (.if_icmp .ne 7, 3) := by decide +kernel
theorem dX7_isLetter_84 : decode cX7_isLetter 84 = .ok (.iconst 1, 1) := by decide +kernel
theorem dX7_isLetter_85 : decode cX7_isLetter 85 = .ok (.goto 4, 3) := by decide +kernel
theorem dX7_isLetter_88 : decode cX7_isLetter 88 = .ok (.iconst 0, 1) := by decide +kernel
theorem dX7_isLetter_89 : decode cX7_isLetter 89 = .ok (.ireturn, 1) := by decide +kernel
theorem dX7_command_0 : decode cX7_command 0 = .ok (.aload_n 0, 1) := by decide +kernel
theorem dX7_command_1 : decode cX7_command 1 = .ok (.invokevirtual 98, 3) := by decide +kernel
theorem dX7_command_4 : decode cX7_command 4 = .ok (.invokestatic 102, 3) := by decide +kernel
theorem dX7_command_7 : decode cX7_command 7 = .ok (.ifCond .eq 9, 3) := by decide +kernel
theorem dX7_command_10 : decode cX7_command 10 = .ok (.iload_n 1, 1) := by decide +kernel
theorem dX7_command_11 : decode cX7_command 11 = .ok (.bipush 40, 2) := by decide +kernel
theorem dX7_command_13 : decode cX7_command 13 = .ok (.if_icmp .ne 5, 3) := by decide +kernel
theorem dX7_command_16 : decode cX7_command 16 = .ok (.iconst 0, 1) := by decide +kernel
theorem dX7_command_17 : decode cX7_command 17 = .ok (.ireturn, 1) := by decide +kernel
theorem dX7_command_18 : decode cX7_command 18 = .ok (.aload_n 0, 1) := by decide +kernel
theorem dX7_command_19 : decode cX7_command 19 = .ok (.getfield 21, 3) := by decide +kernel
theorem dX7_command_22 : decode cX7_command 22 = .ok (.bipush 40, 2) := by decide +kernel
theorem dX7_command_24 : decode cX7_command 24 = .ok (.aload_n 0, 1) := by decide +kernel
theorem dX7_command_25 : decode cX7_command 25 = .ok (.getfield 82, 3) := by decide +kernel
theorem dX7_command_28 : decode cX7_command 28 = .ok (.imul, 1) := by decide +kernel
theorem dX7_command_29 : decode cX7_command 29 = .ok (.iload_n 1, 1) := by decide +kernel
theorem dX7_command_30 : decode cX7_command 30 = .ok (.iadd, 1) := by decide +kernel
theorem dX7_command_31 : decode cX7_command 31 = .ok (.aload_n 0, 1) := by decide +kernel
theorem dX7_command_32 : decode cX7_command 32 = .ok (.invokevirtual 98, 3) := by decide +kernel
theorem dX7_command_35 : decode cX7_command 35 = .ok (.iastore, 1) := by decide +kernel
theorem dX7_command_36 : decode cX7_command 36 = .ok (.aload_n 0, 1) := by decide +kernel
theorem dX7_command_37 : decode cX7_command 37 = .ok (.dup, 1) := by decide +kernel
theorem dX7_command_38 : decode cX7_command 38 = .ok (.getfield 95, 3) := by decide +kernel
theorem dX7_command_41 : decode cX7_command 41 = .ok (.iconst 1, 1) := by decide +kernel
theorem dX7_command_42 : decode cX7_command 42 = .ok (.iadd, 1) := by decide +kernel
theorem dX7_command_43 : decode cX7_command 43 = .ok (.putfield 95, 3) := by decide +kernel
theorem dX7_command_46 : decode cX7_command 46 = .ok (.aload_n 0, 1) := by decide +kernel
theorem dX7_command_47 : decode cX7_command 47 = .ok (.getfield 95, 3) := by decide +kernel
theorem dX7_command_50 : decode cX7_command 50 = .ok (.istore_n 2, 1) := by decide +kernel
theorem dX7_command_51 : decode cX7_command 51 = .ok (.iconst 0, 1) := by decide +kernel
theorem dX7_command_52 : decode cX7_command 52 = .ok (.istore_n 3, 1) := by decide +kernel
theorem dX7_command_53 : decode cX7_command 53 = .ok (.aload_n 0, 1) := by decide +kernel
theorem dX7_command_54 : decode cX7_command 54 = .ok (.getfield 95, 3) := by decide +kernel
theorem dX7_command_57 : decode cX7_command 57 = .ok (.iload_n 2, 1) := by decide +kernel
theorem dX7_command_58 : decode cX7_command 58 = .ok (.iconst 3, 1) := by decide +kernel
theorem dX7_command_59 : decode cX7_command 59 = .ok (.iadd, 1) := by decide +kernel
theorem dX7_command_60 : decode cX7_command 60 = .ok (.if_icmp .ge 43, 3) := by decide +kernel
theorem dX7_command_63 : decode cX7_command 63 = .ok (.aload_n 0, 1) := by decide +kernel
theorem dX7_command_64 : decode cX7_command 64 = .ok (.invokevirtual 98, 3) := by decide +kernel
theorem dX7_command_67 : decode cX7_command 67 = .ok (.bipush 48, 2) := by decide +kernel
theorem dX7_command_69 : decode cX7_command 69 = .ok (.bipush 57, 2) := by decide +kernel
theorem dX7_command_71 : decode cX7_command 71 = .ok (.invokestatic 85, 3) := by decide +kernel
theorem dX7_command_74 : decode cX7_command 74 = .ok (.ifCond .eq 29, 3) := by decide +kernel
theorem dX7_command_77 : decode cX7_command 77 = .ok (.bipush 10, 2) := by decide +kernel
theorem dX7_command_79 : decode cX7_command 79 = .ok (.iload_n 3, 1) := by decide +kernel
theorem dX7_command_80 : decode cX7_command 80 = .ok (.imul, 1) := by decide +kernel
theorem dX7_command_81 : decode cX7_command 81 = .ok (.aload_n 0, 1) := by decide +kernel
theorem dX7_command_82 : decode cX7_command 82 = .ok (.invokevirtual 98, 3) := by decide +kernel
theorem dX7_command_85 : decode cX7_command 85 = .ok (.iadd, 1) := by decide +kernel
theorem dX7_command_86 : decode cX7_command 86 = .ok (.bipush 48, 2) := by decide +kernel
theorem dX7_command_88 : decode cX7_command 88 = .ok (.isub, 1) := by decide +kernel
theorem dX7_command_89 : decode cX7_command 89 = .ok (.istore_n 3, 1) := by decide +kernel
theorem dX7_command_90 : decode cX7_command 90 = .ok (.aload_n 0, 1) := by decide +kernel
theorem dX7_command_91 : decode cX7_command 91 = .ok (.dup, 1) := by decide +kernel
theorem dX7_command_92 : decode cX7_command 92 = .ok (.getfield 95, 3) := by decide +kernel
theorem dX7_command_95 : decode cX7_command 95 = .ok (.iconst 1, 1) := by decide +kernel
theorem dX7_command_96 : decode cX7_command 96 = .ok (.iadd, 1) := by decide +kernel
theorem dX7_command_97 : decode cX7_command 97 = .ok (.putfield 95, 3) := by decide +kernel
theorem dX7_command_100 : decode cX7_command 100 = .ok (.goto (-47), 3) := by decide +kernel
theorem dX7_command_103 : decode cX7_command 103 = .ok (.aload_n 0, 1) := by decide +kernel
theorem dX7_command_104 : decode cX7_command 104 = .ok (.getfield 95, 3) := by decide +kernel
theorem dX7_command_107 : decode cX7_command 107 = .ok (.iload_n 2, 1) := by decide +kernel
theorem dX7_command_108 : decode cX7_command 108 = .ok (.if_icmp .ne 5, 3) := by decide +kernel
theorem dX7_command_111 : decode cX7_command 111 = .ok (.iconst 0, 1) := by decide +kernel
theorem dX7_command_112 : decode cX7_command 112 = .ok (.ireturn, 1) := by decide +kernel
theorem dX7_command_113 : decode cX7_command 113 = .ok (.aload_n 0, 1) := by decide +kernel
theorem dX7_command_114 : decode cX7_command 114 = .ok (.getfield 24, 3) := by decide +kernel
theorem dX7_command_117 : decode cX7_command 117 = .ok (.bipush 40, 2) := by decide +kernel
theorem dX7_command_119 : decode cX7_command 119 = .ok (.aload_n 0, 1) := by decide +kernel
theorem dX7_command_120 : decode cX7_command 120 = .ok (.getfield 82, 3) := by decide +kernel
theorem dX7_command_123 : decode cX7_command 123 = .ok (.imul, 1) := by decide +kernel
theorem dX7_command_124 : decode cX7_command 124 = .ok (.iload_n 1, 1) := by decide +kernel
theorem dX7_command_125 : decode cX7_command 125 = .ok (.iadd, 1) := by decide +kernel
theorem dX7_command_126 : decode cX7_command 126 = .ok (.iload_n 3, 1) := by decide +kernel
theorem dX7_command_127 : decode cX7_command 127 = .ok (.iastore, 1) := by decide +kernel
theorem dX7_command_128 : decode cX7_command 128 = .ok (.iload_n 3, 1) := by decide +kernel
theorem dX7_command_129 : decode cX7_command 129 = .ok (.sipush 256, 3) := by decide +kernel
theorem dX7_command_132 : decode cX7_command 132 = .ok (.if_icmp .ge 5, 3) := by decide +kernel
theorem dX7_command_135 : decode cX7_command 135 = .ok (.iconst 1, 1) := by decide +kernel
theorem dX7_command_136 : decode cX7_command 136 = .ok (.ireturn, 1) := by decide +kernel
theorem dX7_command_137 : decode cX7_command 137 = .ok (.aload_n 0, 1) := by decide +kernel
theorem dX7_command_138 : decode cX7_command 138 = .ok (.iload_n 2, 1) := by decide +kernel
theorem dX7_command_139 : decode cX7_command 139 = .ok (.putfield 95, 3) := by decide +kernel
theorem dX7_command_142 : decode cX7_command 142 = .ok (.iconst 0, 1) := by decide +kernel
theorem dX7_command_143 : decode cX7_command 143 = .ok (.ireturn, 1) := by decide +kernel
theorem dX7_reads_0 : decode cX7_reads 0 = .ok (.aload_n 0, 1) := by decide +kernel
theorem dX7_reads_1 : decode cX7_reads 1 = .ok (.iconst 0, 1) := by decide +kernel
theorem dX7_reads_2 : decode cX7_reads 2 = .ok (.putfield 95, 3) := by decide +kernel
theorem dX7_reads_5 : decode cX7_reads 5 = .ok (.iconst 0, 1) := by decide +kernel
theorem dX7_reads_6 : decode cX7_reads 6 = .ok (.istore_n 1, 1) := by decide +kernel
theorem dX7_reads_7 : decode cX7_reads 7 = .ok (.iconst 1, 1) := by decide +kernel
theorem dX7_reads_8 : decode cX7_reads 8 = .ok (.istore_n 2, 1) := by decide +kernel
theorem dX7_reads_9 : decode cX7_reads 9 = .ok (.iload_n 2, 1) := by decide +kernel
theorem dX7_reads_10 : decode cX7_reads 10 = .ok (.ifCond .eq 69, 3) := by decide +kernel
theorem dX7_reads_13 : decode cX7_reads 13 = .ok (.aload_n 0, 1) := by decide +kernel
theorem dX7_reads_14 : decode cX7_reads 14 = .ok (.iload_n 1, 1) := by decide +kernel
theorem dX7_reads_15 : decode cX7_reads 15 = .ok (.invokevirtual 106, 3) := by decide +kernel
theorem dX7_reads_18 : decode cX7_reads 18 = .ok (.ifCond .ne 5, 3) := by decide +kernel
theorem dX7_reads_21 : decode cX7_reads 21 = .ok (.iconst 0, 1) := by decide +kernel
theorem dX7_reads_22 : decode cX7_reads 22 = .ok (.ireturn, 1) := by decide +kernel
theorem dX7_reads_23 : decode cX7_reads 23 = .ok (.iinc 1 1, 3) := by decide +kernel
theorem dX7_reads_26 : decode cX7_reads 26 = .ok (.aload_n 0, 1) := by decide +kernel
theorem dX7_reads_27 : decode cX7_reads 27 = .ok (.getfield 95, 3) := by decide +kernel
theorem dX7_reads_30 : decode cX7_reads 30 = .ok (.aload_n 0, 1) := by decide +kernel
theorem dX7_reads_31 : decode cX7_reads 31 = .ok (.getfield 92, 3) := by decide +kernel
theorem dX7_reads_34 : decode cX7_reads 34 = .ok (.if_icmp .ge 7, 3) := by decide +kernel
theorem dX7_reads_37 : decode cX7_reads 37 = .ok (.iconst 1, 1) := by decide +kernel
theorem dX7_reads_38 : decode cX7_reads 38 = .ok (.goto 4, 3) := by decide +kernel
theorem dX7_reads_41 : decode cX7_reads 41 = .ok (.iconst 0, 1) := by decide +kernel
theorem dX7_reads_42 : decode cX7_reads 42 = .ok (.istore_n 2, 1) := by decide +kernel
theorem dX7_reads_43 : decode cX7_reads 43 = .ok (.iload_n 2, 1) := by decide +kernel
theorem dX7_reads_44 : decode cX7_reads 44 = .ok (.ifCond .eq 14, 3) := by decide +kernel
theorem dX7_reads_47 : decode cX7_reads 47 = .ok (.aload_n 0, 1) := by decide +kernel
theorem dX7_reads_48 : decode cX7_reads 48 = .ok (.invokevirtual 98, 3) := by decide +kernel
theorem dX7_reads_51 : decode cX7_reads 51 = .ok (.bipush 32, 2) := by decide +kernel
theorem dX7_reads_53 : decode cX7_reads 53 = .ok (.if_icmp .eq 5, 3) := by decide +kernel
theorem dX7_reads_56 : decode cX7_reads 56 = .ok (.iconst 0, 1) := by decide +kernel
theorem dX7_reads_57 : decode cX7_reads 57 = .ok (.ireturn, 1) := by decide +kernel
theorem dX7_reads_58 : decode cX7_reads 58 = .ok (.aload_n 0, 1) := by decide +kernel
theorem dX7_reads_59 : decode cX7_reads 59 = .ok (.dup, 1) := by decide +kernel
theorem dX7_reads_60 : decode cX7_reads 60 = .ok (.getfield 95, 3) := by decide +kernel
theorem dX7_reads_63 : decode cX7_reads 63 = .ok (.iload_n 2, 1) := by decide +kernel
theorem dX7_reads_64 : decode cX7_reads 64 = .ok (.ifCond .eq 7, 3) := by decide +kernel
theorem dX7_reads_67 : decode cX7_reads 67 = .ok (.iconst 1, 1) := by decide +kernel
theorem dX7_reads_68 : decode cX7_reads 68 = .ok (.goto 4, 3) := by decide +kernel
theorem dX7_reads_71 : decode cX7_reads 71 = .ok (.iconst 0, 1) := by decide +kernel
theorem dX7_reads_72 : decode cX7_reads 72 = .ok (.iadd, 1) := by decide +kernel
theorem dX7_reads_73 : decode cX7_reads 73 = .ok (.putfield 95, 3) := by decide +kernel
theorem dX7_reads_76 : decode cX7_reads 76 = .ok (.goto (-67), 3) := by decide +kernel
theorem dX7_reads_79 : decode cX7_reads 79 = .ok (.aload_n 0, 1) := by decide +kernel
theorem dX7_reads_80 : decode cX7_reads 80 = .ok (.getfield 17, 3) := by decide +kernel
theorem dX7_reads_83 : decode cX7_reads 83 = .ok (.aload_n 0, 1) := by decide +kernel
theorem dX7_reads_84 : decode cX7_reads 84 = .ok (.getfield 82, 3) := by decide +kernel
theorem dX7_reads_87 : decode cX7_reads 87 = .ok (.iload_n 1, 1) := by decide +kernel
theorem dX7_reads_88 : decode cX7_reads 88 = .ok (.iastore, 1) := by decide +kernel
theorem dX7_reads_89 : decode cX7_reads 89 = .ok (.iconst 1, 1) := by decide +kernel
theorem dX7_reads_90 : decode cX7_reads 90 = .ok (.ireturn, 1) := by decide +kernel
theorem dX7_read_0 : decode cX7_read 0 = .ok (.aload_n 0, 1) := by decide +kernel
theorem dX7_read_1 : decode cX7_read 1 = .ok (.invokevirtual 109, 3) := by decide +kernel
theorem dX7_read_4 : decode cX7_read 4 = .ok (.istore_n 1, 1) := by decide +kernel
theorem dX7_read_5 : decode cX7_read 5 = .ok (.aload_n 0, 1) := by decide +kernel
theorem dX7_read_6 : decode cX7_read 6 = .ok (.iconst 0, 1) := by decide +kernel
theorem dX7_read_7 : decode cX7_read 7 = .ok (.putfield 92, 3) := by decide +kernel
theorem dX7_read_10 : decode cX7_read 10 = .ok (.aload_n 0, 1) := by decide +kernel
theorem dX7_read_11 : decode cX7_read 11 = .ok (.iload_n 1, 1) := by decide +kernel
theorem dX7_read_12 : decode cX7_read 12 = .ok (.ifCond .eq 7, 3) := by decide +kernel
theorem dX7_read_15 : decode cX7_read 15 = .ok (.iconst (-1), 1) := by decide +kernel
theorem dX7_read_16 : decode cX7_read 16 = .ok (.goto 7, 3) := by decide +kernel
theorem dX7_read_19 : decode cX7_read 19 = .ok (.aload_n 0, 1) := by decide +kernel
theorem dX7_read_20 : decode cX7_read 20 = .ok (.getfield 95, 3) := by decide +kernel
theorem dX7_read_23 : decode cX7_read 23 = .ok (.putfield 13, 3) := by decide +kernel
theorem dX7_read_26 : decode cX7_read 26 = .ok (.aload_n 0, 1) := by decide +kernel
theorem dX7_read_27 : decode cX7_read 27 = .ok (.iload_n 1, 1) := by decide +kernel
theorem dX7_read_28 : decode cX7_read 28 = .ok (.ifCond .eq 7, 3) := by decide +kernel
theorem dX7_read_31 : decode cX7_read 31 = .ok (.iconst 0, 1) := by decide +kernel
theorem dX7_read_32 : decode cX7_read 32 = .ok (.goto 4, 3) := by decide +kernel
theorem dX7_read_35 : decode cX7_read 35 = .ok (.iconst 1, 1) := by decide +kernel
theorem dX7_read_36 : decode cX7_read 36 = .ok (.putfield 79, 3) := by decide +kernel
theorem dX7_read_39 : decode cX7_read 39 = .ok (.iload_n 1, 1) := by decide +kernel
theorem dX7_read_40 : decode cX7_read 40 = .ok (.ifCond .ne 5, 3) := by decide +kernel
theorem dX7_read_43 : decode cX7_read 43 = .ok (.iconst 0, 1) := by decide +kernel
theorem dX7_read_44 : decode cX7_read 44 = .ok (.ireturn, 1) := by decide +kernel
theorem dX7_read_45 : decode cX7_read 45 = .ok (.aload_n 0, 1) := by decide +kernel
theorem dX7_read_46 : decode cX7_read 46 = .ok (.getfield 82, 3) := by decide +kernel
theorem dX7_read_49 : decode cX7_read 49 = .ok (.bipush 10, 2) := by decide +kernel
theorem dX7_read_51 : decode cX7_read 51 = .ok (.if_icmp .ne 6, 3) := by decide +kernel
theorem dX7_read_54 : decode cX7_read 54 = .ok (.bipush (-4), 2) := by decide +kernel
theorem dX7_read_56 : decode cX7_read 56 = .ok (.ireturn, 1) := by decide +kernel
theorem dX7_read_57 : decode cX7_read 57 = .ok (.aload_n 0, 1) := by decide +kernel
theorem dX7_read_58 : decode cX7_read 58 = .ok (.dup, 1) := by decide +kernel
theorem dX7_read_59 : decode cX7_read 59 = .ok (.getfield 82, 3) := by decide +kernel
theorem dX7_read_62 : decode cX7_read 62 = .ok (.iconst 1, 1) := by decide +kernel
theorem dX7_read_63 : decode cX7_read 63 = .ok (.iadd, 1) := by decide +kernel
theorem dX7_read_64 : decode cX7_read 64 = .ok (.putfield 82, 3) := by decide +kernel
theorem dX7_read_67 : decode cX7_read 67 = .ok (.aload_n 0, 1) := by decide +kernel
theorem dX7_read_68 : decode cX7_read 68 = .ok (.getfield 82, 3) := by decide +kernel
theorem dX7_read_71 : decode cX7_read 71 = .ok (.iconst 1, 1) := by decide +kernel
theorem dX7_read_72 : decode cX7_read 72 = .ok (.isub, 1) := by decide +kernel
theorem dX7_read_73 : decode cX7_read 73 = .ok (.ireturn, 1) := by decide +kernel
theorem dX7_place_0 : decode cX7_place 0 = .ok (.aload_n 0, 1) := by decide +kernel
theorem dX7_place_1 : decode cX7_place 1 = .ok (.iconst 0, 1) := by decide +kernel
theorem dX7_place_2 : decode cX7_place 2 = .ok (.putfield 79, 3) := by decide +kernel
theorem dX7_place_5 : decode cX7_place 5 = .ok (.aload_n 0, 1) := by decide +kernel
theorem dX7_place_6 : decode cX7_place 6 = .ok (.getfield 13, 3) := by decide +kernel
theorem dX7_place_9 : decode cX7_place 9 = .ok (.ireturn, 1) := by decide +kernel
theorem dX7_put_0 : decode cX7_put 0 = .ok (.iconst 0, 1) := by decide +kernel
theorem dX7_put_1 : decode cX7_put 1 = .ok (.istore_n 3, 1) := by decide +kernel
theorem dX7_put_2 : decode cX7_put 2 = .ok (.iload_n 3, 1) := by decide +kernel
theorem dX7_put_3 : decode cX7_put 3 = .ok (.iload_n 2, 1) := by decide +kernel
theorem dX7_put_4 : decode cX7_put 4 = .ok (.if_icmp .ge 39, 3) := by decide +kernel
theorem dX7_put_7 : decode cX7_put 7 = .ok (.aload_n 0, 1) := by decide +kernel
theorem dX7_put_8 : decode cX7_put 8 = .ok (.getfield 113, 3) := by decide +kernel
theorem dX7_put_11 : decode cX7_put 11 = .ok (.bipush 40, 2) := by decide +kernel
theorem dX7_put_13 : decode cX7_put 13 = .ok (.if_icmp .ge 30, 3) := by decide +kernel
theorem dX7_put_16 : decode cX7_put 16 = .ok (.aload_n 0, 1) := by decide +kernel
theorem dX7_put_17 : decode cX7_put 17 = .ok (.getfield 67, 3) := by decide +kernel
theorem dX7_put_20 : decode cX7_put 20 = .ok (.aload_n 0, 1) := by decide +kernel
theorem dX7_put_21 : decode cX7_put 21 = .ok (.getfield 113, 3) := by decide +kernel
theorem dX7_put_24 : decode cX7_put 24 = .ok (.iload_n 1, 1) := by decide +kernel
theorem dX7_put_25 : decode cX7_put 25 = .ok (.i2b, 1) := by decide +kernel
theorem dX7_put_26 : decode cX7_put 26 = .ok (.bastore, 1) := by decide +kernel
theorem dX7_put_27 : decode cX7_put 27 = .ok (.aload_n 0, 1) := by decide +kernel
theorem dX7_put_28 : decode cX7_put 28 = .ok (.dup, 1) := by decide +kernel
theorem dX7_put_29 : decode cX7_put 29 = .ok (.getfield 113, 3) := by decide +kernel
theorem dX7_put_32 : decode cX7_put 32 = .ok (.iconst 1, 1) := by decide +kernel
theorem dX7_put_33 : decode cX7_put 33 = .ok (.iadd, 1) := by decide +kernel
theorem dX7_put_34 : decode cX7_put 34 = .ok (.putfield 113, 3) := by decide +kernel
theorem dX7_put_37 : decode cX7_put 37 = .ok (.iinc 3 1, 3) := by decide +kernel
theorem dX7_put_40 : decode cX7_put 40 = .ok (.goto (-38), 3) := by decide +kernel
theorem dX7_put_43 : decode cX7_put 43 = .ok (.return_, 1) := by decide +kernel
theorem dX7_run_0 : decode cX7_run 0 = .ok (.iconst 0, 1) := by decide +kernel
theorem dX7_run_1 : decode cX7_run 1 = .ok (.istore_n 3, 1) := by decide +kernel
theorem dX7_run_2 : decode cX7_run 2 = .ok (.iconst 0, 1) := by decide +kernel
theorem dX7_run_3 : decode cX7_run 3 = .ok (.istore 4, 2) := by decide +kernel
theorem dX7_run_5 : decode cX7_run 5 = .ok (.iconst 0, 1) := by decide +kernel
theorem dX7_run_6 : decode cX7_run 6 = .ok (.istore 5, 2) := by decide +kernel
theorem dX7_run_8 : decode cX7_run 8 = .ok (.iconst 0, 1) := by decide +kernel
theorem dX7_run_9 : decode cX7_run 9 = .ok (.istore 6, 2) := by decide +kernel
theorem dX7_run_11 : decode cX7_run 11 = .ok (.aload_n 0, 1) := by decide +kernel
theorem dX7_run_12 : decode cX7_run 12 = .ok (.iconst 0, 1) := by decide +kernel
theorem dX7_run_13 : decode cX7_run 13 = .ok (.putfield 113, 3) := by decide +kernel
theorem dX7_run_16 : decode cX7_run 16 = .ok (.aload_n 0, 1) := by decide +kernel
theorem dX7_run_17 : decode cX7_run 17 = .ok (.iconst (-1), 1) := by decide +kernel
theorem dX7_run_18 : decode cX7_run 18 = .ok (.putfield 64, 3) := by decide +kernel
theorem dX7_run_21 : decode cX7_run 21 = .ok (.iconst 0, 1) := by decide +kernel
theorem dX7_run_22 : decode cX7_run 22 = .ok (.istore 7, 2) := by decide +kernel
theorem dX7_run_24 : decode cX7_run 24 = .ok (.iload 7, 2) := by decide +kernel
theorem dX7_run_26 : decode cX7_run 26 = .ok (.bipush 32, 2) := by decide +kernel
theorem dX7_run_28 : decode cX7_run 28 = .ok (.if_icmp .ge 17, 3) := by decide +kernel
theorem dX7_run_31 : decode cX7_run 31 = .ok (.aload_n 0, 1) := by decide +kernel
theorem dX7_run_32 : decode cX7_run 32 = .ok (.getfield 70, 3) := by decide +kernel
theorem dX7_run_35 : decode cX7_run 35 = .ok (.iload 7, 2) := by decide +kernel
theorem dX7_run_37 : decode cX7_run 37 = .ok (.iconst 0, 1) := by decide +kernel
theorem dX7_run_38 : decode cX7_run 38 = .ok (.iastore, 1) := by decide +kernel
theorem dX7_run_39 : decode cX7_run 39 = .ok (.iinc 7 1, 3) := by decide +kernel
theorem dX7_run_42 : decode cX7_run 42 = .ok (.goto (-18), 3) := by decide +kernel
theorem dX7_run_45 : decode cX7_run 45 = .ok (.iload 5, 2) := by decide +kernel
theorem dX7_run_47 : decode cX7_run 47 = .ok (.aload_n 0, 1) := by decide +kernel
theorem dX7_run_48 : decode cX7_run 48 = .ok (.getfield 17, 3) := by decide +kernel
theorem dX7_run_51 : decode cX7_run 51 = .ok (.iload_n 1, 1) := by decide +kernel
theorem dX7_run_52 : decode cX7_run 52 = .ok (.iaload, 1) := by decide +kernel
theorem dX7_run_53 : decode cX7_run 53 = .ok (.if_icmp .ge 429, 3) := by decide +kernel
theorem dX7_run_56 : decode cX7_run 56 = .ok (.aload_n 0, 1) := by decide +kernel
theorem dX7_run_57 : decode cX7_run 57 = .ok (.iload 5, 2) := by decide +kernel
theorem dX7_run_59 : decode cX7_run 59 = .ok (.putfield 64, 3) := by decide +kernel
theorem dX7_run_62 : decode cX7_run 62 = .ok (.iload 6, 2) := by decide +kernel
theorem dX7_run_64 : decode cX7_run 64 = .ok (.aload_n 0, 1) := by decide +kernel
theorem dX7_run_65 : decode cX7_run 65 = .ok (.getfield 73, 3) := by decide +kernel
theorem dX7_run_68 : decode cX7_run 68 = .ok (.if_icmp .ne 5, 3) := by decide +kernel
theorem dX7_run_71 : decode cX7_run 71 = .ok (.iconst 4, 1) := by decide +kernel
theorem dX7_run_72 : decode cX7_run 72 = .ok (.ireturn, 1) := by decide +kernel
theorem dX7_run_73 : decode cX7_run 73 = .ok (.iinc 6 1, 3) := by decide +kernel
theorem dX7_run_76 : decode cX7_run 76 = .ok (.aload_n 0, 1) := by decide +kernel
theorem dX7_run_77 : decode cX7_run 77 = .ok (.dup, 1) := by decide +kernel
theorem dX7_run_78 : decode cX7_run 78 = .ok (.getfield 116, 3) := by decide +kernel
theorem dX7_run_81 : decode cX7_run 81 = .ok (.lconst 1, 1) := by decide +kernel
theorem dX7_run_82 : decode cX7_run 82 = .ok (.ladd, 1) := by decide +kernel
theorem dX7_run_83 : decode cX7_run 83 = .ok (.putfield 116, 3) := by decide +kernel
theorem dX7_run_86 : decode cX7_run 86 = .ok (.aload_n 0, 1) := by decide +kernel
theorem dX7_run_87 : decode cX7_run 87 = .ok (.getfield 21, 3) := by decide +kernel
theorem dX7_run_90 : decode cX7_run 90 = .ok (.bipush 40, 2) := by decide +kernel
theorem dX7_run_92 : decode cX7_run 92 = .ok (.iload_n 1, 1) := by decide +kernel
theorem dX7_run_93 : decode cX7_run 93 = .ok (.imul, 1) := by decide +kernel
theorem dX7_run_94 : decode cX7_run 94 = .ok (.iload 5, 2) := by decide +kernel
theorem dX7_run_96 : decode cX7_run 96 = .ok (.iadd, 1) := by decide +kernel
theorem dX7_run_97 : decode cX7_run 97 = .ok (.iaload, 1) := by decide +kernel
theorem dX7_run_98 : decode cX7_run 98 = .ok (.istore 7, 2) := by decide +kernel
theorem dX7_run_100 : decode cX7_run 100 = .ok (.aload_n 0, 1) := by decide +kernel
theorem dX7_run_101 : decode cX7_run 101 = .ok (.getfield 24, 3) := by decide +kernel
theorem dX7_run_104 : decode cX7_run 104 = .ok (.bipush 40, 2) := by decide +kernel
theorem dX7_run_106 : decode cX7_run 106 = .ok (.iload_n 1, 1) := by decide +kernel
theorem dX7_run_107 : decode cX7_run 107 = .ok (.imul, 1) := by decide +kernel
theorem dX7_run_108 : decode cX7_run 108 = .ok (.iload 5, 2) := by decide +kernel
theorem dX7_run_110 : decode cX7_run 110 = .ok (.iadd, 1) := by decide +kernel
theorem dX7_run_111 : decode cX7_run 111 = .ok (.iaload, 1) := by decide +kernel
theorem dX7_run_112 : decode cX7_run 112 = .ok (.istore 8, 2) := by decide +kernel
theorem dX7_run_114 : decode cX7_run 114 = .ok (.iinc 5 1, 3) := by decide +kernel
theorem dX7_run_117 : decode cX7_run 117 = .ok (.iload 7, 2) := by decide +kernel
theorem dX7_run_119 : decode cX7_run 119 = .ok (.tableswitch 355 97 122 #[189, 340, 355, 355, 317, 347, 231, 355, 253, 285, 278, 355, 355, 355, 355, 355, 355, 117, 209, 355, 355, 355, 156, 201, 355, 301], 117) := by decide +kernel
theorem dX7_run_236 : decode cX7_run 236 = .ok (.iload 4, 2) := by decide +kernel
theorem dX7_run_238 : decode cX7_run 238 = .ok (.iload 8, 2) := by decide +kernel
theorem dX7_run_240 : decode cX7_run 240 = .ok (.iadd, 1) := by decide +kernel
theorem dX7_run_241 : decode cX7_run 241 = .ok (.aload_n 0, 1) := by decide +kernel
theorem dX7_run_242 : decode cX7_run 242 = .ok (.getfield 42, 3) := by decide +kernel
theorem dX7_run_245 : decode cX7_run 245 = .ok (.iload_n 2, 1) := by decide +kernel
theorem dX7_run_246 : decode cX7_run 246 = .ok (.iaload, 1) := by decide +kernel
theorem dX7_run_247 : decode cX7_run 247 = .ok (.if_icmp .lt 5, 3) := by decide +kernel
theorem dX7_run_250 : decode cX7_run 250 = .ok (.iconst 2, 1) := by decide +kernel
theorem dX7_run_251 : decode cX7_run 251 = .ok (.ireturn, 1) := by decide +kernel
theorem dX7_run_252 : decode cX7_run 252 = .ok (.aload_n 0, 1) := by decide +kernel
theorem dX7_run_253 : decode cX7_run 253 = .ok (.getfield 45, 3) := by decide +kernel
theorem dX7_run_256 : decode cX7_run 256 = .ok (.bipush 40, 2) := by decide +kernel
theorem dX7_run_258 : decode cX7_run 258 = .ok (.iload_n 2, 1) := by decide +kernel
theorem dX7_run_259 : decode cX7_run 259 = .ok (.imul, 1) := by decide +kernel
theorem dX7_run_260 : decode cX7_run 260 = .ok (.iload 4, 2) := by decide +kernel
theorem dX7_run_262 : decode cX7_run 262 = .ok (.iadd, 1) := by decide +kernel
theorem dX7_run_263 : decode cX7_run 263 = .ok (.iload 8, 2) := by decide +kernel
theorem dX7_run_265 : decode cX7_run 265 = .ok (.iadd, 1) := by decide +kernel
theorem dX7_run_266 : decode cX7_run 266 = .ok (.baload, 1) := by decide +kernel
theorem dX7_run_267 : decode cX7_run 267 = .ok (.sipush 255, 3) := by decide +kernel
theorem dX7_run_270 : decode cX7_run 270 = .ok (.iand, 1) := by decide +kernel
theorem dX7_run_271 : decode cX7_run 271 = .ok (.istore_n 3, 1) := by decide +kernel
theorem dX7_run_272 : decode cX7_run 272 = .ok (.goto 207, 3) := by decide +kernel
theorem dX7_run_275 : decode cX7_run 275 = .ok (.aload_n 0, 1) := by decide +kernel
theorem dX7_run_276 : decode cX7_run 276 = .ok (.getfield 113, 3) := by decide +kernel
theorem dX7_run_279 : decode cX7_run 279 = .ok (.iload 8, 2) := by decide +kernel
theorem dX7_run_281 : decode cX7_run 281 = .ok (.iadd, 1) := by decide +kernel
theorem dX7_run_282 : decode cX7_run 282 = .ok (.bipush 40, 2) := by decide +kernel
theorem dX7_run_284 : decode cX7_run 284 = .ok (.if_icmp .gt 7, 3) := by decide +kernel
theorem dX7_run_287 : decode cX7_run 287 = .ok (.iconst 1, 1) := by decide +kernel
theorem dX7_run_288 : decode cX7_run 288 = .ok (.goto 4, 3) := by decide +kernel
theorem dX7_run_291 : decode cX7_run 291 = .ok (.iconst 0, 1) := by decide +kernel
theorem dX7_run_292 : decode cX7_run 292 = .ok (.istore 9, 2) := by decide +kernel
theorem dX7_run_294 : decode cX7_run 294 = .ok (.aload_n 0, 1) := by decide +kernel
theorem dX7_run_295 : decode cX7_run 295 = .ok (.iload_n 3, 1) := by decide +kernel
theorem dX7_run_296 : decode cX7_run 296 = .ok (.iload 8, 2) := by decide +kernel
theorem dX7_run_298 : decode cX7_run 298 = .ok (.invokevirtual 120, 3) := by decide +kernel
theorem dX7_run_301 : decode cX7_run 301 = .ok (.iload 9, 2) := by decide +kernel
theorem dX7_run_303 : decode cX7_run 303 = .ok (.ifCond .ne 176, 3) := by decide +kernel
theorem dX7_run_306 : decode cX7_run 306 = .ok (.iconst 3, 1) := by decide +kernel
theorem dX7_run_307 : decode cX7_run 307 = .ok (.ireturn, 1) := by decide +kernel
theorem dX7_run_308 : decode cX7_run 308 = .ok (.iload_n 3, 1) := by decide +kernel
theorem dX7_run_309 : decode cX7_run 309 = .ok (.iload 8, 2) := by decide +kernel
theorem dX7_run_311 : decode cX7_run 311 = .ok (.iadd, 1) := by decide +kernel
theorem dX7_run_312 : decode cX7_run 312 = .ok (.sipush 256, 3) := by decide +kernel
theorem dX7_run_315 : decode cX7_run 315 = .ok (.irem, 1) := by decide +kernel
theorem dX7_run_316 : decode cX7_run 316 = .ok (.istore_n 3, 1) := by decide +kernel
theorem dX7_run_317 : decode cX7_run 317 = .ok (.goto 162, 3) := by decide +kernel
theorem dX7_run_320 : decode cX7_run 320 = .ok (.iload_n 3, 1) := by decide +kernel
theorem dX7_run_321 : decode cX7_run 321 = .ok (.iload 8, 2) := by decide +kernel
theorem dX7_run_323 : decode cX7_run 323 = .ok (.ixor, 1) := by decide +kernel
theorem dX7_run_324 : decode cX7_run 324 = .ok (.istore_n 3, 1) := by decide +kernel
theorem dX7_run_325 : decode cX7_run 325 = .ok (.goto 154, 3) := by decide +kernel
theorem dX7_run_328 : decode cX7_run 328 = .ok (.iload 8, 2) := by decide +kernel
theorem dX7_run_330 : decode cX7_run 330 = .ok (.aload_n 0, 1) := by decide +kernel
theorem dX7_run_331 : decode cX7_run 331 = .ok (.getfield 76, 3) := by decide +kernel
theorem dX7_run_334 : decode cX7_run 334 = .ok (.if_icmp .lt 5, 3) := by decide +kernel
theorem dX7_run_337 : decode cX7_run 337 = .ok (.iconst 3, 1) := by decide +kernel
theorem dX7_run_338 : decode cX7_run 338 = .ok (.ireturn, 1) := by decide +kernel
theorem dX7_run_339 : decode cX7_run 339 = .ok (.aload_n 0, 1) := by decide +kernel
theorem dX7_run_340 : decode cX7_run 340 = .ok (.getfield 70, 3) := by decide +kernel
theorem dX7_run_343 : decode cX7_run 343 = .ok (.iload 8, 2) := by decide +kernel
theorem dX7_run_345 : decode cX7_run 345 = .ok (.iload_n 3, 1) := by decide +kernel
theorem dX7_run_346 : decode cX7_run 346 = .ok (.iastore, 1) := by decide +kernel
theorem dX7_run_347 : decode cX7_run 347 = .ok (.goto 132, 3) := by decide +kernel
theorem dX7_run_350 : decode cX7_run 350 = .ok (.iload 8, 2) := by decide +kernel
theorem dX7_run_352 : decode cX7_run 352 = .ok (.aload_n 0, 1) := by decide +kernel
theorem dX7_run_353 : decode cX7_run 353 = .ok (.getfield 76, 3) := by decide +kernel
theorem dX7_run_356 : decode cX7_run 356 = .ok (.if_icmp .lt 5, 3) := by decide +kernel
theorem dX7_run_359 : decode cX7_run 359 = .ok (.iconst 3, 1) := by decide +kernel
theorem dX7_run_360 : decode cX7_run 360 = .ok (.ireturn, 1) := by decide +kernel
theorem dX7_run_361 : decode cX7_run 361 = .ok (.aload_n 0, 1) := by decide +kernel
theorem dX7_run_362 : decode cX7_run 362 = .ok (.getfield 70, 3) := by decide +kernel
theorem dX7_run_365 : decode cX7_run 365 = .ok (.iload 8, 2) := by decide +kernel
theorem dX7_run_367 : decode cX7_run 367 = .ok (.iaload, 1) := by decide +kernel
theorem dX7_run_368 : decode cX7_run 368 = .ok (.istore_n 3, 1) := by decide +kernel
theorem dX7_run_369 : decode cX7_run 369 = .ok (.goto 110, 3) := by decide +kernel
theorem dX7_run_372 : decode cX7_run 372 = .ok (.iload 4, 2) := by decide +kernel
theorem dX7_run_374 : decode cX7_run 374 = .ok (.iload 8, 2) := by decide +kernel
theorem dX7_run_376 : decode cX7_run 376 = .ok (.iadd, 1) := by decide +kernel
theorem dX7_run_377 : decode cX7_run 377 = .ok (.ldc 124, 2) := by decide +kernel
theorem dX7_run_379 : decode cX7_run 379 = .ok (.if_icmp .le 8, 3) := by decide +kernel
theorem dX7_run_382 : decode cX7_run 382 = .ok (.ldc 124, 2) := by decide +kernel
theorem dX7_run_384 : decode cX7_run 384 = .ok (.goto 8, 3) := by decide +kernel
theorem dX7_run_387 : decode cX7_run 387 = .ok (.iload 4, 2) := by decide +kernel
theorem dX7_run_389 : decode cX7_run 389 = .ok (.iload 8, 2) := by decide +kernel
theorem dX7_run_391 : decode cX7_run 391 = .ok (.iadd, 1) := by decide +kernel
theorem dX7_run_392 : decode cX7_run 392 = .ok (.istore 4, 2) := by decide +kernel
theorem dX7_run_394 : decode cX7_run 394 = .ok (.goto 85, 3) := by decide +kernel
theorem dX7_run_397 : decode cX7_run 397 = .ok (.iload 8, 2) := by decide +kernel
theorem dX7_run_399 : decode cX7_run 399 = .ok (.istore 4, 2) := by decide +kernel
theorem dX7_run_401 : decode cX7_run 401 = .ok (.goto 78, 3) := by decide +kernel
theorem dX7_run_404 : decode cX7_run 404 = .ok (.iload_n 3, 1) := by decide +kernel
theorem dX7_run_405 : decode cX7_run 405 = .ok (.ifCond .eq 8, 3) := by decide +kernel
theorem dX7_run_408 : decode cX7_run 408 = .ok (.iload 8, 2) := by decide +kernel
theorem dX7_run_410 : decode cX7_run 410 = .ok (.goto 5, 3) := by decide +kernel
theorem dX7_run_413 : decode cX7_run 413 = .ok (.iload 5, 2) := by decide +kernel
theorem dX7_run_415 : decode cX7_run 415 = .ok (.istore 5, 2) := by decide +kernel
theorem dX7_run_417 : decode cX7_run 417 = .ok (.goto 62, 3) := by decide +kernel
theorem dX7_run_420 : decode cX7_run 420 = .ok (.iload_n 3, 1) := by decide +kernel
theorem dX7_run_421 : decode cX7_run 421 = .ok (.ifCond .ne 8, 3) := by decide +kernel
theorem dX7_run_424 : decode cX7_run 424 = .ok (.iload 8, 2) := by decide +kernel
theorem dX7_run_426 : decode cX7_run 426 = .ok (.goto 5, 3) := by decide +kernel
theorem dX7_run_429 : decode cX7_run 429 = .ok (.iload 5, 2) := by decide +kernel
theorem dX7_run_431 : decode cX7_run 431 = .ok (.istore 5, 2) := by decide +kernel
theorem dX7_run_433 : decode cX7_run 433 = .ok (.goto 46, 3) := by decide +kernel
theorem dX7_run_436 : decode cX7_run 436 = .ok (.iload 4, 2) := by decide +kernel
theorem dX7_run_438 : decode cX7_run 438 = .ok (.aload_n 0, 1) := by decide +kernel
theorem dX7_run_439 : decode cX7_run 439 = .ok (.getfield 42, 3) := by decide +kernel
theorem dX7_run_442 : decode cX7_run 442 = .ok (.iload_n 2, 1) := by decide +kernel
theorem dX7_run_443 : decode cX7_run 443 = .ok (.iaload, 1) := by decide +kernel
theorem dX7_run_444 : decode cX7_run 444 = .ok (.if_icmp .lt 8, 3) := by decide +kernel
theorem dX7_run_447 : decode cX7_run 447 = .ok (.iload 8, 2) := by decide +kernel
theorem dX7_run_449 : decode cX7_run 449 = .ok (.goto 5, 3) := by decide +kernel
theorem dX7_run_452 : decode cX7_run 452 = .ok (.iload 5, 2) := by decide +kernel
theorem dX7_run_454 : decode cX7_run 454 = .ok (.istore 5, 2) := by decide +kernel
theorem dX7_run_456 : decode cX7_run 456 = .ok (.goto 23, 3) := by decide +kernel
theorem dX7_run_459 : decode cX7_run 459 = .ok (.iload 8, 2) := by decide +kernel
theorem dX7_run_461 : decode cX7_run 461 = .ok (.istore 5, 2) := by decide +kernel
theorem dX7_run_463 : decode cX7_run 463 = .ok (.goto 16, 3) := by decide +kernel
theorem dX7_run_466 : decode cX7_run 466 = .ok (.iload_n 3, 1) := by decide +kernel
theorem dX7_run_467 : decode cX7_run 467 = .ok (.iload 8, 2) := by decide +kernel
theorem dX7_run_469 : decode cX7_run 469 = .ok (.if_icmp .eq 10, 3) := by decide +kernel
theorem dX7_run_472 : decode cX7_run 472 = .ok (.iconst 1, 1) := by decide +kernel
theorem dX7_run_473 : decode cX7_run 473 = .ok (.ireturn, 1) := by decide +kernel
theorem dX7_run_474 : decode cX7_run 474 = .ok (.sipush 255, 3) := by decide +kernel
theorem dX7_run_477 : decode cX7_run 477 = .ok (.istore 5, 2) := by decide +kernel
theorem dX7_run_479 : decode cX7_run 479 = .ok (.goto (-434), 3) := by decide +kernel
theorem dX7_run_482 : decode cX7_run 482 = .ok (.aload_n 0, 1) := by decide +kernel
theorem dX7_run_483 : decode cX7_run 483 = .ok (.iconst (-1), 1) := by decide +kernel
theorem dX7_run_484 : decode cX7_run 484 = .ok (.putfield 64, 3) := by decide +kernel
theorem dX7_run_487 : decode cX7_run 487 = .ok (.iconst 0, 1) := by decide +kernel
theorem dX7_run_488 : decode cX7_run 488 = .ok (.ireturn, 1) := by decide +kernel
theorem dX7_octet_0 : decode cX7_octet 0 = .ok (.aload_n 0, 1) := by decide +kernel
theorem dX7_octet_1 : decode cX7_octet 1 = .ok (.iconst 0, 1) := by decide +kernel
theorem dX7_octet_2 : decode cX7_octet 2 = .ok (.putfield 79, 3) := by decide +kernel
theorem dX7_octet_5 : decode cX7_octet 5 = .ok (.aload_n 0, 1) := by decide +kernel
theorem dX7_octet_6 : decode cX7_octet 6 = .ok (.getfield 125, 3) := by decide +kernel
theorem dX7_octet_9 : decode cX7_octet 9 = .ok (.bipush 40, 2) := by decide +kernel
theorem dX7_octet_11 : decode cX7_octet 11 = .ok (.if_icmp .ne 4, 3) := by decide +kernel
theorem dX7_octet_14 : decode cX7_octet 14 = .ok (.return_, 1) := by decide +kernel
theorem dX7_octet_15 : decode cX7_octet 15 = .ok (.aload_n 0, 1) := by decide +kernel
theorem dX7_octet_16 : decode cX7_octet 16 = .ok (.getfield 39, 3) := by decide +kernel
theorem dX7_octet_19 : decode cX7_octet 19 = .ok (.aload_n 0, 1) := by decide +kernel
theorem dX7_octet_20 : decode cX7_octet 20 = .ok (.getfield 125, 3) := by decide +kernel
theorem dX7_octet_23 : decode cX7_octet 23 = .ok (.iload_n 1, 1) := by decide +kernel
theorem dX7_octet_24 : decode cX7_octet 24 = .ok (.i2b, 1) := by decide +kernel
theorem dX7_octet_25 : decode cX7_octet 25 = .ok (.bastore, 1) := by decide +kernel
theorem dX7_octet_26 : decode cX7_octet 26 = .ok (.aload_n 0, 1) := by decide +kernel
theorem dX7_octet_27 : decode cX7_octet 27 = .ok (.dup, 1) := by decide +kernel
theorem dX7_octet_28 : decode cX7_octet 28 = .ok (.getfield 125, 3) := by decide +kernel
theorem dX7_octet_31 : decode cX7_octet 31 = .ok (.iconst 1, 1) := by decide +kernel
theorem dX7_octet_32 : decode cX7_octet 32 = .ok (.iadd, 1) := by decide +kernel
theorem dX7_octet_33 : decode cX7_octet 33 = .ok (.putfield 125, 3) := by decide +kernel
theorem dX7_octet_36 : decode cX7_octet 36 = .ok (.return_, 1) := by decide +kernel
theorem dX7_original_0 : decode cX7_original 0 = .ok (.aload_n 0, 1) := by decide +kernel
theorem dX7_original_1 : decode cX7_original 1 = .ok (.iconst 0, 1) := by decide +kernel
theorem dX7_original_2 : decode cX7_original 2 = .ok (.putfield 79, 3) := by decide +kernel
theorem dX7_original_5 : decode cX7_original 5 = .ok (.aload_n 0, 1) := by decide +kernel
theorem dX7_original_6 : decode cX7_original 6 = .ok (.getfield 89, 3) := by decide +kernel
theorem dX7_original_9 : decode cX7_original 9 = .ok (.bipush 60, 2) := by decide +kernel
theorem dX7_original_11 : decode cX7_original 11 = .ok (.if_icmp .ne 6, 3) := by decide +kernel
theorem dX7_original_14 : decode cX7_original 14 = .ok (.bipush (-4), 2) := by decide +kernel
theorem dX7_original_16 : decode cX7_original 16 = .ok (.ireturn, 1) := by decide +kernel
theorem dX7_original_17 : decode cX7_original 17 = .ok (.aload_n 0, 1) := by decide +kernel
theorem dX7_original_18 : decode cX7_original 18 = .ok (.getfield 42, 3) := by decide +kernel
theorem dX7_original_21 : decode cX7_original 21 = .ok (.aload_n 0, 1) := by decide +kernel
theorem dX7_original_22 : decode cX7_original 22 = .ok (.getfield 89, 3) := by decide +kernel
theorem dX7_original_25 : decode cX7_original 25 = .ok (.aload_n 0, 1) := by decide +kernel
theorem dX7_original_26 : decode cX7_original 26 = .ok (.getfield 125, 3) := by decide +kernel
theorem dX7_original_29 : decode cX7_original 29 = .ok (.iastore, 1) := by decide +kernel
theorem dX7_original_30 : decode cX7_original 30 = .ok (.iconst 0, 1) := by decide +kernel
theorem dX7_original_31 : decode cX7_original 31 = .ok (.istore_n 1, 1) := by decide +kernel
theorem dX7_original_32 : decode cX7_original 32 = .ok (.iload_n 1, 1) := by decide +kernel
theorem dX7_original_33 : decode cX7_original 33 = .ok (.aload_n 0, 1) := by decide +kernel
theorem dX7_original_34 : decode cX7_original 34 = .ok (.getfield 125, 3) := by decide +kernel
theorem dX7_original_37 : decode cX7_original 37 = .ok (.if_icmp .ge 29, 3) := by decide +kernel
theorem dX7_original_40 : decode cX7_original 40 = .ok (.aload_n 0, 1) := by decide +kernel
theorem dX7_original_41 : decode cX7_original 41 = .ok (.getfield 45, 3) := by decide +kernel
theorem dX7_original_44 : decode cX7_original 44 = .ok (.bipush 40, 2) := by decide +kernel
theorem dX7_original_46 : decode cX7_original 46 = .ok (.aload_n 0, 1) := by decide +kernel
theorem dX7_original_47 : decode cX7_original 47 = .ok (.getfield 89, 3) := by decide +kernel
theorem dX7_original_50 : decode cX7_original 50 = .ok (.imul, 1) := by decide +kernel
theorem dX7_original_51 : decode cX7_original 51 = .ok (.iload_n 1, 1) := by decide +kernel
theorem dX7_original_52 : decode cX7_original 52 = .ok (.iadd, 1) := by decide +kernel
theorem dX7_original_53 : decode cX7_original 53 = .ok (.aload_n 0, 1) := by decide +kernel
theorem dX7_original_54 : decode cX7_original 54 = .ok (.getfield 39, 3) := by decide +kernel
theorem dX7_original_57 : decode cX7_original 57 = .ok (.iload_n 1, 1) := by decide +kernel
theorem dX7_original_58 : decode cX7_original 58 = .ok (.baload, 1) := by decide +kernel
theorem dX7_original_59 : decode cX7_original 59 = .ok (.bastore, 1) := by decide +kernel
theorem dX7_original_60 : decode cX7_original 60 = .ok (.iinc 1 1, 3) := by decide +kernel
theorem dX7_original_63 : decode cX7_original 63 = .ok (.goto (-31), 3) := by decide +kernel
theorem dX7_original_66 : decode cX7_original 66 = .ok (.aload_n 0, 1) := by decide +kernel
theorem dX7_original_67 : decode cX7_original 67 = .ok (.getfield 48, 3) := by decide +kernel
theorem dX7_original_70 : decode cX7_original 70 = .ok (.aload_n 0, 1) := by decide +kernel
theorem dX7_original_71 : decode cX7_original 71 = .ok (.getfield 89, 3) := by decide +kernel
theorem dX7_original_74 : decode cX7_original 74 = .ok (.iconst (-1), 1) := by decide +kernel
theorem dX7_original_75 : decode cX7_original 75 = .ok (.iastore, 1) := by decide +kernel
theorem dX7_original_76 : decode cX7_original 76 = .ok (.aload_n 0, 1) := by decide +kernel
theorem dX7_original_77 : decode cX7_original 77 = .ok (.getfield 51, 3) := by decide +kernel
theorem dX7_original_80 : decode cX7_original 80 = .ok (.aload_n 0, 1) := by decide +kernel
theorem dX7_original_81 : decode cX7_original 81 = .ok (.getfield 89, 3) := by decide +kernel
theorem dX7_original_84 : decode cX7_original 84 = .ok (.iconst (-1), 1) := by decide +kernel
theorem dX7_original_85 : decode cX7_original 85 = .ok (.iastore, 1) := by decide +kernel
theorem dX7_original_86 : decode cX7_original 86 = .ok (.aload_n 0, 1) := by decide +kernel
theorem dX7_original_87 : decode cX7_original 87 = .ok (.getfield 58, 3) := by decide +kernel
theorem dX7_original_90 : decode cX7_original 90 = .ok (.aload_n 0, 1) := by decide +kernel
theorem dX7_original_91 : decode cX7_original 91 = .ok (.getfield 89, 3) := by decide +kernel
theorem dX7_original_94 : decode cX7_original 94 = .ok (.iconst 0, 1) := by decide +kernel
theorem dX7_original_95 : decode cX7_original 95 = .ok (.iastore, 1) := by decide +kernel
theorem dX7_original_96 : decode cX7_original 96 = .ok (.aload_n 0, 1) := by decide +kernel
theorem dX7_original_97 : decode cX7_original 97 = .ok (.iconst 0, 1) := by decide +kernel
theorem dX7_original_98 : decode cX7_original 98 = .ok (.putfield 125, 3) := by decide +kernel
theorem dX7_original_101 : decode cX7_original 101 = .ok (.aload_n 0, 1) := by decide +kernel
theorem dX7_original_102 : decode cX7_original 102 = .ok (.dup, 1) := by decide +kernel
theorem dX7_original_103 : decode cX7_original 103 = .ok (.getfield 89, 3) := by decide +kernel
theorem dX7_original_106 : decode cX7_original 106 = .ok (.iconst 1, 1) := by decide +kernel
theorem dX7_original_107 : decode cX7_original 107 = .ok (.iadd, 1) := by decide +kernel
theorem dX7_original_108 : decode cX7_original 108 = .ok (.putfield 89, 3) := by decide +kernel
theorem dX7_original_111 : decode cX7_original 111 = .ok (.aload_n 0, 1) := by decide +kernel
theorem dX7_original_112 : decode cX7_original 112 = .ok (.getfield 89, 3) := by decide +kernel
theorem dX7_original_115 : decode cX7_original 115 = .ok (.iconst 1, 1) := by decide +kernel
theorem dX7_original_116 : decode cX7_original 116 = .ok (.isub, 1) := by decide +kernel
theorem dX7_original_117 : decode cX7_original 117 = .ok (.ireturn, 1) := by decide +kernel
theorem dX7_check_0 : decode cX7_check 0 = .ok (.aload_n 0, 1) := by decide +kernel
theorem dX7_check_1 : decode cX7_check 1 = .ok (.iconst 0, 1) := by decide +kernel
theorem dX7_check_2 : decode cX7_check 2 = .ok (.putfield 79, 3) := by decide +kernel
theorem dX7_check_5 : decode cX7_check 5 = .ok (.aload_n 0, 1) := by decide +kernel
theorem dX7_check_6 : decode cX7_check 6 = .ok (.iload_n 1, 1) := by decide +kernel
theorem dX7_check_7 : decode cX7_check 7 = .ok (.invokevirtual 128, 3) := by decide +kernel
theorem dX7_check_10 : decode cX7_check 10 = .ok (.ifCond .ne 5, 3) := by decide +kernel
theorem dX7_check_13 : decode cX7_check 13 = .ok (.iconst (-1), 1) := by decide +kernel
theorem dX7_check_14 : decode cX7_check 14 = .ok (.ireturn, 1) := by decide +kernel
theorem dX7_check_15 : decode cX7_check 15 = .ok (.iload_n 3, 1) := by decide +kernel
theorem dX7_check_16 : decode cX7_check 16 = .ok (.iconst 0, 1) := by decide +kernel
theorem dX7_check_17 : decode cX7_check 17 = .ok (.iconst 3, 1) := by decide +kernel
theorem dX7_check_18 : decode cX7_check 18 = .ok (.invokestatic 85, 3) := by decide +kernel
theorem dX7_check_21 : decode cX7_check 21 = .ok (.ifCond .eq 15, 3) := by decide +kernel
theorem dX7_check_24 : decode cX7_check 24 = .ok (.iload 4, 2) := by decide +kernel
theorem dX7_check_26 : decode cX7_check 26 = .ok (.iconst 0, 1) := by decide +kernel
theorem dX7_check_27 : decode cX7_check 27 = .ok (.sipush 255, 3) := by decide +kernel
theorem dX7_check_30 : decode cX7_check 30 = .ok (.invokestatic 85, 3) := by decide +kernel
theorem dX7_check_33 : decode cX7_check 33 = .ok (.ifCond .ne 6, 3) := by decide +kernel
theorem dX7_check_36 : decode cX7_check 36 = .ok (.bipush (-2), 2) := by decide +kernel
theorem dX7_check_38 : decode cX7_check 38 = .ok (.ireturn, 1) := by decide +kernel
theorem dX7_check_39 : decode cX7_check 39 = .ok (.iconst 2, 1) := by decide +kernel
theorem dX7_check_40 : decode cX7_check 40 = .ok (.iload_n 1, 1) := by decide +kernel
theorem dX7_check_41 : decode cX7_check 41 = .ok (.imul, 1) := by decide +kernel
theorem dX7_check_42 : decode cX7_check 42 = .ok (.iload_n 2, 1) := by decide +kernel
theorem dX7_check_43 : decode cX7_check 43 = .ok (.ifCond .eq 7, 3) := by decide +kernel
theorem dX7_check_46 : decode cX7_check 46 = .ok (.iconst 1, 1) := by decide +kernel
theorem dX7_check_47 : decode cX7_check 47 = .ok (.goto 4, 3) := by decide +kernel
theorem dX7_check_50 : decode cX7_check 50 = .ok (.iconst 0, 1) := by decide +kernel
theorem dX7_check_51 : decode cX7_check 51 = .ok (.iadd, 1) := by decide +kernel
theorem dX7_check_52 : decode cX7_check 52 = .ok (.istore 5, 2) := by decide +kernel
theorem dX7_check_54 : decode cX7_check 54 = .ok (.aload_n 0, 1) := by decide +kernel
theorem dX7_check_55 : decode cX7_check 55 = .ok (.getfield 30, 3) := by decide +kernel
theorem dX7_check_58 : decode cX7_check 58 = .ok (.iload 5, 2) := by decide +kernel
theorem dX7_check_60 : decode cX7_check 60 = .ok (.iaload, 1) := by decide +kernel
theorem dX7_check_61 : decode cX7_check 61 = .ok (.iconst 4, 1) := by decide +kernel
theorem dX7_check_62 : decode cX7_check 62 = .ok (.if_icmp .ne 6, 3) := by decide +kernel
theorem dX7_check_65 : decode cX7_check 65 = .ok (.bipush (-4), 2) := by decide +kernel
theorem dX7_check_67 : decode cX7_check 67 = .ok (.ireturn, 1) := by decide +kernel
theorem dX7_check_68 : decode cX7_check 68 = .ok (.aload_n 0, 1) := by decide +kernel
theorem dX7_check_69 : decode cX7_check 69 = .ok (.getfield 33, 3) := by decide +kernel
theorem dX7_check_72 : decode cX7_check 72 = .ok (.iconst 4, 1) := by decide +kernel
theorem dX7_check_73 : decode cX7_check 73 = .ok (.iload 5, 2) := by decide +kernel
theorem dX7_check_75 : decode cX7_check 75 = .ok (.imul, 1) := by decide +kernel
theorem dX7_check_76 : decode cX7_check 76 = .ok (.aload_n 0, 1) := by decide +kernel
theorem dX7_check_77 : decode cX7_check 77 = .ok (.getfield 30, 3) := by decide +kernel
theorem dX7_check_80 : decode cX7_check 80 = .ok (.iload 5, 2) := by decide +kernel
theorem dX7_check_82 : decode cX7_check 82 = .ok (.iaload, 1) := by decide +kernel
theorem dX7_check_83 : decode cX7_check 83 = .ok (.iadd, 1) := by decide +kernel
theorem dX7_check_84 : decode cX7_check 84 = .ok (.iload_n 3, 1) := by decide +kernel
theorem dX7_check_85 : decode cX7_check 85 = .ok (.iastore, 1) := by decide +kernel
theorem dX7_check_86 : decode cX7_check 86 = .ok (.aload_n 0, 1) := by decide +kernel
theorem dX7_check_87 : decode cX7_check 87 = .ok (.getfield 36, 3) := by decide +kernel
theorem dX7_check_90 : decode cX7_check 90 = .ok (.iconst 4, 1) := by decide +kernel
theorem dX7_check_91 : decode cX7_check 91 = .ok (.iload 5, 2) := by decide +kernel
theorem dX7_check_93 : decode cX7_check 93 = .ok (.imul, 1) := by decide +kernel
theorem dX7_check_94 : decode cX7_check 94 = .ok (.aload_n 0, 1) := by decide +kernel
theorem dX7_check_95 : decode cX7_check 95 = .ok (.getfield 30, 3) := by decide +kernel
theorem dX7_check_98 : decode cX7_check 98 = .ok (.iload 5, 2) := by decide +kernel
theorem dX7_check_100 : decode cX7_check 100 = .ok (.iaload, 1) := by decide +kernel
theorem dX7_check_101 : decode cX7_check 101 = .ok (.iadd, 1) := by decide +kernel
theorem dX7_check_102 : decode cX7_check 102 = .ok (.iload 4, 2) := by decide +kernel
theorem dX7_check_104 : decode cX7_check 104 = .ok (.iastore, 1) := by decide +kernel
theorem dX7_check_105 : decode cX7_check 105 = .ok (.aload_n 0, 1) := by decide +kernel
theorem dX7_check_106 : decode cX7_check 106 = .ok (.getfield 30, 3) := by decide +kernel
theorem dX7_check_109 : decode cX7_check 109 = .ok (.iload 5, 2) := by decide +kernel
theorem dX7_check_111 : decode cX7_check 111 = .ok (.dup2, 1) := by decide +kernel
theorem dX7_check_112 : decode cX7_check 112 = .ok (.iaload, 1) := by decide +kernel
theorem dX7_check_113 : decode cX7_check 113 = .ok (.iconst 1, 1) := by decide +kernel
theorem dX7_check_114 : decode cX7_check 114 = .ok (.iadd, 1) := by decide +kernel
theorem dX7_check_115 : decode cX7_check 115 = .ok (.iastore, 1) := by decide +kernel
theorem dX7_check_116 : decode cX7_check 116 = .ok (.aload_n 0, 1) := by decide +kernel
theorem dX7_check_117 : decode cX7_check 117 = .ok (.getfield 30, 3) := by decide +kernel
theorem dX7_check_120 : decode cX7_check 120 = .ok (.iload 5, 2) := by decide +kernel
theorem dX7_check_122 : decode cX7_check 122 = .ok (.iaload, 1) := by decide +kernel
theorem dX7_check_123 : decode cX7_check 123 = .ok (.ireturn, 1) := by decide +kernel
theorem dX7_holds_0 : decode cX7_holds 0 = .ok (.iload_n 0, 1) := by decide +kernel
theorem dX7_holds_1 : decode cX7_holds 1 = .ok (.tableswitch 64 0 2 #[27, 38, 49], 27) := by decide +kernel
theorem dX7_holds_28 : decode cX7_holds 28 = .ok (.iload_n 2, 1) := by decide +kernel
theorem dX7_holds_29 : decode cX7_holds 29 = .ok (.iload_n 1, 1) := by decide +kernel
theorem dX7_holds_30 : decode cX7_holds 30 = .ok (.if_icmp .lt 7, 3) := by decide +kernel
theorem dX7_holds_33 : decode cX7_holds 33 = .ok (.iconst 1, 1) := by decide +kernel
theorem dX7_holds_34 : decode cX7_holds 34 = .ok (.goto 4, 3) := by decide +kernel
theorem dX7_holds_37 : decode cX7_holds 37 = .ok (.iconst 0, 1) := by decide +kernel
theorem dX7_holds_38 : decode cX7_holds 38 = .ok (.ireturn, 1) := by decide +kernel
theorem dX7_holds_39 : decode cX7_holds 39 = .ok (.iload_n 2, 1) := by decide +kernel
theorem dX7_holds_40 : decode cX7_holds 40 = .ok (.iload_n 1, 1) := by decide +kernel
theorem dX7_holds_41 : decode cX7_holds 41 = .ok (.if_icmp .gt 7, 3) := by decide +kernel
theorem dX7_holds_44 : decode cX7_holds 44 = .ok (.iconst 1, 1) := by decide +kernel
theorem dX7_holds_45 : decode cX7_holds 45 = .ok (.goto 4, 3) := by decide +kernel
theorem dX7_holds_48 : decode cX7_holds 48 = .ok (.iconst 0, 1) := by decide +kernel
theorem dX7_holds_49 : decode cX7_holds 49 = .ok (.ireturn, 1) := by decide +kernel
theorem dX7_holds_50 : decode cX7_holds 50 = .ok (.iload_n 2, 1) := by decide +kernel
theorem dX7_holds_51 : decode cX7_holds 51 = .ok (.ifCond .le 12, 3) := by decide +kernel
theorem dX7_holds_54 : decode cX7_holds 54 = .ok (.iload_n 3, 1) := by decide +kernel
theorem dX7_holds_55 : decode cX7_holds 55 = .ok (.iload_n 1, 1) := by decide +kernel
theorem dX7_holds_56 : decode cX7_holds 56 = .ok (.if_icmp .ne 7, 3) := by decide +kernel
theorem dX7_holds_59 : decode cX7_holds 59 = .ok (.iconst 1, 1) := by decide +kernel
theorem dX7_holds_60 : decode cX7_holds 60 = .ok (.goto 4, 3) := by decide +kernel
theorem dX7_holds_63 : decode cX7_holds 63 = .ok (.iconst 0, 1) := by decide +kernel
theorem dX7_holds_64 : decode cX7_holds 64 = .ok (.ireturn, 1) := by decide +kernel
theorem dX7_holds_65 : decode cX7_holds 65 = .ok (.iload 4, 2) := by decide +kernel
theorem dX7_holds_67 : decode cX7_holds 67 = .ok (.sipush 256, 3) := by decide +kernel
theorem dX7_holds_70 : decode cX7_holds 70 = .ok (.irem, 1) := by decide +kernel
theorem dX7_holds_71 : decode cX7_holds 71 = .ok (.iload_n 1, 1) := by decide +kernel
theorem dX7_holds_72 : decode cX7_holds 72 = .ok (.if_icmp .ne 7, 3) := by decide +kernel
theorem dX7_holds_75 : decode cX7_holds 75 = .ok (.iconst 1, 1) := by decide +kernel
theorem dX7_holds_76 : decode cX7_holds 76 = .ok (.goto 4, 3) := by decide +kernel
theorem dX7_holds_79 : decode cX7_holds 79 = .ok (.iconst 0, 1) := by decide +kernel
theorem dX7_holds_80 : decode cX7_holds 80 = .ok (.ireturn, 1) := by decide +kernel
theorem dX7_allHold_0 : decode cX7_allHold 0 = .ok (.iload_n 2, 1) := by decide +kernel
theorem dX7_allHold_1 : decode cX7_allHold 1 = .ok (.ifCond .ge 10, 3) := by decide +kernel
theorem dX7_allHold_4 : decode cX7_allHold 4 = .ok (.aload_n 0, 1) := by decide +kernel
theorem dX7_allHold_5 : decode cX7_allHold 5 = .ok (.getfield 113, 3) := by decide +kernel
theorem dX7_allHold_8 : decode cX7_allHold 8 = .ok (.goto 9, 3) := by decide +kernel
theorem dX7_allHold_11 : decode cX7_allHold 11 = .ok (.aload_n 0, 1) := by decide +kernel
theorem dX7_allHold_12 : decode cX7_allHold 12 = .ok (.getfield 42, 3) := by decide +kernel
theorem dX7_allHold_15 : decode cX7_allHold 15 = .ok (.iload_n 2, 1) := by decide +kernel
theorem dX7_allHold_16 : decode cX7_allHold 16 = .ok (.iaload, 1) := by decide +kernel
theorem dX7_allHold_17 : decode cX7_allHold 17 = .ok (.istore_n 3, 1) := by decide +kernel
theorem dX7_allHold_18 : decode cX7_allHold 18 = .ok (.iconst 0, 1) := by decide +kernel
theorem dX7_allHold_19 : decode cX7_allHold 19 = .ok (.istore 4, 2) := by decide +kernel
theorem dX7_allHold_21 : decode cX7_allHold 21 = .ok (.iconst 0, 1) := by decide +kernel
theorem dX7_allHold_22 : decode cX7_allHold 22 = .ok (.istore 5, 2) := by decide +kernel
theorem dX7_allHold_24 : decode cX7_allHold 24 = .ok (.iload_n 3, 1) := by decide +kernel
theorem dX7_allHold_25 : decode cX7_allHold 25 = .ok (.iconst 1, 1) := by decide +kernel
theorem dX7_allHold_26 : decode cX7_allHold 26 = .ok (.isub, 1) := by decide +kernel
theorem dX7_allHold_27 : decode cX7_allHold 27 = .ok (.istore 6, 2) := by decide +kernel
theorem dX7_allHold_29 : decode cX7_allHold 29 = .ok (.iload 6, 2) := by decide +kernel
theorem dX7_allHold_31 : decode cX7_allHold 31 = .ok (.ifCond .lt 48, 3) := by decide +kernel
theorem dX7_allHold_34 : decode cX7_allHold 34 = .ok (.iload_n 2, 1) := by decide +kernel
theorem dX7_allHold_35 : decode cX7_allHold 35 = .ok (.ifCond .ge 13, 3) := by decide +kernel
theorem dX7_allHold_38 : decode cX7_allHold 38 = .ok (.aload_n 0, 1) := by decide +kernel
theorem dX7_allHold_39 : decode cX7_allHold 39 = .ok (.getfield 67, 3) := by decide +kernel
theorem dX7_allHold_42 : decode cX7_allHold 42 = .ok (.iload 6, 2) := by decide +kernel
theorem dX7_allHold_44 : decode cX7_allHold 44 = .ok (.baload, 1) := by decide +kernel
theorem dX7_allHold_45 : decode cX7_allHold 45 = .ok (.goto 15, 3) := by decide +kernel
theorem dX7_allHold_48 : decode cX7_allHold 48 = .ok (.aload_n 0, 1) := by decide +kernel
theorem dX7_allHold_49 : decode cX7_allHold 49 = .ok (.getfield 45, 3) := by decide +kernel
theorem dX7_allHold_52 : decode cX7_allHold 52 = .ok (.bipush 40, 2) := by decide +kernel
theorem dX7_allHold_54 : decode cX7_allHold 54 = .ok (.iload_n 2, 1) := by decide +kernel
theorem dX7_allHold_55 : decode cX7_allHold 55 = .ok (.imul, 1) := by decide +kernel
theorem dX7_allHold_56 : decode cX7_allHold 56 = .ok (.iload 6, 2) := by decide +kernel
theorem dX7_allHold_58 : decode cX7_allHold 58 = .ok (.iadd, 1) := by decide +kernel
theorem dX7_allHold_59 : decode cX7_allHold 59 = .ok (.baload, 1) := by decide +kernel
theorem dX7_allHold_60 : decode cX7_allHold 60 = .ok (.sipush 255, 3) := by decide +kernel
theorem dX7_allHold_63 : decode cX7_allHold 63 = .ok (.iand, 1) := by decide +kernel
theorem dX7_allHold_64 : decode cX7_allHold 64 = .ok (.istore 5, 2) := by decide +kernel
theorem dX7_allHold_66 : decode cX7_allHold 66 = .ok (.iload 4, 2) := by decide +kernel
theorem dX7_allHold_68 : decode cX7_allHold 68 = .ok (.iload 5, 2) := by decide +kernel
theorem dX7_allHold_70 : decode cX7_allHold 70 = .ok (.iadd, 1) := by decide +kernel
theorem dX7_allHold_71 : decode cX7_allHold 71 = .ok (.istore 4, 2) := by decide +kernel
theorem dX7_allHold_73 : decode cX7_allHold 73 = .ok (.iinc 6 (-1), 3) := by decide +kernel
theorem dX7_allHold_76 : decode cX7_allHold 76 = .ok (.goto (-47), 3) := by decide +kernel
theorem dX7_allHold_79 : decode cX7_allHold 79 = .ok (.iconst 1, 1) := by decide +kernel
theorem dX7_allHold_80 : decode cX7_allHold 80 = .ok (.istore 6, 2) := by decide +kernel
theorem dX7_allHold_82 : decode cX7_allHold 82 = .ok (.iconst 4, 1) := by decide +kernel
theorem dX7_allHold_83 : decode cX7_allHold 83 = .ok (.iload_n 1, 1) := by decide +kernel
theorem dX7_allHold_84 : decode cX7_allHold 84 = .ok (.imul, 1) := by decide +kernel
theorem dX7_allHold_85 : decode cX7_allHold 85 = .ok (.istore 7, 2) := by decide +kernel
theorem dX7_allHold_87 : decode cX7_allHold 87 = .ok (.iload 7, 2) := by decide +kernel
theorem dX7_allHold_89 : decode cX7_allHold 89 = .ok (.iconst 4, 1) := by decide +kernel
theorem dX7_allHold_90 : decode cX7_allHold 90 = .ok (.iload_n 1, 1) := by decide +kernel
theorem dX7_allHold_91 : decode cX7_allHold 91 = .ok (.imul, 1) := by decide +kernel
theorem dX7_allHold_92 : decode cX7_allHold 92 = .ok (.aload_n 0, 1) := by decide +kernel
theorem dX7_allHold_93 : decode cX7_allHold 93 = .ok (.getfield 30, 3) := by decide +kernel
theorem dX7_allHold_96 : decode cX7_allHold 96 = .ok (.iload_n 1, 1) := by decide +kernel
theorem dX7_allHold_97 : decode cX7_allHold 97 = .ok (.iaload, 1) := by decide +kernel
theorem dX7_allHold_98 : decode cX7_allHold 98 = .ok (.iadd, 1) := by decide +kernel
theorem dX7_allHold_99 : decode cX7_allHold 99 = .ok (.if_icmp .ge 46, 3) := by decide +kernel
theorem dX7_allHold_102 : decode cX7_allHold 102 = .ok (.iload 6, 2) := by decide +kernel
theorem dX7_allHold_104 : decode cX7_allHold 104 = .ok (.ifCond .eq 32, 3) := by decide +kernel
theorem dX7_allHold_107 : decode cX7_allHold 107 = .ok (.aload_n 0, 1) := by decide +kernel
theorem dX7_allHold_108 : decode cX7_allHold 108 = .ok (.getfield 33, 3) := by decide +kernel
theorem dX7_allHold_111 : decode cX7_allHold 111 = .ok (.iload 7, 2) := by decide +kernel
theorem dX7_allHold_113 : decode cX7_allHold 113 = .ok (.iaload, 1) := by decide +kernel
theorem dX7_allHold_114 : decode cX7_allHold 114 = .ok (.aload_n 0, 1) := by decide +kernel
theorem dX7_allHold_115 : decode cX7_allHold 115 = .ok (.getfield 36, 3) := by decide +kernel
theorem dX7_allHold_118 : decode cX7_allHold 118 = .ok (.iload 7, 2) := by decide +kernel
theorem dX7_allHold_120 : decode cX7_allHold 120 = .ok (.iaload, 1) := by decide +kernel
theorem dX7_allHold_121 : decode cX7_allHold 121 = .ok (.iload_n 3, 1) := by decide +kernel
theorem dX7_allHold_122 : decode cX7_allHold 122 = .ok (.iload 5, 2) := by decide +kernel
theorem dX7_allHold_124 : decode cX7_allHold 124 = .ok (.iload 4, 2) := by decide +kernel
theorem dX7_allHold_126 : decode cX7_allHold 126 = .ok (.invokestatic 131, 3) := by decide +kernel
theorem dX7_allHold_129 : decode cX7_allHold 129 = .ok (.ifCond .eq 7, 3) := by decide +kernel
theorem dX7_allHold_132 : decode cX7_allHold 132 = .ok (.iconst 1, 1) := by decide +kernel
theorem dX7_allHold_133 : decode cX7_allHold 133 = .ok (.goto 4, 3) := by decide +kernel
theorem dX7_allHold_136 : decode cX7_allHold 136 = .ok (.iconst 0, 1) := by decide +kernel
theorem dX7_allHold_137 : decode cX7_allHold 137 = .ok (.istore 6, 2) := by decide +kernel
theorem dX7_allHold_139 : decode cX7_allHold 139 = .ok (.iinc 7 1, 3) := by decide +kernel
theorem dX7_allHold_142 : decode cX7_allHold 142 = .ok (.goto (-55), 3) := by decide +kernel
theorem dX7_allHold_145 : decode cX7_allHold 145 = .ok (.iload 6, 2) := by decide +kernel
theorem dX7_allHold_147 : decode cX7_allHold 147 = .ok (.ireturn, 1) := by decide +kernel
theorem dX7_hasDerived_0 : decode cX7_hasDerived 0 = .ok (.iconst 0, 1) := by decide +kernel
theorem dX7_hasDerived_1 : decode cX7_hasDerived 1 = .ok (.istore_n 3, 1) := by decide +kernel
theorem dX7_hasDerived_2 : decode cX7_hasDerived 2 = .ok (.iconst 0, 1) := by decide +kernel
theorem dX7_hasDerived_3 : decode cX7_hasDerived 3 = .ok (.istore 4, 2) := by decide +kernel
theorem dX7_hasDerived_5 : decode cX7_hasDerived 5 = .ok (.iload 4, 2) := by decide +kernel
theorem dX7_hasDerived_7 : decode cX7_hasDerived 7 = .ok (.aload_n 0, 1) := by decide +kernel
theorem dX7_hasDerived_8 : decode cX7_hasDerived 8 = .ok (.getfield 89, 3) := by decide +kernel
theorem dX7_hasDerived_11 : decode cX7_hasDerived 11 = .ok (.if_icmp .ge 55, 3) := by decide +kernel
theorem dX7_hasDerived_14 : decode cX7_hasDerived 14 = .ok (.iload_n 3, 1) := by decide +kernel
theorem dX7_hasDerived_15 : decode cX7_hasDerived 15 = .ok (.ifCond .ne 39, 3) := by decide +kernel
theorem dX7_hasDerived_18 : decode cX7_hasDerived 18 = .ok (.aload_n 0, 1) := by decide +kernel
theorem dX7_hasDerived_19 : decode cX7_hasDerived 19 = .ok (.getfield 54, 3) := by decide +kernel
theorem dX7_hasDerived_22 : decode cX7_hasDerived 22 = .ok (.iload 4, 2) := by decide +kernel
theorem dX7_hasDerived_24 : decode cX7_hasDerived 24 = .ok (.baload, 1) := by decide +kernel
theorem dX7_hasDerived_25 : decode cX7_hasDerived 25 = .ok (.ifCond .ne 33, 3) := by decide +kernel
theorem dX7_hasDerived_28 : decode cX7_hasDerived 28 = .ok (.aload_n 0, 1) := by decide +kernel
theorem dX7_hasDerived_29 : decode cX7_hasDerived 29 = .ok (.getfield 48, 3) := by decide +kernel
theorem dX7_hasDerived_32 : decode cX7_hasDerived 32 = .ok (.iload 4, 2) := by decide +kernel
theorem dX7_hasDerived_34 : decode cX7_hasDerived 34 = .ok (.iaload, 1) := by decide +kernel
theorem dX7_hasDerived_35 : decode cX7_hasDerived 35 = .ok (.iload_n 1, 1) := by decide +kernel
theorem dX7_hasDerived_36 : decode cX7_hasDerived 36 = .ok (.if_icmp .ne 22, 3) := by decide +kernel
theorem dX7_hasDerived_39 : decode cX7_hasDerived 39 = .ok (.iload_n 2, 1) := by decide +kernel
theorem dX7_hasDerived_40 : decode cX7_hasDerived 40 = .ok (.ifCond .lt 14, 3) := by decide +kernel
theorem dX7_hasDerived_43 : decode cX7_hasDerived 43 = .ok (.aload_n 0, 1) := by decide +kernel
theorem dX7_hasDerived_44 : decode cX7_hasDerived 44 = .ok (.getfield 51, 3) := by decide +kernel
theorem dX7_hasDerived_47 : decode cX7_hasDerived 47 = .ok (.iload 4, 2) := by decide +kernel
theorem dX7_hasDerived_49 : decode cX7_hasDerived 49 = .ok (.iaload, 1) := by decide +kernel
theorem dX7_hasDerived_50 : decode cX7_hasDerived 50 = .ok (.iload_n 2, 1) := by decide +kernel
theorem dX7_hasDerived_51 : decode cX7_hasDerived 51 = .ok (.if_icmp .ne 7, 3) := by decide +kernel
theorem dX7_hasDerived_54 : decode cX7_hasDerived 54 = .ok (.iconst 1, 1) := by decide +kernel
theorem dX7_hasDerived_55 : decode cX7_hasDerived 55 = .ok (.goto 4, 3) := by decide +kernel
theorem dX7_hasDerived_58 : decode cX7_hasDerived 58 = .ok (.iconst 0, 1) := by decide +kernel
theorem dX7_hasDerived_59 : decode cX7_hasDerived 59 = .ok (.istore_n 3, 1) := by decide +kernel
theorem dX7_hasDerived_60 : decode cX7_hasDerived 60 = .ok (.iinc 4 1, 3) := by decide +kernel
theorem dX7_hasDerived_63 : decode cX7_hasDerived 63 = .ok (.goto (-58), 3) := by decide +kernel
theorem dX7_hasDerived_66 : decode cX7_hasDerived 66 = .ok (.iload_n 3, 1) := by decide +kernel
theorem dX7_hasDerived_67 : decode cX7_hasDerived 67 = .ok (.ireturn, 1) := by decide +kernel
theorem dX7_derive_0 : decode cX7_derive 0 = .ok (.aload_n 0, 1) := by decide +kernel
theorem dX7_derive_1 : decode cX7_derive 1 = .ok (.iload_n 1, 1) := by decide +kernel
theorem dX7_derive_2 : decode cX7_derive 2 = .ok (.iload_n 2, 1) := by decide +kernel
theorem dX7_derive_3 : decode cX7_derive 3 = .ok (.invokevirtual 135, 3) := by decide +kernel
theorem dX7_derive_6 : decode cX7_derive 6 = .ok (.ifCond .eq 6, 3) := by decide +kernel
theorem dX7_derive_9 : decode cX7_derive 9 = .ok (.bipush (-11), 2) := by decide +kernel
theorem dX7_derive_11 : decode cX7_derive 11 = .ok (.ireturn, 1) := by decide +kernel
theorem dX7_derive_12 : decode cX7_derive 12 = .ok (.aload_n 0, 1) := by decide +kernel
theorem dX7_derive_13 : decode cX7_derive 13 = .ok (.iconst 2, 1) := by decide +kernel
theorem dX7_derive_14 : decode cX7_derive 14 = .ok (.iload_n 2, 1) := by decide +kernel
theorem dX7_derive_15 : decode cX7_derive 15 = .ok (.imul, 1) := by decide +kernel
theorem dX7_derive_16 : decode cX7_derive 16 = .ok (.iload_n 1, 1) := by decide +kernel
theorem dX7_derive_17 : decode cX7_derive 17 = .ok (.invokevirtual 139, 3) := by decide +kernel
theorem dX7_derive_20 : decode cX7_derive 20 = .ok (.ifCond .ne 6, 3) := by decide +kernel
theorem dX7_derive_23 : decode cX7_derive 23 = .ok (.bipush (-12), 2) := by decide +kernel
theorem dX7_derive_25 : decode cX7_derive 25 = .ok (.ireturn, 1) := by decide +kernel
theorem dX7_derive_26 : decode cX7_derive 26 = .ok (.aload_n 0, 1) := by decide +kernel
theorem dX7_derive_27 : decode cX7_derive 27 = .ok (.iload_n 2, 1) := by decide +kernel
theorem dX7_derive_28 : decode cX7_derive 28 = .ok (.iload_n 1, 1) := by decide +kernel
theorem dX7_derive_29 : decode cX7_derive 29 = .ok (.invokevirtual 142, 3) := by decide +kernel
theorem dX7_derive_32 : decode cX7_derive 32 = .ok (.istore_n 3, 1) := by decide +kernel
theorem dX7_derive_33 : decode cX7_derive 33 = .ok (.iload_n 3, 1) := by decide +kernel
theorem dX7_derive_34 : decode cX7_derive 34 = .ok (.ifCond .le 8, 3) := by decide +kernel
theorem dX7_derive_37 : decode cX7_derive 37 = .ok (.bipush (-12), 2) := by decide +kernel
theorem dX7_derive_39 : decode cX7_derive 39 = .ok (.iload_n 3, 1) := by decide +kernel
theorem dX7_derive_40 : decode cX7_derive 40 = .ok (.isub, 1) := by decide +kernel
theorem dX7_derive_41 : decode cX7_derive 41 = .ok (.ireturn, 1) := by decide +kernel
theorem dX7_derive_42 : decode cX7_derive 42 = .ok (.aload_n 0, 1) := by decide +kernel
theorem dX7_derive_43 : decode cX7_derive 43 = .ok (.iconst 2, 1) := by decide +kernel
theorem dX7_derive_44 : decode cX7_derive 44 = .ok (.iload_n 2, 1) := by decide +kernel
theorem dX7_derive_45 : decode cX7_derive 45 = .ok (.imul, 1) := by decide +kernel
theorem dX7_derive_46 : decode cX7_derive 46 = .ok (.iconst 1, 1) := by decide +kernel
theorem dX7_derive_47 : decode cX7_derive 47 = .ok (.iadd, 1) := by decide +kernel
theorem dX7_derive_48 : decode cX7_derive 48 = .ok (.iconst (-1), 1) := by decide +kernel
theorem dX7_derive_49 : decode cX7_derive 49 = .ok (.invokevirtual 139, 3) := by decide +kernel
theorem dX7_derive_52 : decode cX7_derive 52 = .ok (.ifCond .ne 6, 3) := by decide +kernel
theorem dX7_derive_55 : decode cX7_derive 55 = .ok (.bipush (-17), 2) := by decide +kernel
theorem dX7_derive_57 : decode cX7_derive 57 = .ok (.ireturn, 1) := by decide +kernel
theorem dX7_derive_58 : decode cX7_derive 58 = .ok (.aload_n 0, 1) := by decide +kernel
theorem dX7_derive_59 : decode cX7_derive 59 = .ok (.getfield 89, 3) := by decide +kernel
theorem dX7_derive_62 : decode cX7_derive 62 = .ok (.bipush 60, 2) := by decide +kernel
theorem dX7_derive_64 : decode cX7_derive 64 = .ok (.if_icmp .ne 6, 3) := by decide +kernel
theorem dX7_derive_67 : decode cX7_derive 67 = .ok (.bipush (-4), 2) := by decide +kernel
theorem dX7_derive_69 : decode cX7_derive 69 = .ok (.ireturn, 1) := by decide +kernel
theorem dX7_derive_70 : decode cX7_derive 70 = .ok (.aload_n 0, 1) := by decide +kernel
theorem dX7_derive_71 : decode cX7_derive 71 = .ok (.getfield 42, 3) := by decide +kernel
theorem dX7_derive_74 : decode cX7_derive 74 = .ok (.aload_n 0, 1) := by decide +kernel
theorem dX7_derive_75 : decode cX7_derive 75 = .ok (.getfield 89, 3) := by decide +kernel
theorem dX7_derive_78 : decode cX7_derive 78 = .ok (.aload_n 0, 1) := by decide +kernel
theorem dX7_derive_79 : decode cX7_derive 79 = .ok (.getfield 113, 3) := by decide +kernel
theorem dX7_derive_82 : decode cX7_derive 82 = .ok (.iastore, 1) := by decide +kernel
theorem dX7_derive_83 : decode cX7_derive 83 = .ok (.iconst 0, 1) := by decide +kernel
theorem dX7_derive_84 : decode cX7_derive 84 = .ok (.istore 4, 2) := by decide +kernel
theorem dX7_derive_86 : decode cX7_derive 86 = .ok (.iload 4, 2) := by decide +kernel
theorem dX7_derive_88 : decode cX7_derive 88 = .ok (.aload_n 0, 1) := by decide +kernel
theorem dX7_derive_89 : decode cX7_derive 89 = .ok (.getfield 113, 3) := by decide +kernel
theorem dX7_derive_92 : decode cX7_derive 92 = .ok (.if_icmp .ge 31, 3) := by decide +kernel
theorem dX7_derive_95 : decode cX7_derive 95 = .ok (.aload_n 0, 1) := by decide +kernel
theorem dX7_derive_96 : decode cX7_derive 96 = .ok (.getfield 45, 3) := by decide +kernel
theorem dX7_derive_99 : decode cX7_derive 99 = .ok (.bipush 40, 2) := by decide +kernel
theorem dX7_derive_101 : decode cX7_derive 101 = .ok (.aload_n 0, 1) := by decide +kernel
theorem dX7_derive_102 : decode cX7_derive 102 = .ok (.getfield 89, 3) := by decide +kernel
theorem dX7_derive_105 : decode cX7_derive 105 = .ok (.imul, 1) := by decide +kernel
theorem dX7_derive_106 : decode cX7_derive 106 = .ok (.iload 4, 2) := by decide +kernel
theorem dX7_derive_108 : decode cX7_derive 108 = .ok (.iadd, 1) := by decide +kernel
theorem dX7_derive_109 : decode cX7_derive 109 = .ok (.aload_n 0, 1) := by decide +kernel
theorem dX7_derive_110 : decode cX7_derive 110 = .ok (.getfield 67, 3) := by decide +kernel
theorem dX7_derive_113 : decode cX7_derive 113 = .ok (.iload 4, 2) := by decide +kernel
theorem dX7_derive_115 : decode cX7_derive 115 = .ok (.baload, 1) := by decide +kernel
theorem dX7_derive_116 : decode cX7_derive 116 = .ok (.bastore, 1) := by decide +kernel
theorem dX7_derive_117 : decode cX7_derive 117 = .ok (.iinc 4 1, 3) := by decide +kernel
theorem dX7_derive_120 : decode cX7_derive 120 = .ok (.goto (-34), 3) := by decide +kernel
theorem dX7_derive_123 : decode cX7_derive 123 = .ok (.aload_n 0, 1) := by decide +kernel
theorem dX7_derive_124 : decode cX7_derive 124 = .ok (.getfield 48, 3) := by decide +kernel
theorem dX7_derive_127 : decode cX7_derive 127 = .ok (.aload_n 0, 1) := by decide +kernel
theorem dX7_derive_128 : decode cX7_derive 128 = .ok (.getfield 89, 3) := by decide +kernel
theorem dX7_derive_131 : decode cX7_derive 131 = .ok (.iload_n 1, 1) := by decide +kernel
theorem dX7_derive_132 : decode cX7_derive 132 = .ok (.iastore, 1) := by decide +kernel
theorem dX7_derive_133 : decode cX7_derive 133 = .ok (.aload_n 0, 1) := by decide +kernel
theorem dX7_derive_134 : decode cX7_derive 134 = .ok (.getfield 51, 3) := by decide +kernel
theorem dX7_derive_137 : decode cX7_derive 137 = .ok (.aload_n 0, 1) := by decide +kernel
theorem dX7_derive_138 : decode cX7_derive 138 = .ok (.getfield 89, 3) := by decide +kernel
theorem dX7_derive_141 : decode cX7_derive 141 = .ok (.iload_n 2, 1) := by decide +kernel
theorem dX7_derive_142 : decode cX7_derive 142 = .ok (.iastore, 1) := by decide +kernel
theorem dX7_derive_143 : decode cX7_derive 143 = .ok (.aload_n 0, 1) := by decide +kernel
theorem dX7_derive_144 : decode cX7_derive 144 = .ok (.getfield 58, 3) := by decide +kernel
theorem dX7_derive_147 : decode cX7_derive 147 = .ok (.aload_n 0, 1) := by decide +kernel
theorem dX7_derive_148 : decode cX7_derive 148 = .ok (.getfield 89, 3) := by decide +kernel
theorem dX7_derive_151 : decode cX7_derive 151 = .ok (.iconst 0, 1) := by decide +kernel
theorem dX7_derive_152 : decode cX7_derive 152 = .ok (.iastore, 1) := by decide +kernel
theorem dX7_derive_153 : decode cX7_derive 153 = .ok (.aload_n 0, 1) := by decide +kernel
theorem dX7_derive_154 : decode cX7_derive 154 = .ok (.dup, 1) := by decide +kernel
theorem dX7_derive_155 : decode cX7_derive 155 = .ok (.getfield 89, 3) := by decide +kernel
theorem dX7_derive_158 : decode cX7_derive 158 = .ok (.iconst 1, 1) := by decide +kernel
theorem dX7_derive_159 : decode cX7_derive 159 = .ok (.iadd, 1) := by decide +kernel
theorem dX7_derive_160 : decode cX7_derive 160 = .ok (.putfield 89, 3) := by decide +kernel
theorem dX7_derive_163 : decode cX7_derive 163 = .ok (.aload_n 0, 1) := by decide +kernel
theorem dX7_derive_164 : decode cX7_derive 164 = .ok (.getfield 89, 3) := by decide +kernel
theorem dX7_derive_167 : decode cX7_derive 167 = .ok (.iconst 1, 1) := by decide +kernel
theorem dX7_derive_168 : decode cX7_derive 168 = .ok (.isub, 1) := by decide +kernel
theorem dX7_derive_169 : decode cX7_derive 169 = .ok (.ireturn, 1) := by decide +kernel
theorem dX7_can_0 : decode cX7_can 0 = .ok (.aload_n 0, 1) := by decide +kernel
theorem dX7_can_1 : decode cX7_can 1 = .ok (.iload_n 1, 1) := by decide +kernel
theorem dX7_can_2 : decode cX7_can 2 = .ok (.invokevirtual 146, 3) := by decide +kernel
theorem dX7_can_5 : decode cX7_can 5 = .ok (.ifCond .eq 24, 3) := by decide +kernel
theorem dX7_can_8 : decode cX7_can 8 = .ok (.aload_n 0, 1) := by decide +kernel
theorem dX7_can_9 : decode cX7_can 9 = .ok (.getfield 54, 3) := by decide +kernel
theorem dX7_can_12 : decode cX7_can 12 = .ok (.iload_n 1, 1) := by decide +kernel
theorem dX7_can_13 : decode cX7_can 13 = .ok (.baload, 1) := by decide +kernel
theorem dX7_can_14 : decode cX7_can 14 = .ok (.ifCond .ne 15, 3) := by decide +kernel
theorem dX7_can_17 : decode cX7_can 17 = .ok (.aload_n 0, 1) := by decide +kernel
theorem dX7_can_18 : decode cX7_can 18 = .ok (.iload_n 2, 1) := by decide +kernel
theorem dX7_can_19 : decode cX7_can 19 = .ok (.invokevirtual 128, 3) := by decide +kernel
theorem dX7_can_22 : decode cX7_can 22 = .ok (.ifCond .eq 7, 3) := by decide +kernel
theorem dX7_can_25 : decode cX7_can 25 = .ok (.iconst 1, 1) := by decide +kernel
theorem dX7_can_26 : decode cX7_can 26 = .ok (.goto 4, 3) := by decide +kernel
theorem dX7_can_29 : decode cX7_can 29 = .ok (.iconst 0, 1) := by decide +kernel
theorem dX7_can_30 : decode cX7_can 30 = .ok (.ireturn, 1) := by decide +kernel
theorem dX7_migrate_0 : decode cX7_migrate 0 = .ok (.aload_n 0, 1) := by decide +kernel
theorem dX7_migrate_1 : decode cX7_migrate 1 = .ok (.iconst 0, 1) := by decide +kernel
theorem dX7_migrate_2 : decode cX7_migrate 2 = .ok (.putfield 79, 3) := by decide +kernel
theorem dX7_migrate_5 : decode cX7_migrate 5 = .ok (.aload_n 0, 1) := by decide +kernel
theorem dX7_migrate_6 : decode cX7_migrate 6 = .ok (.iload_n 1, 1) := by decide +kernel
theorem dX7_migrate_7 : decode cX7_migrate 7 = .ok (.iload_n 2, 1) := by decide +kernel
theorem dX7_migrate_8 : decode cX7_migrate 8 = .ok (.invokevirtual 149, 3) := by decide +kernel
theorem dX7_migrate_11 : decode cX7_migrate 11 = .ok (.ifCond .ne 5, 3) := by decide +kernel
theorem dX7_migrate_14 : decode cX7_migrate 14 = .ok (.iconst (-1), 1) := by decide +kernel
theorem dX7_migrate_15 : decode cX7_migrate 15 = .ok (.ireturn, 1) := by decide +kernel
theorem dX7_migrate_16 : decode cX7_migrate 16 = .ok (.aload_n 0, 1) := by decide +kernel
theorem dX7_migrate_17 : decode cX7_migrate 17 = .ok (.iload_n 1, 1) := by decide +kernel
theorem dX7_migrate_18 : decode cX7_migrate 18 = .ok (.iload_n 2, 1) := by decide +kernel
theorem dX7_migrate_19 : decode cX7_migrate 19 = .ok (.invokevirtual 152, 3) := by decide +kernel
theorem dX7_migrate_22 : decode cX7_migrate 22 = .ok (.istore_n 3, 1) := by decide +kernel
theorem dX7_migrate_23 : decode cX7_migrate 23 = .ok (.aload_n 0, 1) := by decide +kernel
theorem dX7_migrate_24 : decode cX7_migrate 24 = .ok (.iload_n 3, 1) := by decide +kernel
theorem dX7_migrate_25 : decode cX7_migrate 25 = .ok (.ifCond .ge 7, 3) := by decide +kernel
theorem dX7_migrate_28 : decode cX7_migrate 28 = .ok (.iload_n 3, 1) := by decide +kernel
theorem dX7_migrate_29 : decode cX7_migrate 29 = .ok (.goto 4, 3) := by decide +kernel
theorem dX7_migrate_32 : decode cX7_migrate 32 = .ok (.iconst 0, 1) := by decide +kernel
theorem dX7_migrate_33 : decode cX7_migrate 33 = .ok (.putfield 155, 3) := by decide +kernel
end
section
theorem dX7_migrate_36 : decode cX7_migrate 36 = .ok (.iload_n 3, 1) := by decide +kernel
theorem dX7_migrate_37 : decode cX7_migrate 37 = .ok (.ireturn, 1) := by decide +kernel
theorem dX7_chain_0 : decode cX7_chain 0 = .ok (.aload_n 0, 1) := by decide +kernel
theorem dX7_chain_1 : decode cX7_chain 1 = .ok (.iconst 0, 1) := by decide +kernel
theorem dX7_chain_2 : decode cX7_chain 2 = .ok (.putfield 79, 3) := by decide +kernel
theorem dX7_chain_5 : decode cX7_chain 5 = .ok (.aload_n 0, 1) := by decide +kernel
theorem dX7_chain_6 : decode cX7_chain 6 = .ok (.iload_n 1, 1) := by decide +kernel
theorem dX7_chain_7 : decode cX7_chain 7 = .ok (.invokevirtual 128, 3) := by decide +kernel
theorem dX7_chain_10 : decode cX7_chain 10 = .ok (.ifCond .eq 16, 3) := by decide +kernel
theorem dX7_chain_13 : decode cX7_chain 13 = .ok (.iload_n 2, 1) := by decide +kernel
theorem dX7_chain_14 : decode cX7_chain 14 = .ok (.iconst (-1), 1) := by decide +kernel
theorem dX7_chain_15 : decode cX7_chain 15 = .ok (.if_icmp .eq 13, 3) := by decide +kernel
theorem dX7_chain_18 : decode cX7_chain 18 = .ok (.aload_n 0, 1) := by decide +kernel
theorem dX7_chain_19 : decode cX7_chain 19 = .ok (.iload_n 2, 1) := by decide +kernel
theorem dX7_chain_20 : decode cX7_chain 20 = .ok (.invokevirtual 128, 3) := by decide +kernel
theorem dX7_chain_23 : decode cX7_chain 23 = .ok (.ifCond .ne 5, 3) := by decide +kernel
theorem dX7_chain_26 : decode cX7_chain 26 = .ok (.iconst (-1), 1) := by decide +kernel
theorem dX7_chain_27 : decode cX7_chain 27 = .ok (.ireturn, 1) := by decide +kernel
theorem dX7_chain_28 : decode cX7_chain 28 = .ok (.iload_n 2, 1) := by decide +kernel
theorem dX7_chain_29 : decode cX7_chain 29 = .ok (.istore_n 3, 1) := by decide +kernel
theorem dX7_chain_30 : decode cX7_chain 30 = .ok (.iload_n 3, 1) := by decide +kernel
theorem dX7_chain_31 : decode cX7_chain 31 = .ok (.ifCond .lt 21, 3) := by decide +kernel
theorem dX7_chain_34 : decode cX7_chain 34 = .ok (.iload_n 3, 1) := by decide +kernel
theorem dX7_chain_35 : decode cX7_chain 35 = .ok (.iload_n 1, 1) := by decide +kernel
theorem dX7_chain_36 : decode cX7_chain 36 = .ok (.if_icmp .ne 6, 3) := by decide +kernel
theorem dX7_chain_39 : decode cX7_chain 39 = .ok (.bipush (-3), 2) := by decide +kernel
theorem dX7_chain_41 : decode cX7_chain 41 = .ok (.ireturn, 1) := by decide +kernel
theorem dX7_chain_42 : decode cX7_chain 42 = .ok (.aload_n 0, 1) := by decide +kernel
theorem dX7_chain_43 : decode cX7_chain 43 = .ok (.getfield 27, 3) := by decide +kernel
theorem dX7_chain_46 : decode cX7_chain 46 = .ok (.iload_n 3, 1) := by decide +kernel
theorem dX7_chain_47 : decode cX7_chain 47 = .ok (.iaload, 1) := by decide +kernel
theorem dX7_chain_48 : decode cX7_chain 48 = .ok (.istore_n 3, 1) := by decide +kernel
theorem dX7_chain_49 : decode cX7_chain 49 = .ok (.goto (-19), 3) := by decide +kernel
theorem dX7_chain_52 : decode cX7_chain 52 = .ok (.aload_n 0, 1) := by decide +kernel
theorem dX7_chain_53 : decode cX7_chain 53 = .ok (.getfield 27, 3) := by decide +kernel
theorem dX7_chain_56 : decode cX7_chain 56 = .ok (.iload_n 1, 1) := by decide +kernel
theorem dX7_chain_57 : decode cX7_chain 57 = .ok (.iload_n 2, 1) := by decide +kernel
theorem dX7_chain_58 : decode cX7_chain 58 = .ok (.iastore, 1) := by decide +kernel
theorem dX7_chain_59 : decode cX7_chain 59 = .ok (.iconst 1, 1) := by decide +kernel
theorem dX7_chain_60 : decode cX7_chain 60 = .ok (.ireturn, 1) := by decide +kernel
theorem dX7_goesOn_0 : decode cX7_goesOn 0 = .ok (.aload_n 0, 1) := by decide +kernel
theorem dX7_goesOn_1 : decode cX7_goesOn 1 = .ok (.iconst 0, 1) := by decide +kernel
theorem dX7_goesOn_2 : decode cX7_goesOn 2 = .ok (.putfield 79, 3) := by decide +kernel
theorem dX7_goesOn_5 : decode cX7_goesOn 5 = .ok (.aload_n 0, 1) := by decide +kernel
theorem dX7_goesOn_6 : decode cX7_goesOn 6 = .ok (.iload_n 1, 1) := by decide +kernel
theorem dX7_goesOn_7 : decode cX7_goesOn 7 = .ok (.iload_n 2, 1) := by decide +kernel
theorem dX7_goesOn_8 : decode cX7_goesOn 8 = .ok (.invokevirtual 149, 3) := by decide +kernel
theorem dX7_goesOn_11 : decode cX7_goesOn 11 = .ok (.ifCond .ne 5, 3) := by decide +kernel
theorem dX7_goesOn_14 : decode cX7_goesOn 14 = .ok (.iconst (-1), 1) := by decide +kernel
theorem dX7_goesOn_15 : decode cX7_goesOn 15 = .ok (.ireturn, 1) := by decide +kernel
theorem dX7_goesOn_16 : decode cX7_goesOn 16 = .ok (.iconst 0, 1) := by decide +kernel
theorem dX7_goesOn_17 : decode cX7_goesOn 17 = .ok (.istore_n 3, 1) := by decide +kernel
theorem dX7_goesOn_18 : decode cX7_goesOn 18 = .ok (.iload_n 1, 1) := by decide +kernel
theorem dX7_goesOn_19 : decode cX7_goesOn 19 = .ok (.istore 4, 2) := by decide +kernel
theorem dX7_goesOn_21 : decode cX7_goesOn 21 = .ok (.iload_n 2, 1) := by decide +kernel
theorem dX7_goesOn_22 : decode cX7_goesOn 22 = .ok (.istore 5, 2) := by decide +kernel
theorem dX7_goesOn_24 : decode cX7_goesOn 24 = .ok (.aload_n 0, 1) := by decide +kernel
theorem dX7_goesOn_25 : decode cX7_goesOn 25 = .ok (.iconst 0, 1) := by decide +kernel
theorem dX7_goesOn_26 : decode cX7_goesOn 26 = .ok (.putfield 155, 3) := by decide +kernel
theorem dX7_goesOn_29 : decode cX7_goesOn 29 = .ok (.iload 5, 2) := by decide +kernel
theorem dX7_goesOn_31 : decode cX7_goesOn 31 = .ok (.ifCond .lt 64, 3) := by decide +kernel
theorem dX7_goesOn_34 : decode cX7_goesOn 34 = .ok (.aload_n 0, 1) := by decide +kernel
theorem dX7_goesOn_35 : decode cX7_goesOn 35 = .ok (.getfield 155, 3) := by decide +kernel
theorem dX7_goesOn_38 : decode cX7_goesOn 38 = .ok (.ifCond .ne 57, 3) := by decide +kernel
theorem dX7_goesOn_41 : decode cX7_goesOn 41 = .ok (.aload_n 0, 1) := by decide +kernel
theorem dX7_goesOn_42 : decode cX7_goesOn 42 = .ok (.iload 4, 2) := by decide +kernel
theorem dX7_goesOn_44 : decode cX7_goesOn 44 = .ok (.iload 5, 2) := by decide +kernel
theorem dX7_goesOn_46 : decode cX7_goesOn 46 = .ok (.invokevirtual 152, 3) := by decide +kernel
theorem dX7_goesOn_49 : decode cX7_goesOn 49 = .ok (.istore 6, 2) := by decide +kernel
theorem dX7_goesOn_51 : decode cX7_goesOn 51 = .ok (.aload_n 0, 1) := by decide +kernel
theorem dX7_goesOn_52 : decode cX7_goesOn 52 = .ok (.iload 6, 2) := by decide +kernel
theorem dX7_goesOn_54 : decode cX7_goesOn 54 = .ok (.ifCond .ge 8, 3) := by decide +kernel
theorem dX7_goesOn_57 : decode cX7_goesOn 57 = .ok (.iload 6, 2) := by decide +kernel
theorem dX7_goesOn_59 : decode cX7_goesOn 59 = .ok (.goto 4, 3) := by decide +kernel
theorem dX7_goesOn_62 : decode cX7_goesOn 62 = .ok (.iconst 0, 1) := by decide +kernel
theorem dX7_goesOn_63 : decode cX7_goesOn 63 = .ok (.putfield 155, 3) := by decide +kernel
theorem dX7_goesOn_66 : decode cX7_goesOn 66 = .ok (.iload_n 3, 1) := by decide +kernel
theorem dX7_goesOn_67 : decode cX7_goesOn 67 = .ok (.iload 6, 2) := by decide +kernel
theorem dX7_goesOn_69 : decode cX7_goesOn 69 = .ok (.ifCond .ge 7, 3) := by decide +kernel
theorem dX7_goesOn_72 : decode cX7_goesOn 72 = .ok (.iconst 0, 1) := by decide +kernel
theorem dX7_goesOn_73 : decode cX7_goesOn 73 = .ok (.goto 4, 3) := by decide +kernel
theorem dX7_goesOn_76 : decode cX7_goesOn 76 = .ok (.iconst 1, 1) := by decide +kernel
theorem dX7_goesOn_77 : decode cX7_goesOn 77 = .ok (.iadd, 1) := by decide +kernel
theorem dX7_goesOn_78 : decode cX7_goesOn 78 = .ok (.istore_n 3, 1) := by decide +kernel
theorem dX7_goesOn_79 : decode cX7_goesOn 79 = .ok (.iload 6, 2) := by decide +kernel
theorem dX7_goesOn_81 : decode cX7_goesOn 81 = .ok (.istore 4, 2) := by decide +kernel
theorem dX7_goesOn_83 : decode cX7_goesOn 83 = .ok (.aload_n 0, 1) := by decide +kernel
theorem dX7_goesOn_84 : decode cX7_goesOn 84 = .ok (.getfield 27, 3) := by decide +kernel
theorem dX7_goesOn_87 : decode cX7_goesOn 87 = .ok (.iload 5, 2) := by decide +kernel
theorem dX7_goesOn_89 : decode cX7_goesOn 89 = .ok (.iaload, 1) := by decide +kernel
theorem dX7_goesOn_90 : decode cX7_goesOn 90 = .ok (.istore 5, 2) := by decide +kernel
theorem dX7_goesOn_92 : decode cX7_goesOn 92 = .ok (.goto (-63), 3) := by decide +kernel
theorem dX7_goesOn_95 : decode cX7_goesOn 95 = .ok (.iload_n 3, 1) := by decide +kernel
theorem dX7_goesOn_96 : decode cX7_goesOn 96 = .ok (.ireturn, 1) := by decide +kernel
theorem dX7_what_0 : decode cX7_what 0 = .ok (.aload_n 0, 1) := by decide +kernel
theorem dX7_what_1 : decode cX7_what 1 = .ok (.iconst 0, 1) := by decide +kernel
theorem dX7_what_2 : decode cX7_what 2 = .ok (.putfield 79, 3) := by decide +kernel
theorem dX7_what_5 : decode cX7_what 5 = .ok (.aload_n 0, 1) := by decide +kernel
theorem dX7_what_6 : decode cX7_what 6 = .ok (.getfield 155, 3) := by decide +kernel
theorem dX7_what_9 : decode cX7_what 9 = .ok (.ireturn, 1) := by decide +kernel
theorem dX7_failed_0 : decode cX7_failed 0 = .ok (.aload_n 0, 1) := by decide +kernel
theorem dX7_failed_1 : decode cX7_failed 1 = .ok (.iconst 0, 1) := by decide +kernel
theorem dX7_failed_2 : decode cX7_failed 2 = .ok (.putfield 79, 3) := by decide +kernel
theorem dX7_failed_5 : decode cX7_failed 5 = .ok (.aload_n 0, 1) := by decide +kernel
theorem dX7_failed_6 : decode cX7_failed 6 = .ok (.getfield 64, 3) := by decide +kernel
theorem dX7_failed_9 : decode cX7_failed 9 = .ok (.ireturn, 1) := by decide +kernel
theorem dX7_counted_0 : decode cX7_counted 0 = .ok (.aload_n 0, 1) := by decide +kernel
theorem dX7_counted_1 : decode cX7_counted 1 = .ok (.iconst 0, 1) := by decide +kernel
theorem dX7_counted_2 : decode cX7_counted 2 = .ok (.putfield 79, 3) := by decide +kernel
theorem dX7_counted_5 : decode cX7_counted 5 = .ok (.aload_n 0, 1) := by decide +kernel
theorem dX7_counted_6 : decode cX7_counted 6 = .ok (.getfield 116, 3) := by decide +kernel
theorem dX7_counted_9 : decode cX7_counted 9 = .ok (.lreturn, 1) := by decide +kernel
theorem dX7_batch_0 : decode cX7_batch 0 = .ok (.aload_n 0, 1) := by decide +kernel
theorem dX7_batch_1 : decode cX7_batch 1 = .ok (.iconst 0, 1) := by decide +kernel
theorem dX7_batch_2 : decode cX7_batch 2 = .ok (.putfield 79, 3) := by decide +kernel
theorem dX7_batch_5 : decode cX7_batch 5 = .ok (.aload_n 0, 1) := by decide +kernel
theorem dX7_batch_6 : decode cX7_batch 6 = .ok (.iload_n 1, 1) := by decide +kernel
theorem dX7_batch_7 : decode cX7_batch 7 = .ok (.invokevirtual 128, 3) := by decide +kernel
theorem dX7_batch_10 : decode cX7_batch 10 = .ok (.ifCond .ne 5, 3) := by decide +kernel
theorem dX7_batch_13 : decode cX7_batch 13 = .ok (.iconst (-1), 1) := by decide +kernel
theorem dX7_batch_14 : decode cX7_batch 14 = .ok (.ireturn, 1) := by decide +kernel
theorem dX7_batch_15 : decode cX7_batch 15 = .ok (.iconst 0, 1) := by decide +kernel
theorem dX7_batch_16 : decode cX7_batch 16 = .ok (.istore_n 2, 1) := by decide +kernel
theorem dX7_batch_17 : decode cX7_batch 17 = .ok (.aload_n 0, 1) := by decide +kernel
theorem dX7_batch_18 : decode cX7_batch 18 = .ok (.getfield 89, 3) := by decide +kernel
theorem dX7_batch_21 : decode cX7_batch 21 = .ok (.istore_n 3, 1) := by decide +kernel
theorem dX7_batch_22 : decode cX7_batch 22 = .ok (.iconst 0, 1) := by decide +kernel
theorem dX7_batch_23 : decode cX7_batch 23 = .ok (.istore 4, 2) := by decide +kernel
theorem dX7_batch_25 : decode cX7_batch 25 = .ok (.iload 4, 2) := by decide +kernel
theorem dX7_batch_27 : decode cX7_batch 27 = .ok (.iload_n 3, 1) := by decide +kernel
theorem dX7_batch_28 : decode cX7_batch 28 = .ok (.if_icmp .ge 55, 3) := by decide +kernel
theorem dX7_batch_31 : decode cX7_batch 31 = .ok (.aload_n 0, 1) := by decide +kernel
theorem dX7_batch_32 : decode cX7_batch 32 = .ok (.getfield 48, 3) := by decide +kernel
theorem dX7_batch_35 : decode cX7_batch 35 = .ok (.iload 4, 2) := by decide +kernel
theorem dX7_batch_37 : decode cX7_batch 37 = .ok (.iaload, 1) := by decide +kernel
theorem dX7_batch_38 : decode cX7_batch 38 = .ok (.ifCond .lt 6, 3) := by decide +kernel
theorem dX7_batch_41 : decode cX7_batch 41 = .ok (.goto 36, 3) := by decide +kernel
theorem dX7_batch_44 : decode cX7_batch 44 = .ok (.aload_n 0, 1) := by decide +kernel
theorem dX7_batch_45 : decode cX7_batch 45 = .ok (.iload 4, 2) := by decide +kernel
theorem dX7_batch_47 : decode cX7_batch 47 = .ok (.iload_n 1, 1) := by decide +kernel
theorem dX7_batch_48 : decode cX7_batch 48 = .ok (.invokevirtual 152, 3) := by decide +kernel
theorem dX7_batch_51 : decode cX7_batch 51 = .ok (.istore 5, 2) := by decide +kernel
theorem dX7_batch_53 : decode cX7_batch 53 = .ok (.iload 5, 2) := by decide +kernel
theorem dX7_batch_55 : decode cX7_batch 55 = .ok (.ifCond .ge 6, 3) := by decide +kernel
theorem dX7_batch_58 : decode cX7_batch 58 = .ok (.goto 19, 3) := by decide +kernel
theorem dX7_batch_61 : decode cX7_batch 61 = .ok (.aload_n 0, 1) := by decide +kernel
theorem dX7_batch_62 : decode cX7_batch 62 = .ok (.getfield 58, 3) := by decide +kernel
theorem dX7_batch_65 : decode cX7_batch 65 = .ok (.iload 5, 2) := by decide +kernel
theorem dX7_batch_67 : decode cX7_batch 67 = .ok (.aload_n 0, 1) := by decide +kernel
theorem dX7_batch_68 : decode cX7_batch 68 = .ok (.getfield 158, 3) := by decide +kernel
theorem dX7_batch_71 : decode cX7_batch 71 = .ok (.iconst 1, 1) := by decide +kernel
theorem dX7_batch_72 : decode cX7_batch 72 = .ok (.iadd, 1) := by decide +kernel
theorem dX7_batch_73 : decode cX7_batch 73 = .ok (.iastore, 1) := by decide +kernel
theorem dX7_batch_74 : decode cX7_batch 74 = .ok (.iinc 2 1, 3) := by decide +kernel
theorem dX7_batch_77 : decode cX7_batch 77 = .ok (.iinc 4 1, 3) := by decide +kernel
theorem dX7_batch_80 : decode cX7_batch 80 = .ok (.goto (-55), 3) := by decide +kernel
theorem dX7_batch_83 : decode cX7_batch 83 = .ok (.iload_n 2, 1) := by decide +kernel
theorem dX7_batch_84 : decode cX7_batch 84 = .ok (.ifCond .le 23, 3) := by decide +kernel
theorem dX7_batch_87 : decode cX7_batch 87 = .ok (.aload_n 0, 1) := by decide +kernel
theorem dX7_batch_88 : decode cX7_batch 88 = .ok (.getfield 61, 3) := by decide +kernel
theorem dX7_batch_91 : decode cX7_batch 91 = .ok (.aload_n 0, 1) := by decide +kernel
theorem dX7_batch_92 : decode cX7_batch 92 = .ok (.getfield 158, 3) := by decide +kernel
theorem dX7_batch_95 : decode cX7_batch 95 = .ok (.iconst 0, 1) := by decide +kernel
theorem dX7_batch_96 : decode cX7_batch 96 = .ok (.bastore, 1) := by decide +kernel
theorem dX7_batch_97 : decode cX7_batch 97 = .ok (.aload_n 0, 1) := by decide +kernel
theorem dX7_batch_98 : decode cX7_batch 98 = .ok (.dup, 1) := by decide +kernel
theorem dX7_batch_99 : decode cX7_batch 99 = .ok (.getfield 158, 3) := by decide +kernel
theorem dX7_batch_102 : decode cX7_batch 102 = .ok (.iconst 1, 1) := by decide +kernel
theorem dX7_batch_103 : decode cX7_batch 103 = .ok (.iadd, 1) := by decide +kernel
theorem dX7_batch_104 : decode cX7_batch 104 = .ok (.putfield 158, 3) := by decide +kernel
theorem dX7_batch_107 : decode cX7_batch 107 = .ok (.iload_n 2, 1) := by decide +kernel
theorem dX7_batch_108 : decode cX7_batch 108 = .ok (.ireturn, 1) := by decide +kernel
theorem dX7_goes_0 : decode cX7_goes 0 = .ok (.aload_n 0, 1) := by decide +kernel
theorem dX7_goes_1 : decode cX7_goes 1 = .ok (.iload_n 1, 1) := by decide +kernel
theorem dX7_goes_2 : decode cX7_goes 2 = .ok (.iconst (-1), 1) := by decide +kernel
theorem dX7_goes_3 : decode cX7_goes 3 = .ok (.invokevirtual 135, 3) := by decide +kernel
theorem dX7_goes_6 : decode cX7_goes 6 = .ok (.ifCond .eq 5, 3) := by decide +kernel
theorem dX7_goes_9 : decode cX7_goes 9 = .ok (.iconst 0, 1) := by decide +kernel
theorem dX7_goes_10 : decode cX7_goes 10 = .ok (.ireturn, 1) := by decide +kernel
theorem dX7_goes_11 : decode cX7_goes 11 = .ok (.aload_n 0, 1) := by decide +kernel
theorem dX7_goes_12 : decode cX7_goes 12 = .ok (.getfield 54, 3) := by decide +kernel
theorem dX7_goes_15 : decode cX7_goes 15 = .ok (.iload_n 1, 1) := by decide +kernel
theorem dX7_goes_16 : decode cX7_goes 16 = .ok (.iconst 1, 1) := by decide +kernel
theorem dX7_goes_17 : decode cX7_goes 17 = .ok (.bastore, 1) := by decide +kernel
theorem dX7_goes_18 : decode cX7_goes 18 = .ok (.iconst 1, 1) := by decide +kernel
theorem dX7_goes_19 : decode cX7_goes 19 = .ok (.ireturn, 1) := by decide +kernel
theorem dX7_undo_0 : decode cX7_undo 0 = .ok (.aload_n 0, 1) := by decide +kernel
theorem dX7_undo_1 : decode cX7_undo 1 = .ok (.iconst 0, 1) := by decide +kernel
theorem dX7_undo_2 : decode cX7_undo 2 = .ok (.putfield 79, 3) := by decide +kernel
theorem dX7_undo_5 : decode cX7_undo 5 = .ok (.aload_n 0, 1) := by decide +kernel
theorem dX7_undo_6 : decode cX7_undo 6 = .ok (.getfield 158, 3) := by decide +kernel
theorem dX7_undo_9 : decode cX7_undo 9 = .ok (.iconst 1, 1) := by decide +kernel
theorem dX7_undo_10 : decode cX7_undo 10 = .ok (.isub, 1) := by decide +kernel
theorem dX7_undo_11 : decode cX7_undo 11 = .ok (.istore_n 1, 1) := by decide +kernel
theorem dX7_undo_12 : decode cX7_undo 12 = .ok (.iload_n 1, 1) := by decide +kernel
theorem dX7_undo_13 : decode cX7_undo 13 = .ok (.ifCond .lt 18, 3) := by decide +kernel
theorem dX7_undo_16 : decode cX7_undo 16 = .ok (.aload_n 0, 1) := by decide +kernel
theorem dX7_undo_17 : decode cX7_undo 17 = .ok (.getfield 61, 3) := by decide +kernel
theorem dX7_undo_20 : decode cX7_undo 20 = .ok (.iload_n 1, 1) := by decide +kernel
theorem dX7_undo_21 : decode cX7_undo 21 = .ok (.baload, 1) := by decide +kernel
theorem dX7_undo_22 : decode cX7_undo 22 = .ok (.ifCond .eq 9, 3) := by decide +kernel
theorem dX7_undo_25 : decode cX7_undo 25 = .ok (.iinc 1 (-1), 3) := by decide +kernel
theorem dX7_undo_28 : decode cX7_undo 28 = .ok (.goto (-16), 3) := by decide +kernel
theorem dX7_undo_31 : decode cX7_undo 31 = .ok (.iload_n 1, 1) := by decide +kernel
theorem dX7_undo_32 : decode cX7_undo 32 = .ok (.ifCond .ge 5, 3) := by decide +kernel
theorem dX7_undo_35 : decode cX7_undo 35 = .ok (.iconst (-1), 1) := by decide +kernel
theorem dX7_undo_36 : decode cX7_undo 36 = .ok (.ireturn, 1) := by decide +kernel
theorem dX7_undo_37 : decode cX7_undo 37 = .ok (.aload_n 0, 1) := by decide +kernel
theorem dX7_undo_38 : decode cX7_undo 38 = .ok (.getfield 61, 3) := by decide +kernel
theorem dX7_undo_41 : decode cX7_undo 41 = .ok (.iload_n 1, 1) := by decide +kernel
theorem dX7_undo_42 : decode cX7_undo 42 = .ok (.iconst 1, 1) := by decide +kernel
theorem dX7_undo_43 : decode cX7_undo 43 = .ok (.bastore, 1) := by decide +kernel
theorem dX7_undo_44 : decode cX7_undo 44 = .ok (.iconst 0, 1) := by decide +kernel
theorem dX7_undo_45 : decode cX7_undo 45 = .ok (.istore_n 2, 1) := by decide +kernel
theorem dX7_undo_46 : decode cX7_undo 46 = .ok (.aload_n 0, 1) := by decide +kernel
theorem dX7_undo_47 : decode cX7_undo 47 = .ok (.getfield 89, 3) := by decide +kernel
theorem dX7_undo_50 : decode cX7_undo 50 = .ok (.iconst 1, 1) := by decide +kernel
theorem dX7_undo_51 : decode cX7_undo 51 = .ok (.isub, 1) := by decide +kernel
theorem dX7_undo_52 : decode cX7_undo 52 = .ok (.istore_n 3, 1) := by decide +kernel
theorem dX7_undo_53 : decode cX7_undo 53 = .ok (.iload_n 3, 1) := by decide +kernel
theorem dX7_undo_54 : decode cX7_undo 54 = .ok (.ifCond .lt 41, 3) := by decide +kernel
theorem dX7_undo_57 : decode cX7_undo 57 = .ok (.aload_n 0, 1) := by decide +kernel
theorem dX7_undo_58 : decode cX7_undo 58 = .ok (.getfield 58, 3) := by decide +kernel
theorem dX7_undo_61 : decode cX7_undo 61 = .ok (.iload_n 3, 1) := by decide +kernel
theorem dX7_undo_62 : decode cX7_undo 62 = .ok (.iaload, 1) := by decide +kernel
theorem dX7_undo_63 : decode cX7_undo 63 = .ok (.iload_n 1, 1) := by decide +kernel
theorem dX7_undo_64 : decode cX7_undo 64 = .ok (.iconst 1, 1) := by decide +kernel
theorem dX7_undo_65 : decode cX7_undo 65 = .ok (.iadd, 1) := by decide +kernel
theorem dX7_undo_66 : decode cX7_undo 66 = .ok (.if_icmp .ne 23, 3) := by decide +kernel
theorem dX7_undo_69 : decode cX7_undo 69 = .ok (.aload_n 0, 1) := by decide +kernel
theorem dX7_undo_70 : decode cX7_undo 70 = .ok (.getfield 54, 3) := by decide +kernel
theorem dX7_undo_73 : decode cX7_undo 73 = .ok (.iload_n 3, 1) := by decide +kernel
theorem dX7_undo_74 : decode cX7_undo 74 = .ok (.baload, 1) := by decide +kernel
theorem dX7_undo_75 : decode cX7_undo 75 = .ok (.ifCond .ne 14, 3) := by decide +kernel
theorem dX7_undo_78 : decode cX7_undo 78 = .ok (.aload_n 0, 1) := by decide +kernel
theorem dX7_undo_79 : decode cX7_undo 79 = .ok (.iload_n 3, 1) := by decide +kernel
theorem dX7_undo_80 : decode cX7_undo 80 = .ok (.invokevirtual 161, 3) := by decide +kernel
theorem dX7_undo_83 : decode cX7_undo 83 = .ok (.ifCond .eq 6, 3) := by decide +kernel
theorem dX7_undo_86 : decode cX7_undo 86 = .ok (.iinc 2 1, 3) := by decide +kernel
theorem dX7_undo_89 : decode cX7_undo 89 = .ok (.iinc 3 (-1), 3) := by decide +kernel
theorem dX7_undo_92 : decode cX7_undo 92 = .ok (.goto (-39), 3) := by decide +kernel
theorem dX7_undo_95 : decode cX7_undo 95 = .ok (.iload_n 2, 1) := by decide +kernel
theorem dX7_undo_96 : decode cX7_undo 96 = .ok (.ireturn, 1) := by decide +kernel
theorem dX7_drop_0 : decode cX7_drop 0 = .ok (.aload_n 0, 1) := by decide +kernel
theorem dX7_drop_1 : decode cX7_drop 1 = .ok (.iconst 0, 1) := by decide +kernel
theorem dX7_drop_2 : decode cX7_drop 2 = .ok (.putfield 79, 3) := by decide +kernel
theorem dX7_drop_5 : decode cX7_drop 5 = .ok (.aload_n 0, 1) := by decide +kernel
theorem dX7_drop_6 : decode cX7_drop 6 = .ok (.iload_n 1, 1) := by decide +kernel
theorem dX7_drop_7 : decode cX7_drop 7 = .ok (.invokevirtual 146, 3) := by decide +kernel
theorem dX7_drop_10 : decode cX7_drop 10 = .ok (.ifCond .eq 12, 3) := by decide +kernel
theorem dX7_drop_13 : decode cX7_drop 13 = .ok (.aload_n 0, 1) := by decide +kernel
theorem dX7_drop_14 : decode cX7_drop 14 = .ok (.getfield 54, 3) := by decide +kernel
theorem dX7_drop_17 : decode cX7_drop 17 = .ok (.iload_n 1, 1) := by decide +kernel
theorem dX7_drop_18 : decode cX7_drop 18 = .ok (.baload, 1) := by decide +kernel
theorem dX7_drop_19 : decode cX7_drop 19 = .ok (.ifCond .eq 5, 3) := by decide +kernel
theorem dX7_drop_22 : decode cX7_drop 22 = .ok (.iconst (-1), 1) := by decide +kernel
theorem dX7_drop_23 : decode cX7_drop 23 = .ok (.ireturn, 1) := by decide +kernel
theorem dX7_drop_24 : decode cX7_drop 24 = .ok (.aload_n 0, 1) := by decide +kernel
theorem dX7_drop_25 : decode cX7_drop 25 = .ok (.getfield 48, 3) := by decide +kernel
theorem dX7_drop_28 : decode cX7_drop 28 = .ok (.iload_n 1, 1) := by decide +kernel
theorem dX7_drop_29 : decode cX7_drop 29 = .ok (.iaload, 1) := by decide +kernel
theorem dX7_drop_30 : decode cX7_drop 30 = .ok (.ifCond .lt 15, 3) := by decide +kernel
theorem dX7_drop_33 : decode cX7_drop 33 = .ok (.aload_n 0, 1) := by decide +kernel
theorem dX7_drop_34 : decode cX7_drop 34 = .ok (.iload_n 1, 1) := by decide +kernel
theorem dX7_drop_35 : decode cX7_drop 35 = .ok (.invokevirtual 161, 3) := by decide +kernel
theorem dX7_drop_38 : decode cX7_drop 38 = .ok (.ifCond .eq 7, 3) := by decide +kernel
theorem dX7_drop_41 : decode cX7_drop 41 = .ok (.iconst 1, 1) := by decide +kernel
theorem dX7_drop_42 : decode cX7_drop 42 = .ok (.goto 5, 3) := by decide +kernel
theorem dX7_drop_45 : decode cX7_drop 45 = .ok (.bipush (-3), 2) := by decide +kernel
theorem dX7_drop_47 : decode cX7_drop 47 = .ok (.ireturn, 1) := by decide +kernel
theorem dX7_about_0 : decode cX7_about 0 = .ok (.aload_n 0, 1) := by decide +kernel
theorem dX7_about_1 : decode cX7_about 1 = .ok (.iconst 0, 1) := by decide +kernel
theorem dX7_about_2 : decode cX7_about 2 = .ok (.putfield 79, 3) := by decide +kernel
theorem dX7_about_5 : decode cX7_about 5 = .ok (.aload_n 0, 1) := by decide +kernel
theorem dX7_about_6 : decode cX7_about 6 = .ok (.iload_n 1, 1) := by decide +kernel
theorem dX7_about_7 : decode cX7_about 7 = .ok (.invokevirtual 146, 3) := by decide +kernel
theorem dX7_about_10 : decode cX7_about 10 = .ok (.ifCond .ne 5, 3) := by decide +kernel
theorem dX7_about_13 : decode cX7_about 13 = .ok (.iconst (-1), 1) := by decide +kernel
theorem dX7_about_14 : decode cX7_about 14 = .ok (.ireturn, 1) := by decide +kernel
theorem dX7_about_15 : decode cX7_about 15 = .ok (.iload_n 2, 1) := by decide +kernel
theorem dX7_about_16 : decode cX7_about 16 = .ok (.tableswitch 95 0 4 #[36, 43, 50, 57, 72], 36) := by decide +kernel
theorem dX7_about_52 : decode cX7_about 52 = .ok (.aload_n 0, 1) := by decide +kernel
theorem dX7_about_53 : decode cX7_about 53 = .ok (.getfield 42, 3) := by decide +kernel
theorem dX7_about_56 : decode cX7_about 56 = .ok (.iload_n 1, 1) := by decide +kernel
theorem dX7_about_57 : decode cX7_about 57 = .ok (.iaload, 1) := by decide +kernel
theorem dX7_about_58 : decode cX7_about 58 = .ok (.ireturn, 1) := by decide +kernel
theorem dX7_about_59 : decode cX7_about 59 = .ok (.aload_n 0, 1) := by decide +kernel
theorem dX7_about_60 : decode cX7_about 60 = .ok (.getfield 48, 3) := by decide +kernel
theorem dX7_about_63 : decode cX7_about 63 = .ok (.iload_n 1, 1) := by decide +kernel
theorem dX7_about_64 : decode cX7_about 64 = .ok (.iaload, 1) := by decide +kernel
theorem dX7_about_65 : decode cX7_about 65 = .ok (.ireturn, 1) := by decide +kernel
theorem dX7_about_66 : decode cX7_about 66 = .ok (.aload_n 0, 1) := by decide +kernel
theorem dX7_about_67 : decode cX7_about 67 = .ok (.getfield 51, 3) := by decide +kernel
theorem dX7_about_70 : decode cX7_about 70 = .ok (.iload_n 1, 1) := by decide +kernel
theorem dX7_about_71 : decode cX7_about 71 = .ok (.iaload, 1) := by decide +kernel
theorem dX7_about_72 : decode cX7_about 72 = .ok (.ireturn, 1) := by decide +kernel
theorem dX7_about_73 : decode cX7_about 73 = .ok (.aload_n 0, 1) := by decide +kernel
theorem dX7_about_74 : decode cX7_about 74 = .ok (.getfield 54, 3) := by decide +kernel
theorem dX7_about_77 : decode cX7_about 77 = .ok (.iload_n 1, 1) := by decide +kernel
theorem dX7_about_78 : decode cX7_about 78 = .ok (.baload, 1) := by decide +kernel
theorem dX7_about_79 : decode cX7_about 79 = .ok (.ifCond .eq 7, 3) := by decide +kernel
theorem dX7_about_82 : decode cX7_about 82 = .ok (.iconst 1, 1) := by decide +kernel
theorem dX7_about_83 : decode cX7_about 83 = .ok (.goto 4, 3) := by decide +kernel
theorem dX7_about_86 : decode cX7_about 86 = .ok (.iconst 0, 1) := by decide +kernel
theorem dX7_about_87 : decode cX7_about 87 = .ok (.ireturn, 1) := by decide +kernel
theorem dX7_about_88 : decode cX7_about 88 = .ok (.iload_n 1, 1) := by decide +kernel
theorem dX7_about_89 : decode cX7_about 89 = .ok (.istore_n 3, 1) := by decide +kernel
theorem dX7_about_90 : decode cX7_about 90 = .ok (.aload_n 0, 1) := by decide +kernel
theorem dX7_about_91 : decode cX7_about 91 = .ok (.getfield 48, 3) := by decide +kernel
theorem dX7_about_94 : decode cX7_about 94 = .ok (.iload_n 3, 1) := by decide +kernel
theorem dX7_about_95 : decode cX7_about 95 = .ok (.iaload, 1) := by decide +kernel
theorem dX7_about_96 : decode cX7_about 96 = .ok (.ifCond .lt 13, 3) := by decide +kernel
theorem dX7_about_99 : decode cX7_about 99 = .ok (.aload_n 0, 1) := by decide +kernel
theorem dX7_about_100 : decode cX7_about 100 = .ok (.getfield 48, 3) := by decide +kernel
theorem dX7_about_103 : decode cX7_about 103 = .ok (.iload_n 3, 1) := by decide +kernel
theorem dX7_about_104 : decode cX7_about 104 = .ok (.iaload, 1) := by decide +kernel
theorem dX7_about_105 : decode cX7_about 105 = .ok (.istore_n 3, 1) := by decide +kernel
theorem dX7_about_106 : decode cX7_about 106 = .ok (.goto (-16), 3) := by decide +kernel
theorem dX7_about_109 : decode cX7_about 109 = .ok (.iload_n 3, 1) := by decide +kernel
theorem dX7_about_110 : decode cX7_about 110 = .ok (.ireturn, 1) := by decide +kernel
theorem dX7_about_111 : decode cX7_about 111 = .ok (.iconst (-1), 1) := by decide +kernel
theorem dX7_about_112 : decode cX7_about 112 = .ok (.ireturn, 1) := by decide +kernel
theorem dX7_at_0 : decode cX7_at 0 = .ok (.aload_n 0, 1) := by decide +kernel
theorem dX7_at_1 : decode cX7_at 1 = .ok (.iconst 0, 1) := by decide +kernel
theorem dX7_at_2 : decode cX7_at 2 = .ok (.putfield 79, 3) := by decide +kernel
theorem dX7_at_5 : decode cX7_at 5 = .ok (.aload_n 0, 1) := by decide +kernel
theorem dX7_at_6 : decode cX7_at 6 = .ok (.iload_n 1, 1) := by decide +kernel
theorem dX7_at_7 : decode cX7_at 7 = .ok (.invokevirtual 146, 3) := by decide +kernel
theorem dX7_at_10 : decode cX7_at 10 = .ok (.ifCond .ne 5, 3) := by decide +kernel
theorem dX7_at_13 : decode cX7_at 13 = .ok (.iconst (-1), 1) := by decide +kernel
theorem dX7_at_14 : decode cX7_at 14 = .ok (.ireturn, 1) := by decide +kernel
theorem dX7_at_15 : decode cX7_at 15 = .ok (.aload_n 0, 1) := by decide +kernel
theorem dX7_at_16 : decode cX7_at 16 = .ok (.iload_n 2, 1) := by decide +kernel
theorem dX7_at_17 : decode cX7_at 17 = .ok (.iconst 0, 1) := by decide +kernel
theorem dX7_at_18 : decode cX7_at 18 = .ok (.aload_n 0, 1) := by decide +kernel
theorem dX7_at_19 : decode cX7_at 19 = .ok (.getfield 42, 3) := by decide +kernel
theorem dX7_at_22 : decode cX7_at 22 = .ok (.iload_n 1, 1) := by decide +kernel
theorem dX7_at_23 : decode cX7_at 23 = .ok (.iaload, 1) := by decide +kernel
theorem dX7_at_24 : decode cX7_at 24 = .ok (.iconst 1, 1) := by decide +kernel
theorem dX7_at_25 : decode cX7_at 25 = .ok (.isub, 1) := by decide +kernel
theorem dX7_at_26 : decode cX7_at 26 = .ok (.invokestatic 85, 3) := by decide +kernel
theorem dX7_at_29 : decode cX7_at 29 = .ok (.ifCond .eq 7, 3) := by decide +kernel
theorem dX7_at_32 : decode cX7_at 32 = .ok (.iconst 0, 1) := by decide +kernel
theorem dX7_at_33 : decode cX7_at 33 = .ok (.goto 4, 3) := by decide +kernel
theorem dX7_at_36 : decode cX7_at 36 = .ok (.iconst 1, 1) := by decide +kernel
theorem dX7_at_37 : decode cX7_at 37 = .ok (.putfield 79, 3) := by decide +kernel
theorem dX7_at_40 : decode cX7_at 40 = .ok (.aload_n 0, 1) := by decide +kernel
theorem dX7_at_41 : decode cX7_at 41 = .ok (.getfield 79, 3) := by decide +kernel
theorem dX7_at_44 : decode cX7_at 44 = .ok (.ifCond .le 7, 3) := by decide +kernel
theorem dX7_at_47 : decode cX7_at 47 = .ok (.iconst 0, 1) := by decide +kernel
theorem dX7_at_48 : decode cX7_at 48 = .ok (.goto 18, 3) := by decide +kernel
theorem dX7_at_51 : decode cX7_at 51 = .ok (.aload_n 0, 1) := by decide +kernel
theorem dX7_at_52 : decode cX7_at 52 = .ok (.getfield 45, 3) := by decide +kernel
theorem dX7_at_55 : decode cX7_at 55 = .ok (.bipush 40, 2) := by decide +kernel
theorem dX7_at_57 : decode cX7_at 57 = .ok (.iload_n 1, 1) := by decide +kernel
theorem dX7_at_58 : decode cX7_at 58 = .ok (.imul, 1) := by decide +kernel
theorem dX7_at_59 : decode cX7_at 59 = .ok (.iload_n 2, 1) := by decide +kernel
theorem dX7_at_60 : decode cX7_at 60 = .ok (.iadd, 1) := by decide +kernel
theorem dX7_at_61 : decode cX7_at 61 = .ok (.baload, 1) := by decide +kernel
theorem dX7_at_62 : decode cX7_at 62 = .ok (.sipush 255, 3) := by decide +kernel
theorem dX7_at_65 : decode cX7_at 65 = .ok (.iand, 1) := by decide +kernel
theorem dX7_at_66 : decode cX7_at 66 = .ok (.ireturn, 1) := by decide +kernel
theorem dX7_tried_0 : decode cX7_tried 0 = .ok (.aload_n 0, 1) := by decide +kernel
theorem dX7_tried_1 : decode cX7_tried 1 = .ok (.iconst 0, 1) := by decide +kernel
theorem dX7_tried_2 : decode cX7_tried 2 = .ok (.putfield 79, 3) := by decide +kernel
theorem dX7_tried_5 : decode cX7_tried 5 = .ok (.iload_n 1, 1) := by decide +kernel
theorem dX7_tried_6 : decode cX7_tried 6 = .ok (.iconst 0, 1) := by decide +kernel
theorem dX7_tried_7 : decode cX7_tried 7 = .ok (.aload_n 0, 1) := by decide +kernel
theorem dX7_tried_8 : decode cX7_tried 8 = .ok (.getfield 113, 3) := by decide +kernel
theorem dX7_tried_11 : decode cX7_tried 11 = .ok (.iconst 1, 1) := by decide +kernel
theorem dX7_tried_12 : decode cX7_tried 12 = .ok (.isub, 1) := by decide +kernel
theorem dX7_tried_13 : decode cX7_tried 13 = .ok (.invokestatic 85, 3) := by decide +kernel
theorem dX7_tried_16 : decode cX7_tried 16 = .ok (.ifCond .eq 16, 3) := by decide +kernel
theorem dX7_tried_19 : decode cX7_tried 19 = .ok (.aload_n 0, 1) := by decide +kernel
theorem dX7_tried_20 : decode cX7_tried 20 = .ok (.getfield 67, 3) := by decide +kernel
theorem dX7_tried_23 : decode cX7_tried 23 = .ok (.iload_n 1, 1) := by decide +kernel
theorem dX7_tried_24 : decode cX7_tried 24 = .ok (.baload, 1) := by decide +kernel
theorem dX7_tried_25 : decode cX7_tried 25 = .ok (.sipush 255, 3) := by decide +kernel
theorem dX7_tried_28 : decode cX7_tried 28 = .ok (.iand, 1) := by decide +kernel
theorem dX7_tried_29 : decode cX7_tried 29 = .ok (.goto 4, 3) := by decide +kernel
theorem dX7_tried_32 : decode cX7_tried 32 = .ok (.iconst (-1), 1) := by decide +kernel
theorem dX7_tried_33 : decode cX7_tried 33 = .ok (.ireturn, 1) := by decide +kernel
theorem dJx00060_init_a7421_0 : decode cJx00060_init_a7421 0 = .ok (.aload_n 0, 1) := by decide +kernel
theorem dJx00060_init_a7421_1 : decode cJx00060_init_a7421 1 = .ok (.aload_n 1, 1) := by decide +kernel
theorem dJx00060_init_a7421_2 : decode cJx00060_init_a7421 2 = .ok (.invokespecial 7, 3) := by decide +kernel
theorem dJx00060_init_a7421_5 : decode cJx00060_init_a7421 5 = .ok (.return_, 1) := by decide +kernel
theorem dJ11_isValidCodePoint_9a6ad_0 : decode cJ11_isValidCodePoint_9a6ad 0 = .ok (.iload_n 0, 1) := by decide +kernel
theorem dJ11_isValidCodePoint_9a6ad_1 : decode cJ11_isValidCodePoint_9a6ad 1 = .ok (.bipush 16, 2) := by decide +kernel
theorem dJ11_isValidCodePoint_9a6ad_3 : decode cJ11_isValidCodePoint_9a6ad 3 = .ok (.iushr, 1) := by decide +kernel
theorem dJ11_isValidCodePoint_9a6ad_4 : decode cJ11_isValidCodePoint_9a6ad 4 = .ok (.istore_n 1, 1) := by decide +kernel
theorem dJ11_isValidCodePoint_9a6ad_5 : decode cJ11_isValidCodePoint_9a6ad 5 = .ok (.iload_n 1, 1) := by decide +kernel
theorem dJ11_isValidCodePoint_9a6ad_6 : decode cJ11_isValidCodePoint_9a6ad 6 = .ok (.bipush 17, 2) := by decide +kernel
theorem dJ11_isValidCodePoint_9a6ad_8 : decode cJ11_isValidCodePoint_9a6ad 8 = .ok (.if_icmp .ge 7, 3) := by decide +kernel
theorem dJ11_isValidCodePoint_9a6ad_11 : decode cJ11_isValidCodePoint_9a6ad 11 = .ok (.iconst 1, 1) := by decide +kernel
theorem dJ11_isValidCodePoint_9a6ad_12 : decode cJ11_isValidCodePoint_9a6ad 12 = .ok (.goto 4, 3) := by decide +kernel
theorem dJ11_isValidCodePoint_9a6ad_15 : decode cJ11_isValidCodePoint_9a6ad 15 = .ok (.iconst 0, 1) := by decide +kernel
theorem dJ11_isValidCodePoint_9a6ad_16 : decode cJ11_isValidCodePoint_9a6ad 16 = .ok (.ireturn, 1) := by decide +kernel
theorem dJ11_highSurrogate_5068e_0 : decode cJ11_highSurrogate_5068e 0 = .ok (.iload_n 0, 1) := by decide +kernel
theorem dJ11_highSurrogate_5068e_1 : decode cJ11_highSurrogate_5068e 1 = .ok (.bipush 10, 2) := by decide +kernel
theorem dJ11_highSurrogate_5068e_3 : decode cJ11_highSurrogate_5068e 3 = .ok (.iushr, 1) := by decide +kernel
theorem dJ11_highSurrogate_5068e_4 : decode cJ11_highSurrogate_5068e 4 = .ok (.ldc 110, 2) := by decide +kernel
theorem dJ11_highSurrogate_5068e_6 : decode cJ11_highSurrogate_5068e 6 = .ok (.iadd, 1) := by decide +kernel
theorem dJ11_highSurrogate_5068e_7 : decode cJ11_highSurrogate_5068e 7 = .ok (.i2c, 1) := by decide +kernel
theorem dJ11_highSurrogate_5068e_8 : decode cJ11_highSurrogate_5068e 8 = .ok (.ireturn, 1) := by decide +kernel
theorem dJ11_lowSurrogate_5068e_0 : decode cJ11_lowSurrogate_5068e 0 = .ok (.iload_n 0, 1) := by decide +kernel
theorem dJ11_lowSurrogate_5068e_1 : decode cJ11_lowSurrogate_5068e 1 = .ok (.sipush 1023, 3) := by decide +kernel
theorem dJ11_lowSurrogate_5068e_4 : decode cJ11_lowSurrogate_5068e 4 = .ok (.iand, 1) := by decide +kernel
theorem dJ11_lowSurrogate_5068e_5 : decode cJ11_lowSurrogate_5068e 5 = .ok (.ldc 76, 2) := by decide +kernel
theorem dJ11_lowSurrogate_5068e_7 : decode cJ11_lowSurrogate_5068e 7 = .ok (.iadd, 1) := by decide +kernel
theorem dJ11_lowSurrogate_5068e_8 : decode cJ11_lowSurrogate_5068e 8 = .ok (.i2c, 1) := by decide +kernel
theorem dJ11_lowSurrogate_5068e_9 : decode cJ11_lowSurrogate_5068e 9 = .ok (.ireturn, 1) := by decide +kernel
theorem dJ9_max_7cf53_0 : decode cJ9_max_7cf53 0 = .ok (.iload_n 0, 1) := by decide +kernel
theorem dJ9_max_7cf53_1 : decode cJ9_max_7cf53 1 = .ok (.iload_n 1, 1) := by decide +kernel
theorem dJ9_max_7cf53_2 : decode cJ9_max_7cf53 2 = .ok (.if_icmp .lt 7, 3) := by decide +kernel
theorem dJ9_max_7cf53_5 : decode cJ9_max_7cf53 5 = .ok (.iload_n 0, 1) := by decide +kernel
theorem dJ9_max_7cf53_6 : decode cJ9_max_7cf53 6 = .ok (.goto 4, 3) := by decide +kernel
theorem dJ9_max_7cf53_9 : decode cJ9_max_7cf53 9 = .ok (.iload_n 1, 1) := by decide +kernel
theorem dJ9_max_7cf53_10 : decode cJ9_max_7cf53 10 = .ok (.ireturn, 1) := by decide +kernel
theorem dJ9_min_7cf53_0 : decode cJ9_min_7cf53 0 = .ok (.iload_n 0, 1) := by decide +kernel
theorem dJ9_min_7cf53_1 : decode cJ9_min_7cf53 1 = .ok (.iload_n 1, 1) := by decide +kernel
theorem dJ9_min_7cf53_2 : decode cJ9_min_7cf53 2 = .ok (.if_icmp .gt 7, 3) := by decide +kernel
theorem dJ9_min_7cf53_5 : decode cJ9_min_7cf53 5 = .ok (.iload_n 0, 1) := by decide +kernel
theorem dJ9_min_7cf53_6 : decode cJ9_min_7cf53 6 = .ok (.goto 4, 3) := by decide +kernel
theorem dJ9_min_7cf53_9 : decode cJ9_min_7cf53 9 = .ok (.iload_n 1, 1) := by decide +kernel
theorem dJ9_min_7cf53_10 : decode cJ9_min_7cf53 10 = .ok (.ireturn, 1) := by decide +kernel
theorem dJ0_length_8abf5_0 : decode cJ0_length_8abf5 0 = .ok (.aload_n 0, 1) := by decide +kernel
theorem dJ0_length_8abf5_1 : decode cJ0_length_8abf5 1 = .ok (.getfield 9, 3) := by decide +kernel
theorem dJ0_length_8abf5_4 : decode cJ0_length_8abf5 4 = .ok (.arraylength, 1) := by decide +kernel
theorem dJ0_length_8abf5_5 : decode cJ0_length_8abf5 5 = .ok (.aload_n 0, 1) := by decide +kernel
theorem dJ0_length_8abf5_6 : decode cJ0_length_8abf5 6 = .ok (.invokevirtual 335, 3) := by decide +kernel
theorem dJ0_length_8abf5_9 : decode cJ0_length_8abf5 9 = .ok (.ishr, 1) := by decide +kernel
theorem dJ0_length_8abf5_10 : decode cJ0_length_8abf5 10 = .ok (.ireturn, 1) := by decide +kernel
theorem dJ0_indexOf_0f7a4_0 : decode cJ0_indexOf_0f7a4 0 = .ok (.aload_n 0, 1) := by decide +kernel
theorem dJ0_indexOf_0f7a4_1 : decode cJ0_indexOf_0f7a4 1 = .ok (.iload_n 1, 1) := by decide +kernel
theorem dJ0_indexOf_0f7a4_2 : decode cJ0_indexOf_0f7a4 2 = .ok (.iconst 0, 1) := by decide +kernel
theorem dJ0_indexOf_0f7a4_3 : decode cJ0_indexOf_0f7a4 3 = .ok (.invokevirtual 633, 3) := by decide +kernel
theorem dJ0_indexOf_0f7a4_6 : decode cJ0_indexOf_0f7a4 6 = .ok (.ireturn, 1) := by decide +kernel
theorem dJ0_indexOf_7cf53_0 : decode cJ0_indexOf_7cf53 0 = .ok (.aload_n 0, 1) := by decide +kernel
theorem dJ0_indexOf_7cf53_1 : decode cJ0_indexOf_7cf53 1 = .ok (.invokevirtual 492, 3) := by decide +kernel
theorem dJ0_indexOf_7cf53_4 : decode cJ0_indexOf_7cf53 4 = .ok (.ifCond .eq 19, 3) := by decide +kernel
theorem dJ0_indexOf_7cf53_7 : decode cJ0_indexOf_7cf53 7 = .ok (.aload_n 0, 1) := by decide +kernel
theorem dJ0_indexOf_7cf53_8 : decode cJ0_indexOf_7cf53 8 = .ok (.getfield 9, 3) := by decide +kernel
theorem dJ0_indexOf_7cf53_11 : decode cJ0_indexOf_7cf53 11 = .ok (.iload_n 1, 1) := by decide +kernel
theorem dJ0_indexOf_7cf53_12 : decode cJ0_indexOf_7cf53 12 = .ok (.iload_n 2, 1) := by decide +kernel
theorem dJ0_indexOf_7cf53_13 : decode cJ0_indexOf_7cf53 13 = .ok (.aload_n 0, 1) := by decide +kernel
theorem dJ0_indexOf_7cf53_14 : decode cJ0_indexOf_7cf53 14 = .ok (.invokevirtual 505, 3) := by decide +kernel
theorem dJ0_indexOf_7cf53_17 : decode cJ0_indexOf_7cf53 17 = .ok (.invokestatic 637, 3) := by decide +kernel
theorem dJ0_indexOf_7cf53_20 : decode cJ0_indexOf_7cf53 20 = .ok (.goto 16, 3) := by decide +kernel
theorem dJ0_indexOf_7cf53_23 : decode cJ0_indexOf_7cf53 23 = .ok (.aload_n 0, 1) := by decide +kernel
theorem dJ0_indexOf_7cf53_24 : decode cJ0_indexOf_7cf53 24 = .ok (.getfield 9, 3) := by decide +kernel
theorem dJ0_indexOf_7cf53_27 : decode cJ0_indexOf_7cf53 27 = .ok (.iload_n 1, 1) := by decide +kernel
theorem dJ0_indexOf_7cf53_28 : decode cJ0_indexOf_7cf53 28 = .ok (.iload_n 2, 1) := by decide +kernel
theorem dJ0_indexOf_7cf53_29 : decode cJ0_indexOf_7cf53 29 = .ok (.aload_n 0, 1) := by decide +kernel
theorem dJ0_indexOf_7cf53_30 : decode cJ0_indexOf_7cf53 30 = .ok (.invokevirtual 505, 3) := by decide +kernel
theorem dJ0_indexOf_7cf53_33 : decode cJ0_indexOf_7cf53 33 = .ok (.invokestatic 640, 3) := by decide +kernel
theorem dJ0_indexOf_7cf53_36 : decode cJ0_indexOf_7cf53 36 = .ok (.ireturn, 1) := by decide +kernel
theorem dJ0_coder_7d493_0 : decode cJ0_coder_7d493 0 = .ok (.getstatic 38, 3) := by decide +kernel
theorem dJ0_coder_7d493_3 : decode cJ0_coder_7d493 3 = .ok (.ifCond .eq 10, 3) := by decide +kernel
theorem dJ0_coder_7d493_6 : decode cJ0_coder_7d493 6 = .ok (.aload_n 0, 1) := by decide +kernel
theorem dJ0_coder_7d493_7 : decode cJ0_coder_7d493 7 = .ok (.getfield 15, 3) := by decide +kernel
theorem dJ0_coder_7d493_10 : decode cJ0_coder_7d493 10 = .ok (.goto 4, 3) := by decide +kernel
theorem dJ0_coder_7d493_13 : decode cJ0_coder_7d493 13 = .ok (.iconst 1, 1) := by decide +kernel
theorem dJ0_coder_7d493_14 : decode cJ0_coder_7d493 14 = .ok (.ireturn, 1) := by decide +kernel
theorem dJ0_isLatin1_aae02_0 : decode cJ0_isLatin1_aae02 0 = .ok (.getstatic 38, 3) := by decide +kernel
theorem dJ0_isLatin1_aae02_3 : decode cJ0_isLatin1_aae02 3 = .ok (.ifCond .eq 14, 3) := by decide +kernel
theorem dJ0_isLatin1_aae02_6 : decode cJ0_isLatin1_aae02 6 = .ok (.aload_n 0, 1) := by decide +kernel
theorem dJ0_isLatin1_aae02_7 : decode cJ0_isLatin1_aae02 7 = .ok (.getfield 15, 3) := by decide +kernel
theorem dJ0_isLatin1_aae02_10 : decode cJ0_isLatin1_aae02 10 = .ok (.ifCond .ne 7, 3) := by decide +kernel
theorem dJ0_isLatin1_aae02_13 : decode cJ0_isLatin1_aae02 13 = .ok (.iconst 1, 1) := by decide +kernel
theorem dJ0_isLatin1_aae02_14 : decode cJ0_isLatin1_aae02 14 = .ok (.goto 4, 3) := by decide +kernel
theorem dJ0_isLatin1_aae02_17 : decode cJ0_isLatin1_aae02 17 = .ok (.iconst 0, 1) := by decide +kernel
theorem dJ0_isLatin1_aae02_18 : decode cJ0_isLatin1_aae02 18 = .ok (.ireturn, 1) := by decide +kernel
theorem dJ0_checkBoundsBeginEnd_23922_0 : decode cJ0_checkBoundsBeginEnd_23922 0 = .ok (.iload_n 0, 1) := by decide +kernel
theorem dJ0_checkBoundsBeginEnd_23922_1 : decode cJ0_checkBoundsBeginEnd_23922 1 = .ok (.iload_n 1, 1) := by decide +kernel
theorem dJ0_checkBoundsBeginEnd_23922_2 : decode cJ0_checkBoundsBeginEnd_23922 2 = .ok (.iload_n 2, 1) := by decide +kernel
theorem dJ0_checkBoundsBeginEnd_23922_3 : decode cJ0_checkBoundsBeginEnd_23922 3 = .ok (.getstatic 1053, 3) := by decide +kernel
theorem dJ0_checkBoundsBeginEnd_23922_6 : decode cJ0_checkBoundsBeginEnd_23922 6 = .ok (.invokestatic 1062, 3) := by decide +kernel
theorem dJ0_checkBoundsBeginEnd_23922_9 : decode cJ0_checkBoundsBeginEnd_23922 9 = .ok (.pop, 1) := by decide +kernel
theorem dJ0_checkBoundsBeginEnd_23922_10 : decode cJ0_checkBoundsBeginEnd_23922 10 = .ok (.return_, 1) := by decide +kernel
theorem dJ1_canEncode_9a6ad_0 : decode cJ1_canEncode_9a6ad 0 = .ok (.iload_n 0, 1) := by decide +kernel
theorem dJ1_canEncode_9a6ad_1 : decode cJ1_canEncode_9a6ad 1 = .ok (.ifCond .lt 14, 3) := by decide +kernel
theorem dJ1_canEncode_9a6ad_4 : decode cJ1_canEncode_9a6ad 4 = .ok (.iload_n 0, 1) := by decide +kernel
theorem dJ1_canEncode_9a6ad_5 : decode cJ1_canEncode_9a6ad 5 = .ok (.sipush 255, 3) := by decide +kernel
theorem dJ1_canEncode_9a6ad_8 : decode cJ1_canEncode_9a6ad 8 = .ok (.if_icmp .gt 7, 3) := by decide +kernel
theorem dJ1_canEncode_9a6ad_11 : decode cJ1_canEncode_9a6ad 11 = .ok (.iconst 1, 1) := by decide +kernel
theorem dJ1_canEncode_9a6ad_12 : decode cJ1_canEncode_9a6ad 12 = .ok (.goto 4, 3) := by decide +kernel
theorem dJ1_canEncode_9a6ad_15 : decode cJ1_canEncode_9a6ad 15 = .ok (.iconst 0, 1) := by decide +kernel
theorem dJ1_canEncode_9a6ad_16 : decode cJ1_canEncode_9a6ad 16 = .ok (.ireturn, 1) := by decide +kernel
theorem dJ1_indexOf_4cfef_0 : decode cJ1_indexOf_4cfef 0 = .ok (.iload_n 1, 1) := by decide +kernel
theorem dJ1_indexOf_4cfef_1 : decode cJ1_indexOf_4cfef 1 = .ok (.invokestatic 88, 3) := by decide +kernel
theorem dJ1_indexOf_4cfef_4 : decode cJ1_indexOf_4cfef 4 = .ok (.ifCond .ne 5, 3) := by decide +kernel
theorem dJ1_indexOf_4cfef_7 : decode cJ1_indexOf_4cfef 7 = .ok (.iconst (-1), 1) := by decide +kernel
theorem dJ1_indexOf_4cfef_8 : decode cJ1_indexOf_4cfef 8 = .ok (.ireturn, 1) := by decide +kernel
theorem dJ1_indexOf_4cfef_9 : decode cJ1_indexOf_4cfef 9 = .ok (.iload_n 2, 1) := by decide +kernel
theorem dJ1_indexOf_4cfef_10 : decode cJ1_indexOf_4cfef 10 = .ok (.iconst 0, 1) := by decide +kernel
theorem dJ1_indexOf_4cfef_11 : decode cJ1_indexOf_4cfef 11 = .ok (.invokestatic 92, 3) := by decide +kernel
theorem dJ1_indexOf_4cfef_14 : decode cJ1_indexOf_4cfef 14 = .ok (.istore_n 2, 1) := by decide +kernel
theorem dJ1_indexOf_4cfef_15 : decode cJ1_indexOf_4cfef 15 = .ok (.iload_n 3, 1) := by decide +kernel
theorem dJ1_indexOf_4cfef_16 : decode cJ1_indexOf_4cfef 16 = .ok (.aload_n 0, 1) := by decide +kernel
theorem dJ1_indexOf_4cfef_17 : decode cJ1_indexOf_4cfef 17 = .ok (.arraylength, 1) := by decide +kernel
theorem dJ1_indexOf_4cfef_18 : decode cJ1_indexOf_4cfef 18 = .ok (.invokestatic 38, 3) := by decide +kernel
theorem dJ1_indexOf_4cfef_21 : decode cJ1_indexOf_4cfef 21 = .ok (.istore_n 3, 1) := by decide +kernel
theorem dJ1_indexOf_4cfef_22 : decode cJ1_indexOf_4cfef 22 = .ok (.iload_n 2, 1) := by decide +kernel
theorem dJ1_indexOf_4cfef_23 : decode cJ1_indexOf_4cfef 23 = .ok (.iload_n 3, 1) := by decide +kernel
theorem dJ1_indexOf_4cfef_24 : decode cJ1_indexOf_4cfef 24 = .ok (.if_icmp .lt 5, 3) := by decide +kernel
theorem dJ1_indexOf_4cfef_27 : decode cJ1_indexOf_4cfef 27 = .ok (.iconst (-1), 1) := by decide +kernel
theorem dJ1_indexOf_4cfef_28 : decode cJ1_indexOf_4cfef 28 = .ok (.ireturn, 1) := by decide +kernel
theorem dJ1_indexOf_4cfef_29 : decode cJ1_indexOf_4cfef 29 = .ok (.aload_n 0, 1) := by decide +kernel
theorem dJ1_indexOf_4cfef_30 : decode cJ1_indexOf_4cfef 30 = .ok (.iload_n 1, 1) := by decide +kernel
theorem dJ1_indexOf_4cfef_31 : decode cJ1_indexOf_4cfef 31 = .ok (.iload_n 2, 1) := by decide +kernel
theorem dJ1_indexOf_4cfef_32 : decode cJ1_indexOf_4cfef 32 = .ok (.iload_n 3, 1) := by decide +kernel
theorem dJ1_indexOf_4cfef_33 : decode cJ1_indexOf_4cfef 33 = .ok (.invokestatic 95, 3) := by decide +kernel
theorem dJ1_indexOf_4cfef_36 : decode cJ1_indexOf_4cfef 36 = .ok (.ireturn, 1) := by decide +kernel
theorem dJ1_indexOfChar_4cfef_0 : decode cJ1_indexOfChar_4cfef 0 = .ok (.iload_n 1, 1) := by decide +kernel
theorem dJ1_indexOfChar_4cfef_1 : decode cJ1_indexOfChar_4cfef 1 = .ok (.i2b, 1) := by decide +kernel
theorem dJ1_indexOfChar_4cfef_2 : decode cJ1_indexOfChar_4cfef 2 = .ok (.istore 4, 2) := by decide +kernel
theorem dJ1_indexOfChar_4cfef_4 : decode cJ1_indexOfChar_4cfef 4 = .ok (.iload_n 2, 1) := by decide +kernel
theorem dJ1_indexOfChar_4cfef_5 : decode cJ1_indexOfChar_4cfef 5 = .ok (.istore 5, 2) := by decide +kernel
theorem dJ1_indexOfChar_4cfef_7 : decode cJ1_indexOfChar_4cfef 7 = .ok (.iload 5, 2) := by decide +kernel
theorem dJ1_indexOfChar_4cfef_9 : decode cJ1_indexOfChar_4cfef 9 = .ok (.iload_n 3, 1) := by decide +kernel
theorem dJ1_indexOfChar_4cfef_10 : decode cJ1_indexOfChar_4cfef 10 = .ok (.if_icmp .ge 21, 3) := by decide +kernel
theorem dJ1_indexOfChar_4cfef_13 : decode cJ1_indexOfChar_4cfef 13 = .ok (.aload_n 0, 1) := by decide +kernel
theorem dJ1_indexOfChar_4cfef_14 : decode cJ1_indexOfChar_4cfef 14 = .ok (.iload 5, 2) := by decide +kernel
theorem dJ1_indexOfChar_4cfef_16 : decode cJ1_indexOfChar_4cfef 16 = .ok (.baload, 1) := by decide +kernel
theorem dJ1_indexOfChar_4cfef_17 : decode cJ1_indexOfChar_4cfef 17 = .ok (.iload 4, 2) := by decide +kernel
theorem dJ1_indexOfChar_4cfef_19 : decode cJ1_indexOfChar_4cfef 19 = .ok (.if_icmp .ne 6, 3) := by decide +kernel
theorem dJ1_indexOfChar_4cfef_22 : decode cJ1_indexOfChar_4cfef 22 = .ok (.iload 5, 2) := by decide +kernel
theorem dJ1_indexOfChar_4cfef_24 : decode cJ1_indexOfChar_4cfef 24 = .ok (.ireturn, 1) := by decide +kernel
theorem dJ1_indexOfChar_4cfef_25 : decode cJ1_indexOfChar_4cfef 25 = .ok (.iinc 5 1, 3) := by decide +kernel
theorem dJ1_indexOfChar_4cfef_28 : decode cJ1_indexOfChar_4cfef 28 = .ok (.goto (-21), 3) := by decide +kernel
theorem dJ1_indexOfChar_4cfef_31 : decode cJ1_indexOfChar_4cfef 31 = .ok (.iconst (-1), 1) := by decide +kernel
theorem dJ1_indexOfChar_4cfef_32 : decode cJ1_indexOfChar_4cfef 32 = .ok (.ireturn, 1) := by decide +kernel
theorem dJ2_getChar_3b067_0 : decode cJ2_getChar_3b067 0 = .ok (.getstatic 44, 3) := by decide +kernel
theorem dJ2_getChar_3b067_3 : decode cJ2_getChar_3b067 3 = .ok (.ifCond .ne 25, 3) := by decide +kernel
theorem dJ2_getChar_3b067_6 : decode cJ2_getChar_3b067 6 = .ok (.iload_n 1, 1) := by decide +kernel
theorem dJ2_getChar_3b067_7 : decode cJ2_getChar_3b067 7 = .ok (.ifCond .lt 11, 3) := by decide +kernel
theorem dJ2_getChar_3b067_10 : decode cJ2_getChar_3b067 10 = .ok (.iload_n 1, 1) := by decide +kernel
theorem dJ2_getChar_3b067_11 : decode cJ2_getChar_3b067 11 = .ok (.aload_n 0, 1) := by decide +kernel
theorem dJ2_getChar_3b067_12 : decode cJ2_getChar_3b067 12 = .ok (.invokestatic 48, 3) := by decide +kernel
theorem dJ2_getChar_3b067_15 : decode cJ2_getChar_3b067 15 = .ok (.if_icmp .lt 13, 3) := by decide +kernel
theorem dJ2_getChar_3b067_18 : decode cJ2_getChar_3b067 18 = .ok (.new 52, 3) := by decide +kernel
theorem dJ2_getChar_3b067_21 : decode cJ2_getChar_3b067 21 = .ok (.dup, 1) := by decide +kernel
theorem dJ2_getChar_3b067_22 : decode cJ2_getChar_3b067 22 = .ok (.ldc 54, 2) := by decide +kernel
theorem dJ2_getChar_3b067_24 : decode cJ2_getChar_3b067 24 = .ok (.invokespecial 56, 3) := by decide +kernel
theorem dJ2_getChar_3b067_27 : decode cJ2_getChar_3b067 27 = .ok (.athrow, 1) := by decide +kernel
theorem dJ2_getChar_3b067_28 : decode cJ2_getChar_3b067 28 = .ok (.iload_n 1, 1) := by decide +kernel
theorem dJ2_getChar_3b067_29 : decode cJ2_getChar_3b067 29 = .ok (.iconst 1, 1) := by decide +kernel
theorem dJ2_getChar_3b067_30 : decode cJ2_getChar_3b067 30 = .ok (.ishl, 1) := by decide +kernel
theorem dJ2_getChar_3b067_31 : decode cJ2_getChar_3b067 31 = .ok (.istore_n 1, 1) := by decide +kernel
theorem dJ2_getChar_3b067_32 : decode cJ2_getChar_3b067 32 = .ok (.aload_n 0, 1) := by decide +kernel
theorem dJ2_getChar_3b067_33 : decode cJ2_getChar_3b067 33 = .ok (.iload_n 1, 1) := by decide +kernel
theorem dJ2_getChar_3b067_34 : decode cJ2_getChar_3b067 34 = .ok (.iinc 1 1, 3) := by decide +kernel
theorem dJ2_getChar_3b067_37 : decode cJ2_getChar_3b067 37 = .ok (.baload, 1) := by decide +kernel
theorem dJ2_getChar_3b067_38 : decode cJ2_getChar_3b067 38 = .ok (.sipush 255, 3) := by decide +kernel
theorem dJ2_getChar_3b067_41 : decode cJ2_getChar_3b067 41 = .ok (.iand, 1) := by decide +kernel
theorem dJ2_getChar_3b067_42 : decode cJ2_getChar_3b067 42 = .ok (.getstatic 59, 3) := by decide +kernel
theorem dJ2_getChar_3b067_45 : decode cJ2_getChar_3b067 45 = .ok (.ishl, 1) := by decide +kernel
theorem dJ2_getChar_3b067_46 : decode cJ2_getChar_3b067 46 = .ok (.aload_n 0, 1) := by decide +kernel
theorem dJ2_getChar_3b067_47 : decode cJ2_getChar_3b067 47 = .ok (.iload_n 1, 1) := by decide +kernel
theorem dJ2_getChar_3b067_48 : decode cJ2_getChar_3b067 48 = .ok (.baload, 1) := by decide +kernel
theorem dJ2_getChar_3b067_49 : decode cJ2_getChar_3b067 49 = .ok (.sipush 255, 3) := by decide +kernel
theorem dJ2_getChar_3b067_52 : decode cJ2_getChar_3b067 52 = .ok (.iand, 1) := by decide +kernel
theorem dJ2_getChar_3b067_53 : decode cJ2_getChar_3b067 53 = .ok (.getstatic 63, 3) := by decide +kernel
theorem dJ2_getChar_3b067_56 : decode cJ2_getChar_3b067 56 = .ok (.ishl, 1) := by decide +kernel
theorem dJ2_getChar_3b067_57 : decode cJ2_getChar_3b067 57 = .ok (.ior, 1) := by decide +kernel
theorem dJ2_getChar_3b067_58 : decode cJ2_getChar_3b067 58 = .ok (.i2c, 1) := by decide +kernel
theorem dJ2_getChar_3b067_59 : decode cJ2_getChar_3b067 59 = .ok (.ireturn, 1) := by decide +kernel
theorem dJ2_length_9d52b_0 : decode cJ2_length_9d52b 0 = .ok (.aload_n 0, 1) := by decide +kernel
theorem dJ2_length_9d52b_1 : decode cJ2_length_9d52b 1 = .ok (.arraylength, 1) := by decide +kernel
theorem dJ2_length_9d52b_2 : decode cJ2_length_9d52b 2 = .ok (.iconst 1, 1) := by decide +kernel
theorem dJ2_length_9d52b_3 : decode cJ2_length_9d52b 3 = .ok (.ishr, 1) := by decide +kernel
theorem dJ2_length_9d52b_4 : decode cJ2_length_9d52b 4 = .ok (.ireturn, 1) := by decide +kernel
theorem dJ2_indexOf_4cfef_0 : decode cJ2_indexOf_4cfef 0 = .ok (.iload_n 2, 1) := by decide +kernel
theorem dJ2_indexOf_4cfef_1 : decode cJ2_indexOf_4cfef 1 = .ok (.iconst 0, 1) := by decide +kernel
theorem dJ2_indexOf_4cfef_2 : decode cJ2_indexOf_4cfef 2 = .ok (.invokestatic 224, 3) := by decide +kernel
theorem dJ2_indexOf_4cfef_5 : decode cJ2_indexOf_4cfef 5 = .ok (.istore_n 2, 1) := by decide +kernel
theorem dJ2_indexOf_4cfef_6 : decode cJ2_indexOf_4cfef 6 = .ok (.iload_n 3, 1) := by decide +kernel
theorem dJ2_indexOf_4cfef_7 : decode cJ2_indexOf_4cfef 7 = .ok (.aload_n 0, 1) := by decide +kernel
theorem dJ2_indexOf_4cfef_8 : decode cJ2_indexOf_4cfef 8 = .ok (.arraylength, 1) := by decide +kernel
theorem dJ2_indexOf_4cfef_9 : decode cJ2_indexOf_4cfef 9 = .ok (.iconst 1, 1) := by decide +kernel
theorem dJ2_indexOf_4cfef_10 : decode cJ2_indexOf_4cfef 10 = .ok (.ishr, 1) := by decide +kernel
theorem dJ2_indexOf_4cfef_11 : decode cJ2_indexOf_4cfef 11 = .ok (.invokestatic 183, 3) := by decide +kernel
theorem dJ2_indexOf_4cfef_14 : decode cJ2_indexOf_4cfef 14 = .ok (.istore_n 3, 1) := by decide +kernel
theorem dJ2_indexOf_4cfef_15 : decode cJ2_indexOf_4cfef 15 = .ok (.iload_n 2, 1) := by decide +kernel
theorem dJ2_indexOf_4cfef_16 : decode cJ2_indexOf_4cfef 16 = .ok (.iload_n 3, 1) := by decide +kernel
theorem dJ2_indexOf_4cfef_17 : decode cJ2_indexOf_4cfef 17 = .ok (.if_icmp .lt 5, 3) := by decide +kernel
theorem dJ2_indexOf_4cfef_20 : decode cJ2_indexOf_4cfef 20 = .ok (.iconst (-1), 1) := by decide +kernel
theorem dJ2_indexOf_4cfef_21 : decode cJ2_indexOf_4cfef 21 = .ok (.ireturn, 1) := by decide +kernel
theorem dJ2_indexOf_4cfef_22 : decode cJ2_indexOf_4cfef 22 = .ok (.iload_n 1, 1) := by decide +kernel
theorem dJ2_indexOf_4cfef_23 : decode cJ2_indexOf_4cfef 23 = .ok (.ldc 227, 2) := by decide +kernel
theorem dJ2_indexOf_4cfef_25 : decode cJ2_indexOf_4cfef 25 = .ok (.if_icmp .ge 11, 3) := by decide +kernel
theorem dJ2_indexOf_4cfef_28 : decode cJ2_indexOf_4cfef 28 = .ok (.aload_n 0, 1) := by decide +kernel
theorem dJ2_indexOf_4cfef_29 : decode cJ2_indexOf_4cfef 29 = .ok (.iload_n 1, 1) := by decide +kernel
theorem dJ2_indexOf_4cfef_30 : decode cJ2_indexOf_4cfef 30 = .ok (.iload_n 2, 1) := by decide +kernel
theorem dJ2_indexOf_4cfef_31 : decode cJ2_indexOf_4cfef 31 = .ok (.iload_n 3, 1) := by decide +kernel
theorem dJ2_indexOf_4cfef_32 : decode cJ2_indexOf_4cfef 32 = .ok (.invokestatic 228, 3) := by decide +kernel
theorem dJ2_indexOf_4cfef_35 : decode cJ2_indexOf_4cfef 35 = .ok (.ireturn, 1) := by decide +kernel
theorem dJ2_indexOf_4cfef_36 : decode cJ2_indexOf_4cfef 36 = .ok (.aload_n 0, 1) := by decide +kernel
theorem dJ2_indexOf_4cfef_37 : decode cJ2_indexOf_4cfef 37 = .ok (.iload_n 1, 1) := by decide +kernel
theorem dJ2_indexOf_4cfef_38 : decode cJ2_indexOf_4cfef 38 = .ok (.iload_n 2, 1) := by decide +kernel
theorem dJ2_indexOf_4cfef_39 : decode cJ2_indexOf_4cfef 39 = .ok (.iload_n 3, 1) := by decide +kernel
theorem dJ2_indexOf_4cfef_40 : decode cJ2_indexOf_4cfef 40 = .ok (.invokestatic 232, 3) := by decide +kernel
theorem dJ2_indexOf_4cfef_43 : decode cJ2_indexOf_4cfef 43 = .ok (.ireturn, 1) := by decide +kernel
theorem dJ2_indexOfChar_4cfef_0 : decode cJ2_indexOfChar_4cfef 0 = .ok (.iload_n 2, 1) := by decide +kernel
theorem dJ2_indexOfChar_4cfef_1 : decode cJ2_indexOfChar_4cfef 1 = .ok (.iload_n 3, 1) := by decide +kernel
theorem dJ2_indexOfChar_4cfef_2 : decode cJ2_indexOfChar_4cfef 2 = .ok (.aload_n 0, 1) := by decide +kernel
theorem dJ2_indexOfChar_4cfef_3 : decode cJ2_indexOfChar_4cfef 3 = .ok (.invokestatic 96, 3) := by decide +kernel
theorem dJ2_indexOfChar_4cfef_6 : decode cJ2_indexOfChar_4cfef 6 = .ok (.aload_n 0, 1) := by decide +kernel
theorem dJ2_indexOfChar_4cfef_7 : decode cJ2_indexOfChar_4cfef 7 = .ok (.iload_n 1, 1) := by decide +kernel
theorem dJ2_indexOfChar_4cfef_8 : decode cJ2_indexOfChar_4cfef 8 = .ok (.iload_n 2, 1) := by decide +kernel
theorem dJ2_indexOfChar_4cfef_9 : decode cJ2_indexOfChar_4cfef 9 = .ok (.iload_n 3, 1) := by decide +kernel
theorem dJ2_indexOfChar_4cfef_10 : decode cJ2_indexOfChar_4cfef 10 = .ok (.invokestatic 244, 3) := by decide +kernel
theorem dJ2_indexOfChar_4cfef_13 : decode cJ2_indexOfChar_4cfef 13 = .ok (.ireturn, 1) := by decide +kernel
theorem dJ2_indexOfCharUnsafe_4cfef_0 : decode cJ2_indexOfCharUnsafe_4cfef 0 = .ok (.iload_n 2, 1) := by decide +kernel
theorem dJ2_indexOfCharUnsafe_4cfef_1 : decode cJ2_indexOfCharUnsafe_4cfef 1 = .ok (.istore 4, 2) := by decide +kernel
theorem dJ2_indexOfCharUnsafe_4cfef_3 : decode cJ2_indexOfCharUnsafe_4cfef 3 = .ok (.iload 4, 2) := by decide +kernel
theorem dJ2_indexOfCharUnsafe_4cfef_5 : decode cJ2_indexOfCharUnsafe_4cfef 5 = .ok (.iload_n 3, 1) := by decide +kernel
theorem dJ2_indexOfCharUnsafe_4cfef_6 : decode cJ2_indexOfCharUnsafe_4cfef 6 = .ok (.if_icmp .ge 22, 3) := by decide +kernel
theorem dJ2_indexOfCharUnsafe_4cfef_9 : decode cJ2_indexOfCharUnsafe_4cfef 9 = .ok (.aload_n 0, 1) := by decide +kernel
theorem dJ2_indexOfCharUnsafe_4cfef_10 : decode cJ2_indexOfCharUnsafe_4cfef 10 = .ok (.iload 4, 2) := by decide +kernel
theorem dJ2_indexOfCharUnsafe_4cfef_12 : decode cJ2_indexOfCharUnsafe_4cfef 12 = .ok (.invokestatic 71, 3) := by decide +kernel
theorem dJ2_indexOfCharUnsafe_4cfef_15 : decode cJ2_indexOfCharUnsafe_4cfef 15 = .ok (.iload_n 1, 1) := by decide +kernel
theorem dJ2_indexOfCharUnsafe_4cfef_16 : decode cJ2_indexOfCharUnsafe_4cfef 16 = .ok (.if_icmp .ne 6, 3) := by decide +kernel
theorem dJ2_indexOfCharUnsafe_4cfef_19 : decode cJ2_indexOfCharUnsafe_4cfef 19 = .ok (.iload 4, 2) := by decide +kernel
theorem dJ2_indexOfCharUnsafe_4cfef_21 : decode cJ2_indexOfCharUnsafe_4cfef 21 = .ok (.ireturn, 1) := by decide +kernel
theorem dJ2_indexOfCharUnsafe_4cfef_22 : decode cJ2_indexOfCharUnsafe_4cfef 22 = .ok (.iinc 4 1, 3) := by decide +kernel
theorem dJ2_indexOfCharUnsafe_4cfef_25 : decode cJ2_indexOfCharUnsafe_4cfef 25 = .ok (.goto (-22), 3) := by decide +kernel
theorem dJ2_indexOfCharUnsafe_4cfef_28 : decode cJ2_indexOfCharUnsafe_4cfef 28 = .ok (.iconst (-1), 1) := by decide +kernel
theorem dJ2_indexOfCharUnsafe_4cfef_29 : decode cJ2_indexOfCharUnsafe_4cfef 29 = .ok (.ireturn, 1) := by decide +kernel
theorem dJ2_indexOfSupplementary_4cfef_0 : decode cJ2_indexOfSupplementary_4cfef 0 = .ok (.iload_n 1, 1) := by decide +kernel
theorem dJ2_indexOfSupplementary_4cfef_1 : decode cJ2_indexOfSupplementary_4cfef 1 = .ok (.invokestatic 164, 3) := by decide +kernel
theorem dJ2_indexOfSupplementary_4cfef_4 : decode cJ2_indexOfSupplementary_4cfef 4 = .ok (.ifCond .eq 65, 3) := by decide +kernel
theorem dJ2_indexOfSupplementary_4cfef_7 : decode cJ2_indexOfSupplementary_4cfef 7 = .ok (.iload_n 1, 1) := by decide +kernel
theorem dJ2_indexOfSupplementary_4cfef_8 : decode cJ2_indexOfSupplementary_4cfef 8 = .ok (.invokestatic 157, 3) := by decide +kernel
theorem dJ2_indexOfSupplementary_4cfef_11 : decode cJ2_indexOfSupplementary_4cfef 11 = .ok (.istore 4, 2) := by decide +kernel
theorem dJ2_indexOfSupplementary_4cfef_13 : decode cJ2_indexOfSupplementary_4cfef 13 = .ok (.iload_n 1, 1) := by decide +kernel
theorem dJ2_indexOfSupplementary_4cfef_14 : decode cJ2_indexOfSupplementary_4cfef 14 = .ok (.invokestatic 161, 3) := by decide +kernel
theorem dJ2_indexOfSupplementary_4cfef_17 : decode cJ2_indexOfSupplementary_4cfef 17 = .ok (.istore 5, 2) := by decide +kernel
theorem dJ2_indexOfSupplementary_4cfef_19 : decode cJ2_indexOfSupplementary_4cfef 19 = .ok (.iload_n 2, 1) := by decide +kernel
theorem dJ2_indexOfSupplementary_4cfef_20 : decode cJ2_indexOfSupplementary_4cfef 20 = .ok (.iload_n 3, 1) := by decide +kernel
theorem dJ2_indexOfSupplementary_4cfef_21 : decode cJ2_indexOfSupplementary_4cfef 21 = .ok (.aload_n 0, 1) := by decide +kernel
theorem dJ2_indexOfSupplementary_4cfef_22 : decode cJ2_indexOfSupplementary_4cfef 22 = .ok (.invokestatic 96, 3) := by decide +kernel
theorem dJ2_indexOfSupplementary_4cfef_25 : decode cJ2_indexOfSupplementary_4cfef 25 = .ok (.iload_n 2, 1) := by decide +kernel
theorem dJ2_indexOfSupplementary_4cfef_26 : decode cJ2_indexOfSupplementary_4cfef 26 = .ok (.istore 6, 2) := by decide +kernel
theorem dJ2_indexOfSupplementary_4cfef_28 : decode cJ2_indexOfSupplementary_4cfef 28 = .ok (.iload 6, 2) := by decide +kernel
theorem dJ2_indexOfSupplementary_4cfef_30 : decode cJ2_indexOfSupplementary_4cfef 30 = .ok (.iload_n 3, 1) := by decide +kernel
theorem dJ2_indexOfSupplementary_4cfef_31 : decode cJ2_indexOfSupplementary_4cfef 31 = .ok (.iconst 1, 1) := by decide +kernel
theorem dJ2_indexOfSupplementary_4cfef_32 : decode cJ2_indexOfSupplementary_4cfef 32 = .ok (.isub, 1) := by decide +kernel
theorem dJ2_indexOfSupplementary_4cfef_33 : decode cJ2_indexOfSupplementary_4cfef 33 = .ok (.if_icmp .ge 36, 3) := by decide +kernel
theorem dJ2_indexOfSupplementary_4cfef_36 : decode cJ2_indexOfSupplementary_4cfef 36 = .ok (.aload_n 0, 1) := by decide +kernel
theorem dJ2_indexOfSupplementary_4cfef_37 : decode cJ2_indexOfSupplementary_4cfef 37 = .ok (.iload 6, 2) := by decide +kernel
theorem dJ2_indexOfSupplementary_4cfef_39 : decode cJ2_indexOfSupplementary_4cfef 39 = .ok (.invokestatic 71, 3) := by decide +kernel
theorem dJ2_indexOfSupplementary_4cfef_42 : decode cJ2_indexOfSupplementary_4cfef 42 = .ok (.iload 4, 2) := by decide +kernel
theorem dJ2_indexOfSupplementary_4cfef_44 : decode cJ2_indexOfSupplementary_4cfef 44 = .ok (.if_icmp .ne 19, 3) := by decide +kernel
theorem dJ2_indexOfSupplementary_4cfef_47 : decode cJ2_indexOfSupplementary_4cfef 47 = .ok (.aload_n 0, 1) := by decide +kernel
theorem dJ2_indexOfSupplementary_4cfef_48 : decode cJ2_indexOfSupplementary_4cfef 48 = .ok (.iload 6, 2) := by decide +kernel
theorem dJ2_indexOfSupplementary_4cfef_50 : decode cJ2_indexOfSupplementary_4cfef 50 = .ok (.iconst 1, 1) := by decide +kernel
theorem dJ2_indexOfSupplementary_4cfef_51 : decode cJ2_indexOfSupplementary_4cfef 51 = .ok (.iadd, 1) := by decide +kernel
theorem dJ2_indexOfSupplementary_4cfef_52 : decode cJ2_indexOfSupplementary_4cfef 52 = .ok (.invokestatic 71, 3) := by decide +kernel
theorem dJ2_indexOfSupplementary_4cfef_55 : decode cJ2_indexOfSupplementary_4cfef 55 = .ok (.iload 5, 2) := by decide +kernel
theorem dJ2_indexOfSupplementary_4cfef_57 : decode cJ2_indexOfSupplementary_4cfef 57 = .ok (.if_icmp .ne 6, 3) := by decide +kernel
theorem dJ2_indexOfSupplementary_4cfef_60 : decode cJ2_indexOfSupplementary_4cfef 60 = .ok (.iload 6, 2) := by decide +kernel
theorem dJ2_indexOfSupplementary_4cfef_62 : decode cJ2_indexOfSupplementary_4cfef 62 = .ok (.ireturn, 1) := by decide +kernel
theorem dJ2_indexOfSupplementary_4cfef_63 : decode cJ2_indexOfSupplementary_4cfef 63 = .ok (.iinc 6 1, 3) := by decide +kernel
theorem dJ2_indexOfSupplementary_4cfef_66 : decode cJ2_indexOfSupplementary_4cfef 66 = .ok (.goto (-38), 3) := by decide +kernel
theorem dJ2_indexOfSupplementary_4cfef_69 : decode cJ2_indexOfSupplementary_4cfef 69 = .ok (.iconst (-1), 1) := by decide +kernel
theorem dJ2_indexOfSupplementary_4cfef_70 : decode cJ2_indexOfSupplementary_4cfef 70 = .ok (.ireturn, 1) := by decide +kernel
theorem dJ2_checkBoundsBeginEnd_d044e_0 : decode cJ2_checkBoundsBeginEnd_d044e 0 = .ok (.iload_n 0, 1) := by decide +kernel
theorem dJ2_checkBoundsBeginEnd_d044e_1 : decode cJ2_checkBoundsBeginEnd_d044e 1 = .ok (.iload_n 1, 1) := by decide +kernel
theorem dJ2_checkBoundsBeginEnd_d044e_2 : decode cJ2_checkBoundsBeginEnd_d044e 2 = .ok (.aload_n 2, 1) := by decide +kernel
theorem dJ2_checkBoundsBeginEnd_d044e_3 : decode cJ2_checkBoundsBeginEnd_d044e 3 = .ok (.invokestatic 48, 3) := by decide +kernel
theorem dJ2_checkBoundsBeginEnd_d044e_6 : decode cJ2_checkBoundsBeginEnd_d044e 6 = .ok (.invokestatic 241, 3) := by decide +kernel
theorem dJ2_checkBoundsBeginEnd_d044e_9 : decode cJ2_checkBoundsBeginEnd_d044e 9 = .ok (.return_, 1) := by decide +kernel
theorem dJ7_fill_53178_0 : decode cJ7_fill_53178 0 = .ok (.iconst 0, 1) := by decide +kernel
theorem dJ7_fill_53178_1 : decode cJ7_fill_53178 1 = .ok (.istore_n 2, 1) := by decide +kernel
theorem dJ7_fill_53178_2 : decode cJ7_fill_53178 2 = .ok (.aload_n 0, 1) := by decide +kernel
theorem dJ7_fill_53178_3 : decode cJ7_fill_53178 3 = .ok (.arraylength, 1) := by decide +kernel
theorem dJ7_fill_53178_4 : decode cJ7_fill_53178 4 = .ok (.istore_n 3, 1) := by decide +kernel
theorem dJ7_fill_53178_5 : decode cJ7_fill_53178 5 = .ok (.iload_n 2, 1) := by decide +kernel
theorem dJ7_fill_53178_6 : decode cJ7_fill_53178 6 = .ok (.iload_n 3, 1) := by decide +kernel
theorem dJ7_fill_53178_7 : decode cJ7_fill_53178 7 = .ok (.if_icmp .ge 13, 3) := by decide +kernel
theorem dJ7_fill_53178_10 : decode cJ7_fill_53178 10 = .ok (.aload_n 0, 1) := by decide +kernel
theorem dJ7_fill_53178_11 : decode cJ7_fill_53178 11 = .ok (.iload_n 2, 1) := by decide +kernel
theorem dJ7_fill_53178_12 : decode cJ7_fill_53178 12 = .ok (.iload_n 1, 1) := by decide +kernel
theorem dJ7_fill_53178_13 : decode cJ7_fill_53178 13 = .ok (.iastore, 1) := by decide +kernel
theorem dJ7_fill_53178_14 : decode cJ7_fill_53178 14 = .ok (.iinc 2 1, 3) := by decide +kernel
theorem dJ7_fill_53178_17 : decode cJ7_fill_53178 17 = .ok (.goto (-12), 3) := by decide +kernel
theorem dJ7_fill_53178_20 : decode cJ7_fill_53178 20 = .ok (.return_, 1) := by decide +kernel
theorem dJ7_copyOf_59c91_0 : decode cJ7_copyOf_59c91 0 = .ok (.iload_n 1, 1) := by decide +kernel
theorem dJ7_copyOf_59c91_1 : decode cJ7_copyOf_59c91 1 = .ok (.aload_n 0, 1) := by decide +kernel
theorem dJ7_copyOf_59c91_2 : decode cJ7_copyOf_59c91 2 = .ok (.arraylength, 1) := by decide +kernel
theorem dJ7_copyOf_59c91_3 : decode cJ7_copyOf_59c91 3 = .ok (.if_icmp .ne 11, 3) := by decide +kernel
theorem dJ7_copyOf_59c91_6 : decode cJ7_copyOf_59c91 6 = .ok (.aload_n 0, 1) := by decide +kernel
theorem dJ7_copyOf_59c91_7 : decode cJ7_copyOf_59c91 7 = .ok (.invokevirtual 316, 3) := by decide +kernel
theorem dJ7_copyOf_59c91_10 : decode cJ7_copyOf_59c91 10 = .ok (.checkcast 317, 3) := by decide +kernel
theorem dJ7_copyOf_59c91_13 : decode cJ7_copyOf_59c91 13 = .ok (.areturn, 1) := by decide +kernel
theorem dJ7_copyOf_59c91_14 : decode cJ7_copyOf_59c91 14 = .ok (.iload_n 1, 1) := by decide +kernel
theorem dJ7_copyOf_59c91_15 : decode cJ7_copyOf_59c91 15 = .ok (.newarray .int, 2) := by decide +kernel
theorem dJ7_copyOf_59c91_17 : decode cJ7_copyOf_59c91 17 = .ok (.astore_n 2, 1) := by decide +kernel
theorem dJ7_copyOf_59c91_18 : decode cJ7_copyOf_59c91 18 = .ok (.aload_n 0, 1) := by decide +kernel
theorem dJ7_copyOf_59c91_19 : decode cJ7_copyOf_59c91 19 = .ok (.iconst 0, 1) := by decide +kernel
theorem dJ7_copyOf_59c91_20 : decode cJ7_copyOf_59c91 20 = .ok (.aload_n 2, 1) := by decide +kernel
theorem dJ7_copyOf_59c91_21 : decode cJ7_copyOf_59c91 21 = .ok (.iconst 0, 1) := by decide +kernel
theorem dJ7_copyOf_59c91_22 : decode cJ7_copyOf_59c91 22 = .ok (.aload_n 0, 1) := by decide +kernel
theorem dJ7_copyOf_59c91_23 : decode cJ7_copyOf_59c91 23 = .ok (.arraylength, 1) := by decide +kernel
theorem dJ7_copyOf_59c91_24 : decode cJ7_copyOf_59c91 24 = .ok (.iload_n 1, 1) := by decide +kernel
theorem dJ7_copyOf_59c91_25 : decode cJ7_copyOf_59c91 25 = .ok (.invokestatic 304, 3) := by decide +kernel
theorem dJ7_copyOf_59c91_28 : decode cJ7_copyOf_59c91 28 = .ok (.invokestatic 150, 3) := by decide +kernel
theorem dJ7_copyOf_59c91_31 : decode cJ7_copyOf_59c91 31 = .ok (.aload_n 2, 1) := by decide +kernel
theorem dJ7_copyOf_59c91_32 : decode cJ7_copyOf_59c91 32 = .ok (.areturn, 1) := by decide +kernel
theorem dJ3_checkFromToIndex_8c36e_0 : decode cJ3_checkFromToIndex_8c36e 0 = .ok (.iload_n 0, 1) := by decide +kernel
theorem dJ3_checkFromToIndex_8c36e_1 : decode cJ3_checkFromToIndex_8c36e 1 = .ok (.ifCond .lt 13, 3) := by decide +kernel
theorem dJ3_checkFromToIndex_8c36e_4 : decode cJ3_checkFromToIndex_8c36e 4 = .ok (.iload_n 0, 1) := by decide +kernel
theorem dJ3_checkFromToIndex_8c36e_5 : decode cJ3_checkFromToIndex_8c36e 5 = .ok (.iload_n 1, 1) := by decide +kernel
theorem dJ3_checkFromToIndex_8c36e_6 : decode cJ3_checkFromToIndex_8c36e 6 = .ok (.if_icmp .gt 8, 3) := by decide +kernel
theorem dJ3_checkFromToIndex_8c36e_9 : decode cJ3_checkFromToIndex_8c36e 9 = .ok (.iload_n 1, 1) := by decide +kernel
theorem dJ3_checkFromToIndex_8c36e_10 : decode cJ3_checkFromToIndex_8c36e 10 = .ok (.iload_n 2, 1) := by decide +kernel
theorem dJ3_checkFromToIndex_8c36e_11 : decode cJ3_checkFromToIndex_8c36e 11 = .ok (.if_icmp .le 11, 3) := by decide +kernel
theorem dJ3_checkFromToIndex_8c36e_14 : decode cJ3_checkFromToIndex_8c36e 14 = .ok (.aload_n 3, 1) := by decide +kernel
theorem dJ3_checkFromToIndex_8c36e_15 : decode cJ3_checkFromToIndex_8c36e 15 = .ok (.iload_n 0, 1) := by decide +kernel
theorem dJ3_checkFromToIndex_8c36e_16 : decode cJ3_checkFromToIndex_8c36e 16 = .ok (.iload_n 1, 1) := by decide +kernel
theorem dJ3_checkFromToIndex_8c36e_17 : decode cJ3_checkFromToIndex_8c36e 17 = .ok (.iload_n 2, 1) := by decide +kernel
theorem dJ3_checkFromToIndex_8c36e_18 : decode cJ3_checkFromToIndex_8c36e 18 = .ok (.invokestatic 99, 3) := by decide +kernel
theorem dJ3_checkFromToIndex_8c36e_21 : decode cJ3_checkFromToIndex_8c36e 21 = .ok (.athrow, 1) := by decide +kernel
theorem dJ3_checkFromToIndex_8c36e_22 : decode cJ3_checkFromToIndex_8c36e 22 = .ok (.iload_n 0, 1) := by decide +kernel
theorem dJ3_checkFromToIndex_8c36e_23 : decode cJ3_checkFromToIndex_8c36e 23 = .ok (.ireturn, 1) := by decide +kernel
theorem dL_cell_0 : decode cL_cell 0 = .ok (.iload_n 1, 1) := by decide +kernel
theorem dL_cell_1 : decode cL_cell 1 = .ok (.aload_n 0, 1) := by decide +kernel
theorem dL_cell_2 : decode cL_cell 2 = .ok (.arraylength, 1) := by decide +kernel
theorem dL_cell_3 : decode cL_cell 3 = .ok (.if_icmp .ge 9, 3) := by decide +kernel
theorem dL_cell_6 : decode cL_cell 6 = .ok (.aload_n 0, 1) := by decide +kernel
theorem dL_cell_7 : decode cL_cell 7 = .ok (.iload_n 1, 1) := by decide +kernel
theorem dL_cell_8 : decode cL_cell 8 = .ok (.iaload, 1) := by decide +kernel
theorem dL_cell_9 : decode cL_cell 9 = .ok (.goto 4, 3) := by decide +kernel
theorem dL_cell_12 : decode cL_cell 12 = .ok (.iconst 0, 1) := by decide +kernel
theorem dL_cell_13 : decode cL_cell 13 = .ok (.ireturn, 1) := by decide +kernel
theorem dL_read_0 : decode cL_read 0 = .ok (.aload_n 1, 1) := by decide +kernel
theorem dL_read_1 : decode cL_read 1 = .ok (.iconst 0, 1) := by decide +kernel
theorem dL_read_2 : decode cL_read 2 = .ok (.aload_n 0, 1) := by decide +kernel
theorem dL_read_3 : decode cL_read 3 = .ok (.invokevirtual 7, 3) := by decide +kernel
theorem dL_read_6 : decode cL_read 6 = .ok (.i2l, 1) := by decide +kernel
theorem dL_read_7 : decode cL_read 7 = .ok (.lastore, 1) := by decide +kernel
theorem dL_read_8 : decode cL_read 8 = .ok (.goto 6, 3) := by decide +kernel
theorem dL_read_11 : decode cL_read 11 = .ok (.astore_n 2, 1) := by decide +kernel
theorem dL_read_12 : decode cL_read 12 = .ok (.iconst 1, 1) := by decide +kernel
theorem dL_read_13 : decode cL_read 13 = .ok (.ireturn, 1) := by decide +kernel
theorem dL_read_14 : decode cL_read 14 = .ok (.iconst 0, 1) := by decide +kernel
theorem dL_read_15 : decode cL_read 15 = .ok (.ireturn, 1) := by decide +kernel
theorem dL_at_0 : decode cL_at 0 = .ok (.aload_n 3, 1) := by decide +kernel
theorem dL_at_1 : decode cL_at 1 = .ok (.iconst 0, 1) := by decide +kernel
theorem dL_at_2 : decode cL_at 2 = .ok (.aload_n 0, 1) := by decide +kernel
theorem dL_at_3 : decode cL_at 3 = .ok (.iload_n 1, 1) := by decide +kernel
theorem dL_at_4 : decode cL_at 4 = .ok (.iload_n 2, 1) := by decide +kernel
theorem dL_at_5 : decode cL_at 5 = .ok (.invokevirtual 15, 3) := by decide +kernel
theorem dL_at_8 : decode cL_at 8 = .ok (.i2l, 1) := by decide +kernel
theorem dL_at_9 : decode cL_at 9 = .ok (.lastore, 1) := by decide +kernel
theorem dL_at_10 : decode cL_at 10 = .ok (.goto 7, 3) := by decide +kernel
theorem dL_at_13 : decode cL_at 13 = .ok (.astore 4, 2) := by decide +kernel
theorem dL_at_15 : decode cL_at 15 = .ok (.iconst 1, 1) := by decide +kernel
theorem dL_at_16 : decode cL_at 16 = .ok (.ireturn, 1) := by decide +kernel
theorem dL_at_17 : decode cL_at 17 = .ok (.iconst 0, 1) := by decide +kernel
theorem dL_at_18 : decode cL_at 18 = .ok (.ireturn, 1) := by decide +kernel
theorem dL_law_0 : decode cL_law 0 = .ok (.new 8, 3) := by decide +kernel
theorem dL_law_3 : decode cL_law 3 = .ok (.dup, 1) := by decide +kernel
theorem dL_law_4 : decode cL_law 4 = .ok (.aload_n 0, 1) := by decide +kernel
theorem dL_law_5 : decode cL_law 5 = .ok (.iconst 0, 1) := by decide +kernel
theorem dL_law_6 : decode cL_law 6 = .ok (.invokestatic 21, 3) := by decide +kernel
theorem dL_law_9 : decode cL_law 9 = .ok (.aload_n 0, 1) := by decide +kernel
theorem dL_law_10 : decode cL_law 10 = .ok (.iconst 1, 1) := by decide +kernel
theorem dL_law_11 : decode cL_law 11 = .ok (.invokestatic 21, 3) := by decide +kernel
theorem dL_law_14 : decode cL_law 14 = .ok (.invokespecial 27, 3) := by decide +kernel
theorem dL_law_17 : decode cL_law 17 = .ok (.astore_n 1, 1) := by decide +kernel
theorem dL_law_18 : decode cL_law 18 = .ok (.new 30, 3) := by decide +kernel
theorem dL_law_21 : decode cL_law 21 = .ok (.dup, 1) := by decide +kernel
theorem dL_law_22 : decode cL_law 22 = .ok (.aload_n 0, 1) := by decide +kernel
theorem dL_law_23 : decode cL_law 23 = .ok (.iconst 0, 1) := by decide +kernel
theorem dL_law_24 : decode cL_law 24 = .ok (.invokestatic 21, 3) := by decide +kernel
theorem dL_law_27 : decode cL_law 27 = .ok (.aload_n 0, 1) := by decide +kernel
theorem dL_law_28 : decode cL_law 28 = .ok (.iconst 1, 1) := by decide +kernel
theorem dL_law_29 : decode cL_law 29 = .ok (.invokestatic 21, 3) := by decide +kernel
theorem dL_law_32 : decode cL_law 32 = .ok (.invokespecial 32, 3) := by decide +kernel
theorem dL_law_35 : decode cL_law 35 = .ok (.astore_n 2, 1) := by decide +kernel
theorem dL_law_36 : decode cL_law 36 = .ok (.iconst 1, 1) := by decide +kernel
theorem dL_law_37 : decode cL_law 37 = .ok (.newarray .long, 2) := by decide +kernel
theorem dL_law_39 : decode cL_law 39 = .ok (.astore_n 3, 1) := by decide +kernel
theorem dL_law_40 : decode cL_law 40 = .ok (.iconst 2, 1) := by decide +kernel
theorem dL_law_41 : decode cL_law 41 = .ok (.istore 4, 2) := by decide +kernel
theorem dL_law_43 : decode cL_law 43 = .ok (.iload 4, 2) := by decide +kernel
theorem dL_law_45 : decode cL_law 45 = .ok (.aload_n 0, 1) := by decide +kernel
theorem dL_law_46 : decode cL_law 46 = .ok (.arraylength, 1) := by decide +kernel
theorem dL_law_47 : decode cL_law 47 = .ok (.iconst 5, 1) := by decide +kernel
theorem dL_law_48 : decode cL_law 48 = .ok (.isub, 1) := by decide +kernel
theorem dL_law_49 : decode cL_law 49 = .ok (.if_icmp .gt 638, 3) := by decide +kernel
theorem dL_law_52 : decode cL_law 52 = .ok (.aload_n 0, 1) := by decide +kernel
theorem dL_law_53 : decode cL_law 53 = .ok (.iload 4, 2) := by decide +kernel
theorem dL_law_55 : decode cL_law 55 = .ok (.iaload, 1) := by decide +kernel
theorem dL_law_56 : decode cL_law 56 = .ok (.bipush 31, 2) := by decide +kernel
theorem dL_law_58 : decode cL_law 58 = .ok (.iand, 1) := by decide +kernel
theorem dL_law_59 : decode cL_law 59 = .ok (.tableswitch 622 0 17 #[85, 108, 152, 165, 188, 201, 278, 315, 352, 389, 402, 415, 429, 454, 467, 492, 529, 597], 85) := by decide +kernel
theorem dL_law_144 : decode cL_law 144 = .ok (.aload_n 1, 1) := by decide +kernel
theorem dL_law_145 : decode cL_law 145 = .ok (.aload_n 0, 1) := by decide +kernel
theorem dL_law_146 : decode cL_law 146 = .ok (.iload 4, 2) := by decide +kernel
theorem dL_law_148 : decode cL_law 148 = .ok (.iconst 1, 1) := by decide +kernel
theorem dL_law_149 : decode cL_law 149 = .ok (.iadd, 1) := by decide +kernel
theorem dL_law_150 : decode cL_law 150 = .ok (.iaload, 1) := by decide +kernel
theorem dL_law_151 : decode cL_law 151 = .ok (.invokevirtual 33, 3) := by decide +kernel
theorem dL_law_154 : decode cL_law 154 = .ok (.aload_n 2, 1) := by decide +kernel
theorem dL_law_155 : decode cL_law 155 = .ok (.aload_n 0, 1) := by decide +kernel
theorem dL_law_156 : decode cL_law 156 = .ok (.iload 4, 2) := by decide +kernel
theorem dL_law_158 : decode cL_law 158 = .ok (.iconst 1, 1) := by decide +kernel
theorem dL_law_159 : decode cL_law 159 = .ok (.iadd, 1) := by decide +kernel
theorem dL_law_160 : decode cL_law 160 = .ok (.iaload, 1) := by decide +kernel
theorem dL_law_161 : decode cL_law 161 = .ok (.invokevirtual 37, 3) := by decide +kernel
theorem dL_law_164 : decode cL_law 164 = .ok (.goto 517, 3) := by decide +kernel
theorem dL_law_167 : decode cL_law 167 = .ok (.aload_n 1, 1) := by decide +kernel
theorem dL_law_168 : decode cL_law 168 = .ok (.aload_n 3, 1) := by decide +kernel
theorem dL_law_169 : decode cL_law 169 = .ok (.invokestatic 38, 3) := by decide +kernel
theorem dL_law_172 : decode cL_law 172 = .ok (.istore 5, 2) := by decide +kernel
theorem dL_law_174 : decode cL_law 174 = .ok (.aload_n 2, 1) := by decide +kernel
theorem dL_law_175 : decode cL_law 175 = .ok (.invokevirtual 41, 3) := by decide +kernel
theorem dL_law_178 : decode cL_law 178 = .ok (.istore 6, 2) := by decide +kernel
theorem dL_law_180 : decode cL_law 180 = .ok (.aload_n 2, 1) := by decide +kernel
theorem dL_law_181 : decode cL_law 181 = .ok (.invokevirtual 42, 3) := by decide +kernel
theorem dL_law_184 : decode cL_law 184 = .ok (.iload 5, 2) := by decide +kernel
theorem dL_law_186 : decode cL_law 186 = .ok (.if_icmp .eq 5, 3) := by decide +kernel
theorem dL_law_189 : decode cL_law 189 = .ok (.iconst 0, 1) := by decide +kernel
theorem dL_law_190 : decode cL_law 190 = .ok (.ireturn, 1) := by decide +kernel
theorem dL_law_191 : decode cL_law 191 = .ok (.iload 5, 2) := by decide +kernel
theorem dL_law_193 : decode cL_law 193 = .ok (.ifCond .ne 15, 3) := by decide +kernel
theorem dL_law_196 : decode cL_law 196 = .ok (.aload_n 3, 1) := by decide +kernel
theorem dL_law_197 : decode cL_law 197 = .ok (.iconst 0, 1) := by decide +kernel
theorem dL_law_198 : decode cL_law 198 = .ok (.laload, 1) := by decide +kernel
theorem dL_law_199 : decode cL_law 199 = .ok (.iload 6, 2) := by decide +kernel
theorem dL_law_201 : decode cL_law 201 = .ok (.i2l, 1) := by decide +kernel
theorem dL_law_202 : decode cL_law 202 = .ok (.lcmp, 1) := by decide +kernel
theorem dL_law_203 : decode cL_law 203 = .ok (.ifCond .eq 5, 3) := by decide +kernel
theorem dL_law_206 : decode cL_law 206 = .ok (.iconst 0, 1) := by decide +kernel
theorem dL_law_207 : decode cL_law 207 = .ok (.ireturn, 1) := by decide +kernel
theorem dL_law_208 : decode cL_law 208 = .ok (.goto 473, 3) := by decide +kernel
theorem dL_law_211 : decode cL_law 211 = .ok (.aload_n 1, 1) := by decide +kernel
theorem dL_law_212 : decode cL_law 212 = .ok (.invokevirtual 45, 3) := by decide +kernel
theorem dL_law_215 : decode cL_law 215 = .ok (.aload_n 2, 1) := by decide +kernel
theorem dL_law_216 : decode cL_law 216 = .ok (.invokevirtual 48, 3) := by decide +kernel
theorem dL_law_219 : decode cL_law 219 = .ok (.if_icmp .eq 462, 3) := by decide +kernel
theorem dL_law_222 : decode cL_law 222 = .ok (.iconst 0, 1) := by decide +kernel
theorem dL_law_223 : decode cL_law 223 = .ok (.ireturn, 1) := by decide +kernel
theorem dL_law_224 : decode cL_law 224 = .ok (.aload_n 1, 1) := by decide +kernel
theorem dL_law_225 : decode cL_law 225 = .ok (.aload_n 0, 1) := by decide +kernel
theorem dL_law_226 : decode cL_law 226 = .ok (.iload 4, 2) := by decide +kernel
theorem dL_law_228 : decode cL_law 228 = .ok (.iconst 1, 1) := by decide +kernel
theorem dL_law_229 : decode cL_law 229 = .ok (.iadd, 1) := by decide +kernel
theorem dL_law_230 : decode cL_law 230 = .ok (.iaload, 1) := by decide +kernel
theorem dL_law_231 : decode cL_law 231 = .ok (.invokevirtual 49, 3) := by decide +kernel
theorem dL_law_234 : decode cL_law 234 = .ok (.aload_n 2, 1) := by decide +kernel
theorem dL_law_235 : decode cL_law 235 = .ok (.aload_n 0, 1) := by decide +kernel
theorem dL_law_236 : decode cL_law 236 = .ok (.iload 4, 2) := by decide +kernel
theorem dL_law_238 : decode cL_law 238 = .ok (.iconst 1, 1) := by decide +kernel
theorem dL_law_239 : decode cL_law 239 = .ok (.iadd, 1) := by decide +kernel
theorem dL_law_240 : decode cL_law 240 = .ok (.iaload, 1) := by decide +kernel
theorem dL_law_241 : decode cL_law 241 = .ok (.invokevirtual 52, 3) := by decide +kernel
theorem dL_law_244 : decode cL_law 244 = .ok (.goto 437, 3) := by decide +kernel
theorem dL_law_247 : decode cL_law 247 = .ok (.aload_n 1, 1) := by decide +kernel
theorem dL_law_248 : decode cL_law 248 = .ok (.invokevirtual 53, 3) := by decide +kernel
theorem dL_law_251 : decode cL_law 251 = .ok (.aload_n 2, 1) := by decide +kernel
theorem dL_law_252 : decode cL_law 252 = .ok (.invokevirtual 56, 3) := by decide +kernel
theorem dL_law_255 : decode cL_law 255 = .ok (.if_icmp .eq 426, 3) := by decide +kernel
theorem dL_law_258 : decode cL_law 258 = .ok (.iconst 0, 1) := by decide +kernel
theorem dL_law_259 : decode cL_law 259 = .ok (.ireturn, 1) := by decide +kernel
theorem dL_law_260 : decode cL_law 260 = .ok (.aload_n 1, 1) := by decide +kernel
theorem dL_law_261 : decode cL_law 261 = .ok (.aload_n 0, 1) := by decide +kernel
theorem dL_law_262 : decode cL_law 262 = .ok (.iload 4, 2) := by decide +kernel
theorem dL_law_264 : decode cL_law 264 = .ok (.iconst 1, 1) := by decide +kernel
theorem dL_law_265 : decode cL_law 265 = .ok (.iadd, 1) := by decide +kernel
theorem dL_law_266 : decode cL_law 266 = .ok (.iaload, 1) := by decide +kernel
theorem dL_law_267 : decode cL_law 267 = .ok (.aload_n 0, 1) := by decide +kernel
theorem dL_law_268 : decode cL_law 268 = .ok (.iload 4, 2) := by decide +kernel
theorem dL_law_270 : decode cL_law 270 = .ok (.iconst 2, 1) := by decide +kernel
theorem dL_law_271 : decode cL_law 271 = .ok (.iadd, 1) := by decide +kernel
theorem dL_law_272 : decode cL_law 272 = .ok (.iaload, 1) := by decide +kernel
theorem dL_law_273 : decode cL_law 273 = .ok (.ifCond .eq 7, 3) := by decide +kernel
theorem dL_law_276 : decode cL_law 276 = .ok (.iconst 1, 1) := by decide +kernel
theorem dL_law_277 : decode cL_law 277 = .ok (.goto 4, 3) := by decide +kernel
theorem dL_law_280 : decode cL_law 280 = .ok (.iconst 0, 1) := by decide +kernel
theorem dL_law_281 : decode cL_law 281 = .ok (.aload_n 0, 1) := by decide +kernel
theorem dL_law_282 : decode cL_law 282 = .ok (.iload 4, 2) := by decide +kernel
theorem dL_law_284 : decode cL_law 284 = .ok (.iconst 3, 1) := by decide +kernel
theorem dL_law_285 : decode cL_law 285 = .ok (.iadd, 1) := by decide +kernel
theorem dL_law_286 : decode cL_law 286 = .ok (.iaload, 1) := by decide +kernel
theorem dL_law_287 : decode cL_law 287 = .ok (.aload_n 0, 1) := by decide +kernel
theorem dL_law_288 : decode cL_law 288 = .ok (.iload 4, 2) := by decide +kernel
theorem dL_law_290 : decode cL_law 290 = .ok (.iconst 4, 1) := by decide +kernel
theorem dL_law_291 : decode cL_law 291 = .ok (.iadd, 1) := by decide +kernel
theorem dL_law_292 : decode cL_law 292 = .ok (.iaload, 1) := by decide +kernel
theorem dL_law_293 : decode cL_law 293 = .ok (.invokevirtual 57, 3) := by decide +kernel
theorem dL_law_296 : decode cL_law 296 = .ok (.aload_n 2, 1) := by decide +kernel
theorem dL_law_297 : decode cL_law 297 = .ok (.aload_n 0, 1) := by decide +kernel
theorem dL_law_298 : decode cL_law 298 = .ok (.iload 4, 2) := by decide +kernel
theorem dL_law_300 : decode cL_law 300 = .ok (.iconst 1, 1) := by decide +kernel
theorem dL_law_301 : decode cL_law 301 = .ok (.iadd, 1) := by decide +kernel
theorem dL_law_302 : decode cL_law 302 = .ok (.iaload, 1) := by decide +kernel
theorem dL_law_303 : decode cL_law 303 = .ok (.aload_n 0, 1) := by decide +kernel
theorem dL_law_304 : decode cL_law 304 = .ok (.iload 4, 2) := by decide +kernel
theorem dL_law_306 : decode cL_law 306 = .ok (.iconst 2, 1) := by decide +kernel
theorem dL_law_307 : decode cL_law 307 = .ok (.iadd, 1) := by decide +kernel
theorem dL_law_308 : decode cL_law 308 = .ok (.iaload, 1) := by decide +kernel
theorem dL_law_309 : decode cL_law 309 = .ok (.ifCond .eq 7, 3) := by decide +kernel
theorem dL_law_312 : decode cL_law 312 = .ok (.iconst 1, 1) := by decide +kernel
theorem dL_law_313 : decode cL_law 313 = .ok (.goto 4, 3) := by decide +kernel
theorem dL_law_316 : decode cL_law 316 = .ok (.iconst 0, 1) := by decide +kernel
theorem dL_law_317 : decode cL_law 317 = .ok (.aload_n 0, 1) := by decide +kernel
theorem dL_law_318 : decode cL_law 318 = .ok (.iload 4, 2) := by decide +kernel
theorem dL_law_320 : decode cL_law 320 = .ok (.iconst 3, 1) := by decide +kernel
theorem dL_law_321 : decode cL_law 321 = .ok (.iadd, 1) := by decide +kernel
theorem dL_law_322 : decode cL_law 322 = .ok (.iaload, 1) := by decide +kernel
theorem dL_law_323 : decode cL_law 323 = .ok (.aload_n 0, 1) := by decide +kernel
theorem dL_law_324 : decode cL_law 324 = .ok (.iload 4, 2) := by decide +kernel
theorem dL_law_326 : decode cL_law 326 = .ok (.iconst 4, 1) := by decide +kernel
theorem dL_law_327 : decode cL_law 327 = .ok (.iadd, 1) := by decide +kernel
theorem dL_law_328 : decode cL_law 328 = .ok (.iaload, 1) := by decide +kernel
theorem dL_law_329 : decode cL_law 329 = .ok (.invokevirtual 61, 3) := by decide +kernel
theorem dL_law_332 : decode cL_law 332 = .ok (.if_icmp .eq 349, 3) := by decide +kernel
theorem dL_law_335 : decode cL_law 335 = .ok (.iconst 0, 1) := by decide +kernel
theorem dL_law_336 : decode cL_law 336 = .ok (.ireturn, 1) := by decide +kernel
theorem dL_law_337 : decode cL_law 337 = .ok (.aload_n 1, 1) := by decide +kernel
theorem dL_law_338 : decode cL_law 338 = .ok (.aload_n 0, 1) := by decide +kernel
theorem dL_law_339 : decode cL_law 339 = .ok (.iload 4, 2) := by decide +kernel
theorem dL_law_341 : decode cL_law 341 = .ok (.iconst 1, 1) := by decide +kernel
theorem dL_law_342 : decode cL_law 342 = .ok (.iadd, 1) := by decide +kernel
theorem dL_law_343 : decode cL_law 343 = .ok (.iaload, 1) := by decide +kernel
theorem dL_law_344 : decode cL_law 344 = .ok (.aload_n 0, 1) := by decide +kernel
theorem dL_law_345 : decode cL_law 345 = .ok (.iload 4, 2) := by decide +kernel
theorem dL_law_347 : decode cL_law 347 = .ok (.iconst 2, 1) := by decide +kernel
theorem dL_law_348 : decode cL_law 348 = .ok (.iadd, 1) := by decide +kernel
theorem dL_law_349 : decode cL_law 349 = .ok (.iaload, 1) := by decide +kernel
theorem dL_law_350 : decode cL_law 350 = .ok (.invokevirtual 62, 3) := by decide +kernel
theorem dL_law_353 : decode cL_law 353 = .ok (.aload_n 2, 1) := by decide +kernel
theorem dL_law_354 : decode cL_law 354 = .ok (.aload_n 0, 1) := by decide +kernel
theorem dL_law_355 : decode cL_law 355 = .ok (.iload 4, 2) := by decide +kernel
theorem dL_law_357 : decode cL_law 357 = .ok (.iconst 1, 1) := by decide +kernel
theorem dL_law_358 : decode cL_law 358 = .ok (.iadd, 1) := by decide +kernel
theorem dL_law_359 : decode cL_law 359 = .ok (.iaload, 1) := by decide +kernel
theorem dL_law_360 : decode cL_law 360 = .ok (.aload_n 0, 1) := by decide +kernel
theorem dL_law_361 : decode cL_law 361 = .ok (.iload 4, 2) := by decide +kernel
theorem dL_law_363 : decode cL_law 363 = .ok (.iconst 2, 1) := by decide +kernel
theorem dL_law_364 : decode cL_law 364 = .ok (.iadd, 1) := by decide +kernel
theorem dL_law_365 : decode cL_law 365 = .ok (.iaload, 1) := by decide +kernel
theorem dL_law_366 : decode cL_law 366 = .ok (.invokevirtual 65, 3) := by decide +kernel
theorem dL_law_369 : decode cL_law 369 = .ok (.if_icmp .eq 312, 3) := by decide +kernel
theorem dL_law_372 : decode cL_law 372 = .ok (.iconst 0, 1) := by decide +kernel
theorem dL_law_373 : decode cL_law 373 = .ok (.ireturn, 1) := by decide +kernel
theorem dL_law_374 : decode cL_law 374 = .ok (.aload_n 1, 1) := by decide +kernel
theorem dL_law_375 : decode cL_law 375 = .ok (.aload_n 0, 1) := by decide +kernel
theorem dL_law_376 : decode cL_law 376 = .ok (.iload 4, 2) := by decide +kernel
theorem dL_law_378 : decode cL_law 378 = .ok (.iconst 1, 1) := by decide +kernel
theorem dL_law_379 : decode cL_law 379 = .ok (.iadd, 1) := by decide +kernel
theorem dL_law_380 : decode cL_law 380 = .ok (.iaload, 1) := by decide +kernel
theorem dL_law_381 : decode cL_law 381 = .ok (.aload_n 0, 1) := by decide +kernel
theorem dL_law_382 : decode cL_law 382 = .ok (.iload 4, 2) := by decide +kernel
theorem dL_law_384 : decode cL_law 384 = .ok (.iconst 2, 1) := by decide +kernel
theorem dL_law_385 : decode cL_law 385 = .ok (.iadd, 1) := by decide +kernel
theorem dL_law_386 : decode cL_law 386 = .ok (.iaload, 1) := by decide +kernel
theorem dL_law_387 : decode cL_law 387 = .ok (.invokevirtual 66, 3) := by decide +kernel
theorem dL_law_390 : decode cL_law 390 = .ok (.aload_n 2, 1) := by decide +kernel
theorem dL_law_391 : decode cL_law 391 = .ok (.aload_n 0, 1) := by decide +kernel
theorem dL_law_392 : decode cL_law 392 = .ok (.iload 4, 2) := by decide +kernel
theorem dL_law_394 : decode cL_law 394 = .ok (.iconst 1, 1) := by decide +kernel
theorem dL_law_395 : decode cL_law 395 = .ok (.iadd, 1) := by decide +kernel
theorem dL_law_396 : decode cL_law 396 = .ok (.iaload, 1) := by decide +kernel
theorem dL_law_397 : decode cL_law 397 = .ok (.aload_n 0, 1) := by decide +kernel
theorem dL_law_398 : decode cL_law 398 = .ok (.iload 4, 2) := by decide +kernel
theorem dL_law_400 : decode cL_law 400 = .ok (.iconst 2, 1) := by decide +kernel
theorem dL_law_401 : decode cL_law 401 = .ok (.iadd, 1) := by decide +kernel
theorem dL_law_402 : decode cL_law 402 = .ok (.iaload, 1) := by decide +kernel
theorem dL_law_403 : decode cL_law 403 = .ok (.invokevirtual 69, 3) := by decide +kernel
theorem dL_law_406 : decode cL_law 406 = .ok (.if_icmp .eq 275, 3) := by decide +kernel
theorem dL_law_409 : decode cL_law 409 = .ok (.iconst 0, 1) := by decide +kernel
theorem dL_law_410 : decode cL_law 410 = .ok (.ireturn, 1) := by decide +kernel
theorem dL_law_411 : decode cL_law 411 = .ok (.aload_n 1, 1) := by decide +kernel
theorem dL_law_412 : decode cL_law 412 = .ok (.aload_n 0, 1) := by decide +kernel
theorem dL_law_413 : decode cL_law 413 = .ok (.iload 4, 2) := by decide +kernel
theorem dL_law_415 : decode cL_law 415 = .ok (.iconst 1, 1) := by decide +kernel
theorem dL_law_416 : decode cL_law 416 = .ok (.iadd, 1) := by decide +kernel
theorem dL_law_417 : decode cL_law 417 = .ok (.iaload, 1) := by decide +kernel
theorem dL_law_418 : decode cL_law 418 = .ok (.aload_n 0, 1) := by decide +kernel
theorem dL_law_419 : decode cL_law 419 = .ok (.iload 4, 2) := by decide +kernel
theorem dL_law_421 : decode cL_law 421 = .ok (.iconst 2, 1) := by decide +kernel
theorem dL_law_422 : decode cL_law 422 = .ok (.iadd, 1) := by decide +kernel
theorem dL_law_423 : decode cL_law 423 = .ok (.iaload, 1) := by decide +kernel
theorem dL_law_424 : decode cL_law 424 = .ok (.invokevirtual 70, 3) := by decide +kernel
theorem dL_law_427 : decode cL_law 427 = .ok (.aload_n 2, 1) := by decide +kernel
theorem dL_law_428 : decode cL_law 428 = .ok (.aload_n 0, 1) := by decide +kernel
theorem dL_law_429 : decode cL_law 429 = .ok (.iload 4, 2) := by decide +kernel
theorem dL_law_431 : decode cL_law 431 = .ok (.iconst 1, 1) := by decide +kernel
theorem dL_law_432 : decode cL_law 432 = .ok (.iadd, 1) := by decide +kernel
theorem dL_law_433 : decode cL_law 433 = .ok (.iaload, 1) := by decide +kernel
theorem dL_law_434 : decode cL_law 434 = .ok (.aload_n 0, 1) := by decide +kernel
theorem dL_law_435 : decode cL_law 435 = .ok (.iload 4, 2) := by decide +kernel
theorem dL_law_437 : decode cL_law 437 = .ok (.iconst 2, 1) := by decide +kernel
theorem dL_law_438 : decode cL_law 438 = .ok (.iadd, 1) := by decide +kernel
theorem dL_law_439 : decode cL_law 439 = .ok (.iaload, 1) := by decide +kernel
theorem dL_law_440 : decode cL_law 440 = .ok (.invokevirtual 73, 3) := by decide +kernel
theorem dL_law_443 : decode cL_law 443 = .ok (.if_icmp .eq 238, 3) := by decide +kernel
theorem dL_law_446 : decode cL_law 446 = .ok (.iconst 0, 1) := by decide +kernel
theorem dL_law_447 : decode cL_law 447 = .ok (.ireturn, 1) := by decide +kernel
theorem dL_law_448 : decode cL_law 448 = .ok (.aload_n 1, 1) := by decide +kernel
theorem dL_law_449 : decode cL_law 449 = .ok (.invokevirtual 74, 3) := by decide +kernel
theorem dL_law_452 : decode cL_law 452 = .ok (.aload_n 2, 1) := by decide +kernel
theorem dL_law_453 : decode cL_law 453 = .ok (.invokevirtual 77, 3) := by decide +kernel
theorem dL_law_456 : decode cL_law 456 = .ok (.if_icmp .eq 225, 3) := by decide +kernel
theorem dL_law_459 : decode cL_law 459 = .ok (.iconst 0, 1) := by decide +kernel
theorem dL_law_460 : decode cL_law 460 = .ok (.ireturn, 1) := by decide +kernel
theorem dL_law_461 : decode cL_law 461 = .ok (.aload_n 1, 1) := by decide +kernel
theorem dL_law_462 : decode cL_law 462 = .ok (.invokevirtual 78, 3) := by decide +kernel
theorem dL_law_465 : decode cL_law 465 = .ok (.aload_n 2, 1) := by decide +kernel
theorem dL_law_466 : decode cL_law 466 = .ok (.invokevirtual 81, 3) := by decide +kernel
theorem dL_law_469 : decode cL_law 469 = .ok (.if_icmp .eq 212, 3) := by decide +kernel
theorem dL_law_472 : decode cL_law 472 = .ok (.iconst 0, 1) := by decide +kernel
theorem dL_law_473 : decode cL_law 473 = .ok (.ireturn, 1) := by decide +kernel
theorem dL_law_474 : decode cL_law 474 = .ok (.aload_n 1, 1) := by decide +kernel
theorem dL_law_475 : decode cL_law 475 = .ok (.invokevirtual 82, 3) := by decide +kernel
theorem dL_law_478 : decode cL_law 478 = .ok (.aload_n 2, 1) := by decide +kernel
theorem dL_law_479 : decode cL_law 479 = .ok (.invokevirtual 86, 3) := by decide +kernel
theorem dL_law_482 : decode cL_law 482 = .ok (.lcmp, 1) := by decide +kernel
theorem dL_law_483 : decode cL_law 483 = .ok (.ifCond .eq 198, 3) := by decide +kernel
theorem dL_law_486 : decode cL_law 486 = .ok (.iconst 0, 1) := by decide +kernel
theorem dL_law_487 : decode cL_law 487 = .ok (.ireturn, 1) := by decide +kernel
theorem dL_law_488 : decode cL_law 488 = .ok (.aload_n 1, 1) := by decide +kernel
theorem dL_law_489 : decode cL_law 489 = .ok (.aload_n 0, 1) := by decide +kernel
theorem dL_law_490 : decode cL_law 490 = .ok (.iload 4, 2) := by decide +kernel
theorem dL_law_492 : decode cL_law 492 = .ok (.iconst 1, 1) := by decide +kernel
theorem dL_law_493 : decode cL_law 493 = .ok (.iadd, 1) := by decide +kernel
theorem dL_law_494 : decode cL_law 494 = .ok (.iaload, 1) := by decide +kernel
theorem dL_law_495 : decode cL_law 495 = .ok (.invokevirtual 87, 3) := by decide +kernel
theorem dL_law_498 : decode cL_law 498 = .ok (.aload_n 2, 1) := by decide +kernel
theorem dL_law_499 : decode cL_law 499 = .ok (.aload_n 0, 1) := by decide +kernel
theorem dL_law_500 : decode cL_law 500 = .ok (.iload 4, 2) := by decide +kernel
theorem dL_law_502 : decode cL_law 502 = .ok (.iconst 1, 1) := by decide +kernel
theorem dL_law_503 : decode cL_law 503 = .ok (.iadd, 1) := by decide +kernel
theorem dL_law_504 : decode cL_law 504 = .ok (.iaload, 1) := by decide +kernel
theorem dL_law_505 : decode cL_law 505 = .ok (.invokevirtual 91, 3) := by decide +kernel
theorem dL_law_508 : decode cL_law 508 = .ok (.if_icmp .eq 173, 3) := by decide +kernel
theorem dL_law_511 : decode cL_law 511 = .ok (.iconst 0, 1) := by decide +kernel
theorem dL_law_512 : decode cL_law 512 = .ok (.ireturn, 1) := by decide +kernel
theorem dL_law_513 : decode cL_law 513 = .ok (.aload_n 1, 1) := by decide +kernel
theorem dL_law_514 : decode cL_law 514 = .ok (.invokevirtual 92, 3) := by decide +kernel
theorem dL_law_517 : decode cL_law 517 = .ok (.aload_n 2, 1) := by decide +kernel
theorem dL_law_518 : decode cL_law 518 = .ok (.invokevirtual 95, 3) := by decide +kernel
theorem dL_law_521 : decode cL_law 521 = .ok (.if_icmp .eq 160, 3) := by decide +kernel
theorem dL_law_524 : decode cL_law 524 = .ok (.iconst 0, 1) := by decide +kernel
theorem dL_law_525 : decode cL_law 525 = .ok (.ireturn, 1) := by decide +kernel
theorem dL_law_526 : decode cL_law 526 = .ok (.aload_n 1, 1) := by decide +kernel
theorem dL_law_527 : decode cL_law 527 = .ok (.aload_n 0, 1) := by decide +kernel
theorem dL_law_528 : decode cL_law 528 = .ok (.iload 4, 2) := by decide +kernel
theorem dL_law_530 : decode cL_law 530 = .ok (.iconst 1, 1) := by decide +kernel
theorem dL_law_531 : decode cL_law 531 = .ok (.iadd, 1) := by decide +kernel
theorem dL_law_532 : decode cL_law 532 = .ok (.iaload, 1) := by decide +kernel
theorem dL_law_533 : decode cL_law 533 = .ok (.invokevirtual 96, 3) := by decide +kernel
theorem dL_law_536 : decode cL_law 536 = .ok (.aload_n 2, 1) := by decide +kernel
theorem dL_law_537 : decode cL_law 537 = .ok (.aload_n 0, 1) := by decide +kernel
theorem dL_law_538 : decode cL_law 538 = .ok (.iload 4, 2) := by decide +kernel
theorem dL_law_540 : decode cL_law 540 = .ok (.iconst 1, 1) := by decide +kernel
theorem dL_law_541 : decode cL_law 541 = .ok (.iadd, 1) := by decide +kernel
theorem dL_law_542 : decode cL_law 542 = .ok (.iaload, 1) := by decide +kernel
theorem dL_law_543 : decode cL_law 543 = .ok (.invokevirtual 99, 3) := by decide +kernel
theorem dL_law_546 : decode cL_law 546 = .ok (.if_icmp .eq 135, 3) := by decide +kernel
theorem dL_law_549 : decode cL_law 549 = .ok (.iconst 0, 1) := by decide +kernel
theorem dL_law_550 : decode cL_law 550 = .ok (.ireturn, 1) := by decide +kernel
theorem dL_law_551 : decode cL_law 551 = .ok (.aload_n 1, 1) := by decide +kernel
theorem dL_law_552 : decode cL_law 552 = .ok (.aload_n 0, 1) := by decide +kernel
theorem dL_law_553 : decode cL_law 553 = .ok (.iload 4, 2) := by decide +kernel
theorem dL_law_555 : decode cL_law 555 = .ok (.iconst 1, 1) := by decide +kernel
theorem dL_law_556 : decode cL_law 556 = .ok (.iadd, 1) := by decide +kernel
theorem dL_law_557 : decode cL_law 557 = .ok (.iaload, 1) := by decide +kernel
theorem dL_law_558 : decode cL_law 558 = .ok (.aload_n 0, 1) := by decide +kernel
theorem dL_law_559 : decode cL_law 559 = .ok (.iload 4, 2) := by decide +kernel
theorem dL_law_561 : decode cL_law 561 = .ok (.iconst 2, 1) := by decide +kernel
theorem dL_law_562 : decode cL_law 562 = .ok (.iadd, 1) := by decide +kernel
theorem dL_law_563 : decode cL_law 563 = .ok (.iaload, 1) := by decide +kernel
theorem dL_law_564 : decode cL_law 564 = .ok (.invokevirtual 100, 3) := by decide +kernel
theorem dL_law_567 : decode cL_law 567 = .ok (.aload_n 2, 1) := by decide +kernel
theorem dL_law_568 : decode cL_law 568 = .ok (.aload_n 0, 1) := by decide +kernel
theorem dL_law_569 : decode cL_law 569 = .ok (.iload 4, 2) := by decide +kernel
theorem dL_law_571 : decode cL_law 571 = .ok (.iconst 1, 1) := by decide +kernel
theorem dL_law_572 : decode cL_law 572 = .ok (.iadd, 1) := by decide +kernel
theorem dL_law_573 : decode cL_law 573 = .ok (.iaload, 1) := by decide +kernel
theorem dL_law_574 : decode cL_law 574 = .ok (.aload_n 0, 1) := by decide +kernel
theorem dL_law_575 : decode cL_law 575 = .ok (.iload 4, 2) := by decide +kernel
theorem dL_law_577 : decode cL_law 577 = .ok (.iconst 2, 1) := by decide +kernel
theorem dL_law_578 : decode cL_law 578 = .ok (.iadd, 1) := by decide +kernel
theorem dL_law_579 : decode cL_law 579 = .ok (.iaload, 1) := by decide +kernel
theorem dL_law_580 : decode cL_law 580 = .ok (.invokevirtual 103, 3) := by decide +kernel
theorem dL_law_583 : decode cL_law 583 = .ok (.if_icmp .eq 98, 3) := by decide +kernel
theorem dL_law_586 : decode cL_law 586 = .ok (.iconst 0, 1) := by decide +kernel
theorem dL_law_587 : decode cL_law 587 = .ok (.ireturn, 1) := by decide +kernel
theorem dL_law_588 : decode cL_law 588 = .ok (.aload_n 1, 1) := by decide +kernel
theorem dL_law_589 : decode cL_law 589 = .ok (.aload_n 0, 1) := by decide +kernel
theorem dL_law_590 : decode cL_law 590 = .ok (.iload 4, 2) := by decide +kernel
theorem dL_law_592 : decode cL_law 592 = .ok (.iconst 1, 1) := by decide +kernel
theorem dL_law_593 : decode cL_law 593 = .ok (.iadd, 1) := by decide +kernel
theorem dL_law_594 : decode cL_law 594 = .ok (.iaload, 1) := by decide +kernel
theorem dL_law_595 : decode cL_law 595 = .ok (.aload_n 0, 1) := by decide +kernel
theorem dL_law_596 : decode cL_law 596 = .ok (.iload 4, 2) := by decide +kernel
theorem dL_law_598 : decode cL_law 598 = .ok (.iconst 2, 1) := by decide +kernel
theorem dL_law_599 : decode cL_law 599 = .ok (.iadd, 1) := by decide +kernel
theorem dL_law_600 : decode cL_law 600 = .ok (.iaload, 1) := by decide +kernel
theorem dL_law_601 : decode cL_law 601 = .ok (.aload_n 3, 1) := by decide +kernel
theorem dL_law_602 : decode cL_law 602 = .ok (.invokestatic 104, 3) := by decide +kernel
theorem dL_law_605 : decode cL_law 605 = .ok (.istore 5, 2) := by decide +kernel
theorem dL_law_607 : decode cL_law 607 = .ok (.aload_n 2, 1) := by decide +kernel
theorem dL_law_608 : decode cL_law 608 = .ok (.aload_n 0, 1) := by decide +kernel
theorem dL_law_609 : decode cL_law 609 = .ok (.iload 4, 2) := by decide +kernel
theorem dL_law_611 : decode cL_law 611 = .ok (.iconst 1, 1) := by decide +kernel
theorem dL_law_612 : decode cL_law 612 = .ok (.iadd, 1) := by decide +kernel
theorem dL_law_613 : decode cL_law 613 = .ok (.iaload, 1) := by decide +kernel
theorem dL_law_614 : decode cL_law 614 = .ok (.aload_n 0, 1) := by decide +kernel
theorem dL_law_615 : decode cL_law 615 = .ok (.iload 4, 2) := by decide +kernel
theorem dL_law_617 : decode cL_law 617 = .ok (.iconst 2, 1) := by decide +kernel
theorem dL_law_618 : decode cL_law 618 = .ok (.iadd, 1) := by decide +kernel
theorem dL_law_619 : decode cL_law 619 = .ok (.iaload, 1) := by decide +kernel
theorem dL_law_620 : decode cL_law 620 = .ok (.invokevirtual 107, 3) := by decide +kernel
theorem dL_law_623 : decode cL_law 623 = .ok (.istore 6, 2) := by decide +kernel
theorem dL_law_625 : decode cL_law 625 = .ok (.aload_n 2, 1) := by decide +kernel
theorem dL_law_626 : decode cL_law 626 = .ok (.invokevirtual 42, 3) := by decide +kernel
theorem dL_law_629 : decode cL_law 629 = .ok (.iload 5, 2) := by decide +kernel
theorem dL_law_631 : decode cL_law 631 = .ok (.if_icmp .eq 5, 3) := by decide +kernel
theorem dL_law_634 : decode cL_law 634 = .ok (.iconst 0, 1) := by decide +kernel
theorem dL_law_635 : decode cL_law 635 = .ok (.ireturn, 1) := by decide +kernel
theorem dL_law_636 : decode cL_law 636 = .ok (.iload 5, 2) := by decide +kernel
theorem dL_law_638 : decode cL_law 638 = .ok (.ifCond .ne 15, 3) := by decide +kernel
theorem dL_law_641 : decode cL_law 641 = .ok (.aload_n 3, 1) := by decide +kernel
theorem dL_law_642 : decode cL_law 642 = .ok (.iconst 0, 1) := by decide +kernel
theorem dL_law_643 : decode cL_law 643 = .ok (.laload, 1) := by decide +kernel
theorem dL_law_644 : decode cL_law 644 = .ok (.iload 6, 2) := by decide +kernel
theorem dL_law_646 : decode cL_law 646 = .ok (.i2l, 1) := by decide +kernel
theorem dL_law_647 : decode cL_law 647 = .ok (.lcmp, 1) := by decide +kernel
theorem dL_law_648 : decode cL_law 648 = .ok (.ifCond .eq 5, 3) := by decide +kernel
theorem dL_law_651 : decode cL_law 651 = .ok (.iconst 0, 1) := by decide +kernel
theorem dL_law_652 : decode cL_law 652 = .ok (.ireturn, 1) := by decide +kernel
theorem dL_law_653 : decode cL_law 653 = .ok (.goto 28, 3) := by decide +kernel
theorem dL_law_656 : decode cL_law 656 = .ok (.aload_n 1, 1) := by decide +kernel
theorem dL_law_657 : decode cL_law 657 = .ok (.aload_n 0, 1) := by decide +kernel
theorem dL_law_658 : decode cL_law 658 = .ok (.iload 4, 2) := by decide +kernel
theorem dL_law_660 : decode cL_law 660 = .ok (.iconst 1, 1) := by decide +kernel
theorem dL_law_661 : decode cL_law 661 = .ok (.iadd, 1) := by decide +kernel
theorem dL_law_662 : decode cL_law 662 = .ok (.iaload, 1) := by decide +kernel
theorem dL_law_663 : decode cL_law 663 = .ok (.invokevirtual 108, 3) := by decide +kernel
theorem dL_law_666 : decode cL_law 666 = .ok (.aload_n 2, 1) := by decide +kernel
theorem dL_law_667 : decode cL_law 667 = .ok (.aload_n 0, 1) := by decide +kernel
theorem dL_law_668 : decode cL_law 668 = .ok (.iload 4, 2) := by decide +kernel
theorem dL_law_670 : decode cL_law 670 = .ok (.iconst 1, 1) := by decide +kernel
theorem dL_law_671 : decode cL_law 671 = .ok (.iadd, 1) := by decide +kernel
theorem dL_law_672 : decode cL_law 672 = .ok (.iaload, 1) := by decide +kernel
theorem dL_law_673 : decode cL_law 673 = .ok (.invokevirtual 111, 3) := by decide +kernel
theorem dL_law_676 : decode cL_law 676 = .ok (.if_icmp .eq 5, 3) := by decide +kernel
theorem dL_law_679 : decode cL_law 679 = .ok (.iconst 0, 1) := by decide +kernel
theorem dL_law_680 : decode cL_law 680 = .ok (.ireturn, 1) := by decide +kernel
theorem dL_law_681 : decode cL_law 681 = .ok (.iinc 4 5, 3) := by decide +kernel
theorem dL_law_684 : decode cL_law 684 = .ok (.goto (-641), 3) := by decide +kernel
theorem dL_law_687 : decode cL_law 687 = .ok (.iconst 1, 1) := by decide +kernel
theorem dL_law_688 : decode cL_law 688 = .ok (.ireturn, 1) := by decide +kernel
end
section
/-- where a static field lies, its class's statics cell in H -/
def vx_L (C n d : String) (A : Nat → Prop) (U : State) (H : Heap) : Prop := ∃ (c : ClassId) (k : Class) (i : Nat) (f : Field) (a : Nat) (cell : Cell), U.vm.findClass C = some c ∧ U.fieldFound? C n d = some (c, k, i, f) ∧ f.isStatic = true ∧ k.statics = some a ∧ H[a]? = some cell ∧ cell.vm.isStatics = true ∧ cell.cls = c ∧ f.slot < cell.slots.size ∧ k.staticTypes[f.slot]? = some f.type ∧ ¬ A a
theorem vx_L.moved {C n d : String} {A : Nat → Prop} {u U : State} {H : Heap} (hvm : u.vm.Alike U.vm) (h : vx_L C n d A u H) : vx_L C n d A U H := by
  obtain ⟨c, k, i, f, a, cell, h1, h2, h3, h4, h5, h6, h7, h8, h9, h10⟩ := h
  obtain ⟨k', hi', he⟩ := State.fieldFound?_setVm hvm h2
  exact ⟨c, k', i, f, a, cell, by rw [hvm.findClass]; exact h1, hi', h3, by rw [he]; exact h4, h5, h6, h7, h8, by rw [he]; exact h9, h10⟩
theorem vx_L.kept {C n d : String} {A : Nat → Prop} {U : State} {H H1 : Heap} (h : vx_L C n d A U H) (hq : ∀ a : Nat, a < H.size → ¬ A a → H1[a]? = H[a]?) : vx_L C n d A U H1 := by
  obtain ⟨c, k, i, f, a, cell, h1, h2, h3, h4, h5, h6, h7, h8, h9, h10⟩ := h
  exact ⟨c, k, i, f, a, cell, h1, h2, h3, h4, by rw [hq a (Array.getElem?_eq_some_iff.mp h5).1 h10]; exact h5, h6, h7, h8, h9, h10⟩
theorem vx_L.narrow {C n d : String} {A B : Nat → Prop} {U : State} {H : Heap} (h : vx_L C n d A U H) (hAB : ∀ q, B q → A q) : vx_L C n d B U H := by
  obtain ⟨c, k, i, f, a, cell, h1, h2, h3, h4, h5, h6, h7, h8, h9, h10⟩ := h
  exact ⟨c, k, i, f, a, cell, h1, h2, h3, h4, h5, h6, h7, h8, h9, fun z => h10 (hAB _ z)⟩
theorem vx_L.word {C n d : String} {A : Nat → Prop} {s : State} {args : Array Value} (h : vx_L C n d A s s.heap) : (Cond.laysStatic C n d).before args s = true := by
  obtain ⟨c, k, i, f, a, cell, h1, h2, h3, h4, h5, h6, h7, h8, h9, -⟩ := h
  show (Cond.laysStatic C n d).holds args s none s [] = true
  exact Cond.laysStatic_of h1 h2 h3 h4 h5 h6 h7 h8 h9
/-- .. and what it holds: null or some reference -/
def vx_Zq (C n d : String) (A : Nat → Prop) (U : State) (H : Heap) : Prop := va_Zq C n d A U H ∧ vx_L C n d A U H
theorem vx_Zq.moved {C n d : String} {A : Nat → Prop} {u U : State} {H : Heap} (hvm : u.vm.Alike U.vm) (h : vx_Zq C n d A u H) : vx_Zq C n d A U H := ⟨va_Zq.moved hvm h.1, vx_L.moved hvm h.2⟩
theorem vx_Zq.kept {C n d : String} {A : Nat → Prop} {U : State} {H H1 : Heap} (h : vx_Zq C n d A U H) (hq : ∀ a : Nat, a < H.size → ¬ A a → H1[a]? = H[a]?) : vx_Zq C n d A U H1 := ⟨va_Zq.kept h.1 hq, vx_L.kept h.2 hq⟩
theorem vx_Zq.narrow {C n d : String} {A B : Nat → Prop} {U : State} {H : Heap} (h : vx_Zq C n d A U H) (hAB : ∀ q, B q → A q) : vx_Zq C n d B U H := ⟨va_Zq.narrow h.1 hAB, vx_L.narrow h.2 hAB⟩
theorem vx_Zqof {args : Array Value} {s : State} {C n d : String} {A : Nat → Prop} (hl : (Cond.laysStatic C n d).before args s = true) (hini : (Cond.initialized C).before args s = true) (h : (Cond.isRef (.static C n d)).before args s = true) (hA : ∀ a : Nat, a < s.heap.size → ¬ A a) : vx_Zq C n d A s s.heap := by
  refine ⟨va_Zqof hl hini h hA, ?_⟩
  obtain ⟨c, k, i, f, a, cell, h1, h2, h3, h4, h5, h6, h7, h8, h9⟩ := Cond.laysStatic_spec hl
  exact ⟨c, k, i, f, a, cell, h1, h2, h3, h4, h5, h6, h7, h8, h9, hA a (Array.getElem?_eq_some_iff.mp h5).1⟩
end
section
/-! ===== the layer: a heap of named cells over the machine; a contract takes the heap whole ===== -/
def xcl : List vw_C := [(RX0, TX0, 2), (RX1, TX1, 3), (RX2, TX2, 6), (RX3, TX3, 9), (RX4, TX4, 5), (RX5, TX5, 5), (RX6, TX6, 10), (RX7, TX7, 32)]
def xty (ci k : Nat) : FieldType := match ci with
  | 0 => tyX0 k
  | 1 => tyX1 k
  | 2 => tyX2 k
  | 3 => tyX3 k
  | 4 => tyX4 k
  | 5 => tyX5 k
  | 6 => tyX6 k
  | _ => tyX7 k
def xgood (w : Cond) : Bool := (w.onTables && w.keeps) || (match w with | .arrayClass _ => true | _ => false)
def xwd : List Cond := lw_tbl.filter xgood
def xnest (w : Cond) : Bool := match w with
  | .fieldLinkNest .. => true
  | .methodLinkNest .. => true
  | .castable .. => true
  | _ => false
def xnw : List Cond := lw_tbl.filter xnest
theorem xgood_spec {w : Cond} (h : xgood w = true) : (w.onTables && w.keeps) = true ∨ ∃ ty, w = .arrayClass ty := by
  unfold xgood at h
  rcases Bool.or_eq_true _ _ ▸ h with h | h
  · exact Or.inl h
  · cases w <;> first | exact Or.inr ⟨_, rfl⟩ | cases h
theorem xwd_good : GoodIn xwd xwd := fun w h => ⟨h, xgood_spec (List.mem_filter.mp h).2⟩
theorem xwd_goodC {w : Cond} (h : w ∈ xwd) : GoodIn xwd (w :: xwd) := fun v hv => by
  rcases List.mem_cons.mp hv with rfl | hv
  · exact xwd_good _ h
  · exact xwd_good _ hv
abbrev Tg : Type := Nat × Nat
abbrev xE : Type := (Nat × vp_A) ⊕ (Nat × List Value)
abbrev xH : Type := Tg → Option xE
abbrev xAd : Type := Tg → Nat
/-- class numbers and slots; array classes; the String constants' places; the script: its place, length, ints -/
abbrev xG : Type := va_G × (Nat → ClassId) × ((Nat → Nat) × (Nat → Nat)) × (Nat × Nat × (Nat → Int32))
def xup (h : xH) (t : Tg) (e : xE) : xH := fun u => if u = t then some e else h u
def aup (ad : xAd) (t : Tg) (a : Nat) : xAd := fun u => if u = t then a else ad u
theorem xup_self (h : xH) (t : Tg) (e : xE) : xup h t e t = some e := if_pos rfl
theorem xup_ne (h : xH) {t u : Tg} (e : xE) (n : u ≠ t) : xup h t e u = h u := if_neg n
theorem aup_self (ad : xAd) (t : Tg) (a : Nat) : aup ad t a t = a := if_pos rfl
theorem aup_ne (ad : xAd) {t u : Tg} (a : Nat) (n : u ≠ t) : aup ad t a u = ad u := if_neg n
theorem xup_xup (h : xH) (t : Tg) (e f : xE) : xup (xup h t e) t f = xup h t f := by
  funext u
  unfold xup
  by_cases q : u = t
  · rw [if_pos q, if_pos q]
  · rw [if_neg q, if_neg q, if_neg q]
theorem xup_comm (h : xH) {t u : Tg} (e f : xE) (n : t ≠ u) : xup (xup h t e) u f = xup (xup h u f) t e := by
  funext v
  unfold xup
  by_cases q : v = u
  · rw [if_pos q, if_neg (fun z => n (z.symm.trans q)), if_pos q]
  · rw [if_neg q, if_neg q]
theorem xup_same (h : xH) {t : Tg} {e : xE} (q : h t = some e) : xup h t e = h := by
  funext v
  unfold xup
  by_cases z : v = t
  · rw [if_pos z, z, q]
  · rw [if_neg z]
def xe (G : xG) (e : xE) : va_E := match e with
  | .inl a => .inl (G.2.1 a.1, a.2)
  | .inr o => .inr o
def xR (G : xG) (ad : xAd) (h : xH) (A : Nat → Prop) (H : Heap) : Prop :=
  (∀ t e, h t = some e → va_at G.1 xcl (ad t, xe G e) H ∧ A (ad t)) ∧ ∀ t u, h t ≠ none → h u ≠ none → ad t = ad u → t = u
theorem xR.one {G : xG} {ad : xAd} {h : xH} {A : Nat → Prop} {H : Heap} (R : xR G ad h A H) {t : Tg} {e : xE} (ht : h t = some e) : va_P G.1 xcl [(ad t, xe G e)] H := by
  intro k q hk
  have hz : k < 1 := (List.getElem?_eq_some_iff.mp hk).1
  rw [show k = 0 by omega] at hk
  cases hk
  exact (R.1 t e ht).1
theorem xR.set {G : xG} {ad : xAd} {h : xH} {A : Nat → Prop} {H H1 : Heap} (R : xR G ad h A H) {t : Tg} {e0 e : xE} (ht : h t = some e0) (he : va_at G.1 xcl (ad t, xe G e) H1) (oq : ∀ q : Nat, q ≠ ad t → H1[q]? = H[q]?) : xR G ad (xup h t e) A H1 := by
  refine ⟨fun u f hu => ?_, fun u v hu hv huv => ?_⟩
  · by_cases q : u = t
    · subst q
      rw [xup_self] at hu
      cases hu
      exact ⟨he, (R.1 u e0 ht).2⟩
    · rw [xup_ne _ _ q] at hu
      obtain ⟨a, b⟩ := R.1 u f hu
      refine ⟨va_at.kept a (oq _ fun z => q (R.2 u t (by rw [hu]; exact fun z => by cases z) (by rw [ht]; exact fun z => by cases z) z)), b⟩
  · have key : ∀ w, xup h t e w ≠ none → h w ≠ none := by
      intro w hw
      by_cases q : w = t
      · rw [q, ht]; exact fun z => by cases z
      · rw [xup_ne _ _ q] at hw; exact hw
    exact R.2 u v (key u hu) (key v hv) huv
theorem xR.lt {G : xG} {ad : xAd} {h : xH} {A : Nat → Prop} {H : Heap} (R : xR G ad h A H) {t : Tg} (ht : h t ≠ none) : ad t < H.size := by
  cases q : h t with
  | none => exact absurd q ht
  | some e => exact va_at.lt (R.1 t e q).1
theorem xR.new {G : xG} {ad : xAd} {h : xH} {A : Nat → Prop} {H H1 : Heap} (R : xR G ad h A H) {t : Tg} {e : xE} (ht : h t = none) (he : va_at G.1 xcl (H.size, xe G e) H1) (oq : ∀ q : Nat, q < H.size → H1[q]? = H[q]?) (hA : A H.size) : xR G (aup ad t H.size) (xup h t e) A H1 := by
  have key : ∀ w, w ≠ t → xup h t e w ≠ none → ad w < H.size := by
    intro w q hw
    rw [xup_ne _ _ q] at hw
    exact R.lt hw
  refine ⟨fun u f hu => ?_, fun u v hu hv huv => ?_⟩
  · by_cases q : u = t
    · subst q
      rw [xup_self] at hu
      cases hu
      rw [aup_self]
      exact ⟨he, hA⟩
    · rw [xup_ne _ _ q] at hu
      rw [aup_ne _ _ q]
      obtain ⟨a, b⟩ := R.1 u f hu
      exact ⟨va_at.kept a (oq _ (va_at.lt a)), b⟩
  · by_cases q : u = t
    · by_cases q2 : v = t
      · rw [q, q2]
      · rw [q, aup_self, aup_ne _ _ q2] at huv
        exact absurd huv (Nat.ne_of_gt (key v q2 hv))
    · by_cases q2 : v = t
      · rw [q2, aup_self, aup_ne _ _ q] at huv
        exact absurd huv (Nat.ne_of_lt (key u q hu))
      · rw [aup_ne _ _ q, aup_ne _ _ q2] at huv
        rw [xup_ne _ _ q] at hu
        rw [xup_ne _ _ q2] at hv
        exact R.2 u v hu hv huv
theorem xR.weaken {G : xG} {ad : xAd} {h : xH} {A B : Nat → Prop} {H : Heap} (R : xR G ad h A H) (hAB : ∀ q, A q → B q) : xR G ad h B H := ⟨fun t e ht => ⟨(R.1 t e ht).1, hAB _ (R.1 t e ht).2⟩, R.2⟩
theorem xR.any {G : xG} {ad : xAd} {h : xH} {A B : Nat → Prop} {H : Heap} (R : xR G ad h A H) (hB : ∀ t, h t ≠ none → B (ad t)) : xR G ad h B H := ⟨fun t e ht => ⟨(R.1 t e ht).1, hB t (by rw [ht]; exact fun z => by cases z)⟩, R.2⟩
def xtys (g : Nat → ClassId) : List (ClassId × FieldType) := [(g 0, .int), (g 1, .byte), (g 2, .boolean), (g 3, .long), (g 4, .object RX4), (g 5, .object RX2)]
def xK (G : xG) (U : State) : Prop := va_K G.1 xcl (xtys G.2.1) U ∧ (∀ w ∈ xnw, va_Nw w U) ∧ va_AO RX4 U ∧ va_AO RX2 U
theorem xK.warm {G : xG} {s U : State} (hW : s.WarmedH U.vm) (h : xK G s) : xK G U := by
  refine ⟨va_K.moved hW.alike h.1, fun w hw => ?_, va_AO.moved hW.alike h.2.2.1, va_AO.moved hW.alike h.2.2.2⟩
  have hq := h.2.1 w hw
  have hn : xnest w = true := (List.mem_filter.mp hw).2
  cases w <;> first | exact va_Nw.warmF hW hq | exact va_Nw.warmM hW hq | exact va_Nw.warmC hW hq | cases hn
theorem xK.same {G : xG} {u U : State} (hv : u.vm = U.vm) (h : xK G u) : xK G U := by
  have ha : u.vm.Alike U.vm := by rw [hv]; exact Vm.Alike.refl _
  refine ⟨va_K.moved ha h.1, fun w hw => ?_, va_AO.moved ha h.2.2.1, va_AO.moved ha h.2.2.2⟩
  have hq := h.2.1 w hw
  have hn : xnest w = true := (List.mem_filter.mp hw).2
  cases w <;> first | exact va_Nw.same rfl hv hq | cases hn
def xlen : List Nat := [14, 19, 25]
def xbyt : List (List Int32) := [[114, 119, 97, 120, 115, 103, 105, 107, 106, 122, 101, 98, 102, 104], [116, 104, 101, 32, 115, 99, 114, 105, 112, 116, 32, 105, 115, 32, 119, 114, 111, 110, 103], [116, 104, 101, 32, 105, 116, 101, 109, 32, 104, 97, 115, 32, 110, 111, 32, 115, 117, 99, 104, 32, 98, 121, 116, 101]]
/-- what was there before and nobody writes: String constants, statics, the script -/
def xO (G : xG) (A : Nat → Prop) (U : State) (H : Heap) : Prop :=
  vk_S 3 xlen xbyt G.2.2.1.1 G.2.2.1.2 A U H ∧ vk_R RX5 57 "rwaxsgikjzebfh" (G.2.2.1.1 0) U ∧ vk_R RX6 84 "the script is wrong" (G.2.2.1.1 1) U ∧ vk_R RX6 193 "the item has no such byte" (G.2.2.1.1 2) U ∧
  va_Z "java/lang/String" "COMPACT_STRINGS" "Z" (.int 1) A U H ∧ vx_Zq "java/lang/Throwable" "UNASSIGNED_STACK" "[Ljava/lang/StackTraceElement;" A U H ∧ vx_Zq "java/lang/Throwable" "SUPPRESSED_SENTINEL" "Ljava/util/List;" A U H ∧
  va_X G.2.2.2.1 G.2.2.2.2.1 G.2.2.2.2.2 U H ∧ ¬ A G.2.2.2.1 ∧ G.2.2.2.1 < H.size
theorem xO.warm {G : xG} {A : Nat → Prop} {s U : State} {H : Heap} (hW : s.WarmedH U.vm) (h : xO G A s H) : xO G A U H := by
  obtain ⟨h1, h2, h3, h4, h5, h6, h7, h8, h9⟩ := h
  exact ⟨vk_S.moved hW.alike h1, vk_R.warm hW h2, vk_R.warm hW h3, vk_R.warm hW h4, va_Z.moved hW.alike h5, vx_Zq.moved hW.alike h6, vx_Zq.moved hW.alike h7, va_X.moved hW.alike h8, h9⟩
theorem xO.same {G : xG} {A : Nat → Prop} {u U : State} {H : Heap} (hv : u.vm = U.vm) (h : xO G A u H) : xO G A U H := by
  have ha : u.vm.Alike U.vm := by rw [hv]; exact Vm.Alike.refl _
  obtain ⟨h1, h2, h3, h4, h5, h6, h7, h8, h9⟩ := h
  exact ⟨vk_S.moved ha h1, vk_R.same hv.symm h2, vk_R.same hv.symm h3, vk_R.same hv.symm h4, va_Z.moved ha h5, vx_Zq.moved ha h6, vx_Zq.moved ha h7, va_X.moved ha h8, h9⟩
theorem xO.kept {G : xG} {A : Nat → Prop} {U : State} {H H1 : Heap} (hz : H.size ≤ H1.size) (hq : ∀ a : Nat, a < H.size → ¬ A a → H1[a]? = H[a]?) (h : xO G A U H) : xO G A U H1 := by
  obtain ⟨h1, h2, h3, h4, h5, h6, h7, h8, h9, h10⟩ := h
  exact ⟨h1.kept hq, h2, h3, h4, h5.kept hq, h6.kept hq, h7.kept hq, h8.kept (hq _ h10 h9), h9, Nat.lt_of_lt_of_le h10 hz⟩
theorem xO.narrow {G : xG} {A B : Nat → Prop} {U : State} {H : Heap} (hAB : ∀ q, B q → A q) (h : xO G A U H) : xO G B U H := by
  obtain ⟨h1, h2, h3, h4, h5, h6, h7, h8, h9, h10⟩ := h
  exact ⟨h1.narrow hAB, h2, h3, h4, h5.narrow hAB, h6.narrow hAB, h7.narrow hAB, h8, fun z => h9 (hAB _ z), h10⟩
/-- which cells a method may change: the heap's named cells, and what it makes -/
def xFr (ad : xAd) (h : xH) (sz : Nat) : Nat → Prop := fun q => (∃ t, h t ≠ none ∧ ad t = q) ∨ sz ≤ q
/-- no cell is dropped, none moves -/
def xExt (ad : xAd) (h : xH) (ad' : xAd) (h' : xH) : Prop := ∀ u, h u ≠ none → h' u ≠ none ∧ ad' u = ad u
theorem xExt.rf {ad : xAd} {h : xH} : xExt ad h ad h := fun _ q => ⟨q, rfl⟩
theorem xExt.tr {ad ad1 ad2 : xAd} {h h1 h2 : xH} (a : xExt ad h ad1 h1) (b : xExt ad1 h1 ad2 h2) : xExt ad h ad2 h2 := fun u q => ⟨(b u (a u q).1).1, (b u (a u q).1).2.trans (a u q).2⟩
theorem xup_live {h : xH} {t : Tg} {e : xE} {u : Tg} (q : h u ≠ none) : xup h t e u ≠ none := by
  unfold xup
  by_cases z : u = t
  · rw [if_pos z]; exact fun q => by cases q
  · rw [if_neg z]; exact q
theorem xExt.up {ad : xAd} {h : xH} {t : Tg} {e : xE} : xExt ad h ad (xup h t e) := fun _ q => ⟨xup_live q, rfl⟩
theorem xExt.new {ad : xAd} {h : xH} {t : Tg} {e : xE} {a : Nat} (ht : h t = none) : xExt ad h (aup ad t a) (xup h t e) := fun u q => ⟨xup_live q, aup_ne _ _ fun z => q (z ▸ ht)⟩
abbrev xPq : Type := Option Value → xAd → xH → Prop
abbrev xSp : Type := xAd → xH → List Value → xPq → Prop
def xPre (G : xG) (ad : xAd) (h : xH) (sz : Nat) (av : List Value) : Array Value → State → Prop := va_Pc av (fun U => U.heap.size = sz ∧ xR G ad h (fun _ => True) U.heap ∧ xK G U ∧ xO G (xFr ad h sz) U U.heap)
def xPost (G : xG) (ad : xAd) (h : xH) (sz : Nat) (Q : xPq) : Array Value → State → Outcome → State → Prop := fun _ st oc t =>
  (∃ (v : Option Value) (ad' : xAd) (h' : xH), oc = .returned v ∧ Q v ad' h' ∧ xExt ad h ad' h' ∧ xR G ad' h' (xFr ad h sz) t.heap) ∧ va_F (xFr ad h sz) st t
def xw (y : MethodName) (b : ByteArray) (n : Nat) (r : Option FieldType) : List Cond := Cond.code y b n r :: xwd
/-- a method's contract: from every heap where 'sp' can pay Q, the method returns and Q holds -/
def Ct (y : MethodName) (b : ByteArray) (n : Nat) (r : Option FieldType) (rm : Room) (sp : xSp) : Prop :=
  ∀ (l : Launch) (G : xG) (ad : xAd) (h : xH) (av : List Value) (Q : xPq) (sz : Nat), sp ad h av Q → Met l y (xw y b n r) rm (xPre G ad h sz av) (xPost G ad h sz Q) rm.cells rm.slots (xFr ad h sz)
theorem xPre.blind {G : xG} {ad : xAd} {h : xH} {sz : Nat} {av : List Value} : FrameBlind (xPre G ad h sz av) := fun a U g mk q => ⟨q.1, q.2.1, q.2.2.1, xK.same (u := U) (U := U.calling g mk a) rfl q.2.2.2.1, xO.same (u := U) (U := U.calling g mk a) rfl q.2.2.2.2⟩
/-- the locals: held, one slot each -/
def xL (la : Array Slot) (nL : Nat) (ls : List (Nat × Value)) : Prop := lv_has la nL ls ∧ ∀ q ∈ ls, q.2.category = 1
theorem x_lkm {ls : List (Nat × Value)} {i : Nat} {v : Value} (h : ls.lookup i = some v) : (i, v) ∈ ls := by
  induction ls with
  | nil => cases h
  | cons a l ih =>
    obtain ⟨j, w⟩ := a
    rw [List.lookup_cons] at h
    by_cases q : i = j
    · subst q
      simp at h
      subst h
      exact List.mem_cons_self
    · have : (i == j) = false := by simpa using q
      rw [this] at h
      exact List.mem_cons_of_mem _ (ih h)
theorem xL.at {la : Array Slot} {nL : Nat} {ls : List (Nat × Value)} (h : xL la nL ls) {i : Nat} {v : Value} (hl : ls.lookup i = some v) : la[i]? = some (.val v) := h.1.2.2 (i, v) (x_lkm hl)
def xst (ls : List (Nat × Value)) (i : Nat) (v : Value) : List (Nat × Value) := (i, v) :: ls.filter (fun q => !(q.1 == i))
theorem xst_eq {ls : List (Nat × Value)} (h : ∀ q ∈ ls, q.2.category = 1) (i : Nat) (v : Value) : (i, v) :: ls.filter (fun q => !(q.1 == i) && !(q.1 + 1 == i && q.2.category == 2)) = xst ls i v := by
  unfold xst
  congr 1
  refine List.filter_congr fun q hq => ?_
  rw [h q hq]
  simp
theorem xst_cat {ls : List (Nat × Value)} (h : ∀ q ∈ ls, q.2.category = 1) (i : Nat) {v : Value} (hv : v.category = 1) : ∀ q ∈ xst ls i v, q.2.category = 1 := by
  intro q hq
  rcases List.mem_cons.mp hq with rfl | hq
  · exact hv
  · exact h q (List.mem_filter.mp hq).1
theorem xL.sub {la : Array Slot} {nL : Nat} {ls ls' : List (Nat × Value)} (h : xL la nL ls) (e : ls'.map (fun q => ls.lookup q.1) = ls'.map (fun q => some q.2)) : xL la nL ls' := by
  have key : ∀ q ∈ ls', (q.1, q.2) ∈ ls := by
    intro q hq
    refine x_lkm ?_
    exact List.map_inj_left.mp e q hq
  exact ⟨⟨h.1.1, h.1.2.1, fun q hq => h.1.2.2 q (key q hq)⟩, fun q hq => h.2 q (key q hq)⟩
/-- the machine at pc, with these locals, this stack and this named heap, comes to a state with Z -/
def xX (p : Program) (l : Launch) (e : Env) (R : Room) (s : State) (m : MethodId) (args : Array Value) (below : List Frame) (meth : Method) (c : Code) (G : xG) (ad0 : xAd) (h0 : xH) (nL : Nat) (Z : State → Prop) (pc : Nat) (ls : List (Nat × Value)) (st : List Value) (ad : xAd) (h : xH) (k n : Nat) : Prop :=
  ∀ (H : Heap) (locs : List Loc) (la : Array Slot), xR G ad h (xFr ad0 h0 s.heap.size) H → va_S (xFr ad0 h0 s.heap.size) s.heap H locs → xL la nL ls → xExt ad0 h0 ad h → W p l e R s m args below meth c H locs k n Z (F0 m pc la st)
/-- what a method knows of the machine -/
def xF (p : Program) (s : State) (m : MethodId) (args : Array Value) (meth : Method) (c : Code) (G : xG) (ad0 : xAd) (h0 : xH) (own : String) (cc : ByteArray) (nL : Nat) (r : Option FieldType) (nm : String) : Prop :=
  p.tables.exec = Jvm.exec ∧ c.code = cc ∧ c.maxLocals = nL ∧ s.vm.findClass own = some m.cls ∧ (∀ w ∈ xwd, w.before args s = true) ∧ meth.locks = false ∧ xK G s ∧ meth.sig.returnType = r ∧ meth.name = nm ∧ xO G (xFr ad0 h0 s.heap.size) s s.heap
def xZ (below : List Frame) (G : xG) (ad0 : xAd) (h0 : xH) (Q : xPq) (args : Array Value) (s : State) (R : Room) : State → Prop := MQ below (xPost G ad0 h0 s.heap.size Q) args s R.cells R.slots (xFr ad0 h0 s.heap.size)
theorem Ct.of {y : MethodName} {b : ByteArray} {n : Nat} {r : Option FieldType} {rm : Room} {sp : xSp} (hy : plainName y.cls = true)
    (body : ∀ (p : Program) (l : Launch) (e : Env) (s : State) (m : MethodId) (args : Array Value) (below : List Frame) (meth : Method) (c : Code) (G : xG) (ad : xAd) (h : xH) (av : List Value) (Q : xPq), xF p s m args meth c G ad h y.cls b n r y.name → sp ad h av Q →
      ((lg_sl av).length ≤ n ∧ ∀ q ∈ lv_args 0 av, q.2.category = 1) ∧ xX p l e rm s m args below meth c G ad h n (xZ below G ad h Q args s rm) 0 (lv_args 0 av) [] ad h 0 0) : Ct y b n r rm sp := by
  intro l G ad h av Q sz hsp
  refine Met.ofW (cc := b) (maxL := n) (ret := r) hy rfl ?_
  intro p e s m args below meth c s₁ B hml hv
  obtain ⟨rfl, hsz, hR, hK, hO⟩ := hv
  subst hsz
  have hts := atoms_spec (ws := xw y b n r) B.pre
  have hF : xF p s m av.toArray meth c G ad h y.cls b n r y.name := ⟨B.exec, B.bytes, hml, findClass_of_methodNamed B.named, fun w hw => hts w (List.mem_cons_of_mem _ hw), B.notSynchronized, hK, B.returns, (name_of_methodNamed B.named B.method).1, hO⟩
  obtain ⟨⟨h1, h2⟩, hX⟩ := body p l e s m av.toArray below meth c G ad h av Q hF hsp
  rw [lg_entry_eq]
  exact hX s.heap [] _ (hR.any fun t ht => Or.inl ⟨t, ht, rfl⟩) va_S.rf ⟨lv_entry av h1, h2⟩ xExt.rf
end
section
/-! ===== a row an instruction, over the named heap ===== -/
section XROWS
variable {p : Program} {l : Launch} {e : Env} {R : Room} {s : State} {m : MethodId} {args : Array Value} {below : List Frame} {meth : Method} {c : Code} {G : xG} {ad0 : xAd} {h0 : xH} {nL : Nat} {Z : State → Prop} {pc : Nat} {ls : List (Nat × Value)} {st : List Value} {ad : xAd} {h : xH} {k n : Nat} {own : String} {cc : ByteArray} {r : Option FieldType} {nm : String}
theorem x_ls (ls' : List (Nat × Value)) (e1 : ls'.map (fun q => ls.lookup q.1) = ls'.map (fun q => some q.2)) (kk : xX p l e R s m args below meth c G ad0 h0 nL Z pc ls' st ad h k n) : xX p l e R s m args below meth c G ad0 h0 nL Z pc ls st ad h k n := fun H locs la hR hS hL hE => kk H locs la hR hS (hL.sub e1) hE
theorem x_eq {pc2 : Nat} {ls2 : List (Nat × Value)} {st2 : List Value} {ad2 : xAd} {h2 : xH} (e1 : pc = pc2) (e2 : ls = ls2) (e3 : st = st2) (e4 : ad = ad2) (e5 : h = h2) (kk : xX p l e R s m args below meth c G ad0 h0 nL Z pc2 ls2 st2 ad2 h2 k n) : xX p l e R s m args below meth c G ad0 h0 nL Z pc ls st ad h k n := by subst e1; subst e2; subst e3; subst e4; subst e5; exact kk
theorem x_h {h2 : xH} (e5 : h = h2) (kk : xX p l e R s m args below meth c G ad0 h0 nL Z pc ls st ad h2 k n) : xX p l e R s m args below meth c G ad0 h0 nL Z pc ls st ad h k n := by subst e5; exact kk
theorem x_widen {k2 n2 : Nat} (h1 : k ≤ k2) (h2 : n ≤ n2) (kk : xX p l e R s m args below meth c G ad0 h0 nL Z pc ls st ad h k2 n2) : xX p l e R s m args below meth c G ad0 h0 nL Z pc ls st ad h k n := fun H locs la hR hS hL hE => W.widen h1 h2 (kk H locs la hR hS hL hE)
theorem x_topi {x y : Int32} (e1 : x = y) (kk : xX p l e R s m args below meth c G ad0 h0 nL Z pc ls (.int y :: st) ad h k n) : xX p l e R s m args below meth c G ad0 h0 nL Z pc ls (.int x :: st) ad h k n := by subst e1; exact kk
theorem x_iconst (F : xF p s m args meth c G ad0 h0 own cc nL r nm) {a : Int} {v : Int32} {q : Nat} (hd : decode cc pc = .ok (.iconst a, 1)) (hp : pc + 1 = q) (hv : Int32.ofInt a = v) (kk : xX p l e R s m args below meth c G ad0 h0 nL Z q ls (.int v :: st) ad h k n) : xX p l e R s m args below meth c G ad0 h0 nL Z pc ls (st) ad h k n := by subst hp; exact fun H locs la hR hS hL hE => lv_iconst F.1 F.2.1 hd hv (kk H locs la hR hS hL hE)
theorem x_bipush (F : xF p s m args meth c G ad0 h0 own cc nL r nm) {a : Int} {v : Int32} {q : Nat} (hd : decode cc pc = .ok (.bipush a, 2)) (hp : pc + 2 = q) (hv : (Int8.ofInt a).toInt32 = v) (kk : xX p l e R s m args below meth c G ad0 h0 nL Z q ls (.int v :: st) ad h k n) : xX p l e R s m args below meth c G ad0 h0 nL Z pc ls (st) ad h k n := by subst hp; exact fun H locs la hR hS hL hE => lv_bipush F.1 F.2.1 hd hv (kk H locs la hR hS hL hE)
theorem x_sipush (F : xF p s m args meth c G ad0 h0 own cc nL r nm) {a : Int} {v : Int32} {q : Nat} (hd : decode cc pc = .ok (.sipush a, 3)) (hp : pc + 3 = q) (hv : (Int16.ofInt a).toInt32 = v) (kk : xX p l e R s m args below meth c G ad0 h0 nL Z q ls (.int v :: st) ad h k n) : xX p l e R s m args below meth c G ad0 h0 nL Z pc ls (st) ad h k n := by subst hp; exact fun H locs la hR hS hL hE => lv_sipush F.1 F.2.1 hd hv (kk H locs la hR hS hL hE)
theorem x_lconst (F : xF p s m args meth c G ad0 h0 own cc nL r nm) {a : Fin 2} {v : Int64} {q : Nat} (hd : decode cc pc = .ok (.lconst a, 1)) (hp : pc + 1 = q) (hv : Int64.ofNat (a : Nat) = v) (kk : xX p l e R s m args below meth c G ad0 h0 nL Z q ls (.long v :: st) ad h k n) : xX p l e R s m args below meth c G ad0 h0 nL Z pc ls (st) ad h k n := by subst hp; exact fun H locs la hR hS hL hE => lv_lconst F.1 F.2.1 hd hv (kk H locs la hR hS hL hE)
theorem x_null (F : xF p s m args meth c G ad0 h0 own cc nL r nm)  {q : Nat} (hd : decode cc pc = .ok (.aconst_null, 1)) (hp : pc + 1 = q) (kk : xX p l e R s m args below meth c G ad0 h0 nL Z q ls (.null :: st) ad h k n) : xX p l e R s m args below meth c G ad0 h0 nL Z pc ls (st) ad h k n := by subst hp; exact fun H locs la hR hS hL hE => lv_null F.1 F.2.1 hd (kk H locs la hR hS hL hE)
theorem x_iload_n (F : xF p s m args meth c G ad0 h0 own cc nL r nm) {i : Fin 4} {x : Int32} {q : Nat} (hd : decode cc pc = .ok (.iload_n i, 1)) (hp : pc + 1 = q) (hl : ls.lookup (i : Nat) = some (.int x)) (kk : xX p l e R s m args below meth c G ad0 h0 nL Z q ls (.int x :: st) ad h k n) : xX p l e R s m args below meth c G ad0 h0 nL Z pc ls st ad h k n := by subst hp; exact fun H locs la hR hS hL hE => lv_iload_n F.1 F.2.1 hd rfl (hL.at hl) (kk H locs la hR hS hL hE)
theorem x_iload (F : xF p s m args meth c G ad0 h0 own cc nL r nm) {i : Nat} {x : Int32} {q : Nat} (hd : decode cc pc = .ok (.iload i, 2)) (hp : pc + 2 = q) (hl : ls.lookup i = some (.int x)) (kk : xX p l e R s m args below meth c G ad0 h0 nL Z q ls (.int x :: st) ad h k n) : xX p l e R s m args below meth c G ad0 h0 nL Z pc ls st ad h k n := by subst hp; exact fun H locs la hR hS hL hE => lv_iload F.1 F.2.1 hd (hL.at hl) (kk H locs la hR hS hL hE)
def xrefv (v : Value) : Prop := v = .null ∨ ∃ a, v = .ref a
theorem xref_r {a : Nat} : xrefv (.ref a) := Or.inr ⟨a, rfl⟩
theorem xref_n : xrefv .null := Or.inl rfl
theorem xref_f (o : Option Nat) : xrefv (va_rf o) := by cases o with | none => exact Or.inl rfl | some a => exact Or.inr ⟨a, rfl⟩
theorem xref_c {v : Value} (h : xrefv v) : v.category = 1 := by rcases h with rfl | ⟨a, rfl⟩ <;> rfl
theorem x_aload_n (F : xF p s m args meth c G ad0 h0 own cc nL r nm) {i : Fin 4} {v : Value} {q : Nat} (hd : decode cc pc = .ok (.aload_n i, 1)) (hp : pc + 1 = q) (hl : ls.lookup (i : Nat) = some v) (hv : xrefv v) (kk : xX p l e R s m args below meth c G ad0 h0 nL Z q ls (v :: st) ad h k n) : xX p l e R s m args below meth c G ad0 h0 nL Z pc ls st ad h k n := by
  subst hp
  rcases hv with rfl | ⟨a, rfl⟩
  · exact fun H locs la hR hS hL hE => lv_aload_nN F.1 F.2.1 hd rfl (hL.at hl) (kk H locs la hR hS hL hE)
  · exact fun H locs la hR hS hL hE => lv_aload_n F.1 F.2.1 hd rfl (hL.at hl) (kk H locs la hR hS hL hE)
theorem x_aload (F : xF p s m args meth c G ad0 h0 own cc nL r nm) {i : Nat} {v : Value} {q : Nat} (hd : decode cc pc = .ok (.aload i, 2)) (hp : pc + 2 = q) (hl : ls.lookup i = some v) (hv : xrefv v) (kk : xX p l e R s m args below meth c G ad0 h0 nL Z q ls (v :: st) ad h k n) : xX p l e R s m args below meth c G ad0 h0 nL Z pc ls st ad h k n := by
  subst hp
  rcases hv with rfl | ⟨a, rfl⟩
  · exact fun H locs la hR hS hL hE => lv_aloadN F.1 F.2.1 hd (hL.at hl) (kk H locs la hR hS hL hE)
  · exact fun H locs la hR hS hL hE => lv_aload F.1 F.2.1 hd (hL.at hl) (kk H locs la hR hS hL hE)
theorem x_istore_n (F : xF p s m args meth c G ad0 h0 own cc nL r nm) {i : Fin 4} {x : Int32} {q : Nat} (hd : decode cc pc = .ok (.istore_n i, 1)) (hp : pc + 1 = q) (hn : (i : Nat) < nL) (kk : xX p l e R s m args below meth c G ad0 h0 nL Z q (xst ls (i : Nat) (.int x)) st ad h k n) : xX p l e R s m args below meth c G ad0 h0 nL Z pc ls (.int x :: st) ad h k n := by subst hp; exact fun H locs la hR hS hL hE => lv_istore_n F.1 F.2.1 hd rfl hL.1 hn (xst_eq hL.2 _ _) (fun la' hl' => kk H locs la' hR hS ⟨hl', xst_cat hL.2 _ rfl⟩ hE)
theorem x_istore (F : xF p s m args meth c G ad0 h0 own cc nL r nm) {i : Nat} {x : Int32} {q : Nat} (hd : decode cc pc = .ok (.istore i, 2)) (hp : pc + 2 = q) (hn : i < nL) (kk : xX p l e R s m args below meth c G ad0 h0 nL Z q (xst ls i (.int x)) st ad h k n) : xX p l e R s m args below meth c G ad0 h0 nL Z pc ls (.int x :: st) ad h k n := by subst hp; exact fun H locs la hR hS hL hE => lv_istore F.1 F.2.1 hd hL.1 hn (xst_eq hL.2 _ _) (fun la' hl' => kk H locs la' hR hS ⟨hl', xst_cat hL.2 _ rfl⟩ hE)
theorem x_astore_n (F : xF p s m args meth c G ad0 h0 own cc nL r nm) {i : Fin 4} {v : Value} {q : Nat} (hd : decode cc pc = .ok (.astore_n i, 1)) (hp : pc + 1 = q) (hn : (i : Nat) < nL) (hv : xrefv v) (kk : xX p l e R s m args below meth c G ad0 h0 nL Z q (xst ls (i : Nat) v) st ad h k n) : xX p l e R s m args below meth c G ad0 h0 nL Z pc ls (v :: st) ad h k n := by
  subst hp
  rcases hv with rfl | ⟨a, rfl⟩
  · exact fun H locs la hR hS hL hE => lv_astore_nN F.1 F.2.1 hd rfl hL.1 hn (xst_eq hL.2 _ _) (fun la' hl' => kk H locs la' hR hS ⟨hl', xst_cat hL.2 _ rfl⟩ hE)
  · exact fun H locs la hR hS hL hE => lv_astore_n F.1 F.2.1 hd rfl hL.1 hn (xst_eq hL.2 _ _) (fun la' hl' => kk H locs la' hR hS ⟨hl', xst_cat hL.2 _ rfl⟩ hE)
theorem x_astore (F : xF p s m args meth c G ad0 h0 own cc nL r nm) {i : Nat} {v : Value} {q : Nat} (hd : decode cc pc = .ok (.astore i, 2)) (hp : pc + 2 = q) (hn : i < nL) (hv : xrefv v) (kk : xX p l e R s m args below meth c G ad0 h0 nL Z q (xst ls i v) st ad h k n) : xX p l e R s m args below meth c G ad0 h0 nL Z pc ls (v :: st) ad h k n := by
  subst hp
  rcases hv with rfl | ⟨a, rfl⟩
  · exact fun H locs la hR hS hL hE => lv_astoreN F.1 F.2.1 hd hL.1 hn (xst_eq hL.2 _ _) (fun la' hl' => kk H locs la' hR hS ⟨hl', xst_cat hL.2 _ rfl⟩ hE)
  · exact fun H locs la hR hS hL hE => lv_astore F.1 F.2.1 hd hL.1 hn (xst_eq hL.2 _ _) (fun la' hl' => kk H locs la' hR hS ⟨hl', xst_cat hL.2 _ rfl⟩ hE)
theorem x_iinc (F : xF p s m args meth c G ad0 h0 own cc nL r nm) {i : Nat} {d : Int} {x v : Int32} {q : Nat} (hd : decode cc pc = .ok (.iinc i d, 3)) (hp : pc + 3 = q) (hl : ls.lookup i = some (.int x)) (hv : x + Int32.ofInt d = v) (hn : i < nL) (kk : xX p l e R s m args below meth c G ad0 h0 nL Z q (xst ls i (.int v)) st ad h k n) : xX p l e R s m args below meth c G ad0 h0 nL Z pc ls st ad h k n := by
  subst hp
  intro H locs la hR hS hL hE
  obtain ⟨j, hj⟩ := List.getElem?_of_mem (x_lkm hl)
  exact lv_iinc F.1 F.2.1 hd hL.1 hj hv hn (xst_eq hL.2 _ _) (fun la' hl' => kk H locs la' hR hS ⟨hl', xst_cat hL.2 _ rfl⟩ hE)
theorem x_iadd (F : xF p s m args meth c G ad0 h0 own cc nL r nm) {x y : Int32} {q : Nat} (hd : decode cc pc = .ok (.iadd, 1)) (hp : pc + 1 = q) (kk : xX p l e R s m args below meth c G ad0 h0 nL Z q ls (.int (x + y) :: st) ad h k n) : xX p l e R s m args below meth c G ad0 h0 nL Z pc ls (.int y :: .int x :: st) ad h k n := by subst hp; exact fun H locs la hR hS hL hE => lv_iadd F.1 F.2.1 hd (kk H locs la hR hS hL hE)
theorem x_isub (F : xF p s m args meth c G ad0 h0 own cc nL r nm) {x y : Int32} {q : Nat} (hd : decode cc pc = .ok (.isub, 1)) (hp : pc + 1 = q) (kk : xX p l e R s m args below meth c G ad0 h0 nL Z q ls (.int (x - y) :: st) ad h k n) : xX p l e R s m args below meth c G ad0 h0 nL Z pc ls (.int y :: .int x :: st) ad h k n := by subst hp; exact fun H locs la hR hS hL hE => lv_isub F.1 F.2.1 hd (kk H locs la hR hS hL hE)
theorem x_imul (F : xF p s m args meth c G ad0 h0 own cc nL r nm) {x y : Int32} {q : Nat} (hd : decode cc pc = .ok (.imul, 1)) (hp : pc + 1 = q) (kk : xX p l e R s m args below meth c G ad0 h0 nL Z q ls (.int (x * y) :: st) ad h k n) : xX p l e R s m args below meth c G ad0 h0 nL Z pc ls (.int y :: .int x :: st) ad h k n := by subst hp; exact fun H locs la hR hS hL hE => lv_imul F.1 F.2.1 hd (kk H locs la hR hS hL hE)
theorem x_iand (F : xF p s m args meth c G ad0 h0 own cc nL r nm) {x y : Int32} {q : Nat} (hd : decode cc pc = .ok (.iand, 1)) (hp : pc + 1 = q) (kk : xX p l e R s m args below meth c G ad0 h0 nL Z q ls (.int (x &&& y) :: st) ad h k n) : xX p l e R s m args below meth c G ad0 h0 nL Z pc ls (.int y :: .int x :: st) ad h k n := by subst hp; exact fun H locs la hR hS hL hE => lv_iand F.1 F.2.1 hd (kk H locs la hR hS hL hE)
theorem x_ior (F : xF p s m args meth c G ad0 h0 own cc nL r nm) {x y : Int32} {q : Nat} (hd : decode cc pc = .ok (.ior, 1)) (hp : pc + 1 = q) (kk : xX p l e R s m args below meth c G ad0 h0 nL Z q ls (.int (x ||| y) :: st) ad h k n) : xX p l e R s m args below meth c G ad0 h0 nL Z pc ls (.int y :: .int x :: st) ad h k n := by subst hp; exact fun H locs la hR hS hL hE => lv_ior F.1 F.2.1 hd (kk H locs la hR hS hL hE)
theorem x_ixor (F : xF p s m args meth c G ad0 h0 own cc nL r nm) {x y : Int32} {q : Nat} (hd : decode cc pc = .ok (.ixor, 1)) (hp : pc + 1 = q) (kk : xX p l e R s m args below meth c G ad0 h0 nL Z q ls (.int (x ^^^ y) :: st) ad h k n) : xX p l e R s m args below meth c G ad0 h0 nL Z pc ls (.int y :: .int x :: st) ad h k n := by subst hp; exact fun H locs la hR hS hL hE => lv_ixor F.1 F.2.1 hd (kk H locs la hR hS hL hE)
theorem x_ineg (F : xF p s m args meth c G ad0 h0 own cc nL r nm) {x : Int32} {q : Nat} (hd : decode cc pc = .ok (.ineg, 1)) (hp : pc + 1 = q) (kk : xX p l e R s m args below meth c G ad0 h0 nL Z q ls (.int (-x) :: st) ad h k n) : xX p l e R s m args below meth c G ad0 h0 nL Z pc ls (.int x :: st) ad h k n := by subst hp; exact fun H locs la hR hS hL hE => lv_ineg F.1 F.2.1 hd (kk H locs la hR hS hL hE)
theorem x_ladd (F : xF p s m args meth c G ad0 h0 own cc nL r nm) {x y : Int64} {q : Nat} (hd : decode cc pc = .ok (.ladd, 1)) (hp : pc + 1 = q) (kk : xX p l e R s m args below meth c G ad0 h0 nL Z q ls (.long (x + y) :: st) ad h k n) : xX p l e R s m args below meth c G ad0 h0 nL Z pc ls (.long y :: .long x :: st) ad h k n := by subst hp; exact fun H locs la hR hS hL hE => lv_ladd F.1 F.2.1 hd (kk H locs la hR hS hL hE)
theorem x_i2l (F : xF p s m args meth c G ad0 h0 own cc nL r nm) {x : Int32} {q : Nat} (hd : decode cc pc = .ok (.i2l, 1)) (hp : pc + 1 = q) (kk : xX p l e R s m args below meth c G ad0 h0 nL Z q ls (.long x.toInt64 :: st) ad h k n) : xX p l e R s m args below meth c G ad0 h0 nL Z pc ls (.int x :: st) ad h k n := by subst hp; exact fun H locs la hR hS hL hE => lv_i2l F.1 F.2.1 hd rfl (kk H locs la hR hS hL hE)
theorem x_i2b (F : xF p s m args meth c G ad0 h0 own cc nL r nm) {x : Int32} {q : Nat} (hd : decode cc pc = .ok (.i2b, 1)) (hp : pc + 1 = q) (kk : xX p l e R s m args below meth c G ad0 h0 nL Z q ls (.int x.toInt8.toInt32 :: st) ad h k n) : xX p l e R s m args below meth c G ad0 h0 nL Z pc ls (.int x :: st) ad h k n := by subst hp; exact fun H locs la hR hS hL hE => lv_i2b F.1 F.2.1 hd rfl (kk H locs la hR hS hL hE)
theorem x_i2c (F : xF p s m args meth c G ad0 h0 own cc nL r nm) {x : Int32} {q : Nat} (hd : decode cc pc = .ok (.i2c, 1)) (hp : pc + 1 = q) (kk : xX p l e R s m args below meth c G ad0 h0 nL Z q ls (.int (x.toUInt32 % 65536).toInt32 :: st) ad h k n) : xX p l e R s m args below meth c G ad0 h0 nL Z pc ls (.int x :: st) ad h k n := by subst hp; exact fun H locs la hR hS hL hE => lv_i2c F.1 F.2.1 hd rfl (kk H locs la hR hS hL hE)
theorem x_lcmp (F : xF p s m args meth c G ad0 h0 own cc nL r nm) {x y : Int64} {q : Nat} (hd : decode cc pc = .ok (.lcmp, 1)) (hp : pc + 1 = q) (kk : xX p l e R s m args below meth c G ad0 h0 nL Z q ls (.int (lg_cmp x y) :: st) ad h k n) : xX p l e R s m args below meth c G ad0 h0 nL Z pc ls (.long y :: .long x :: st) ad h k n := by subst hp; exact fun H locs la hR hS hL hE => W.lcmp F.1 F.2.1 hd (kk H locs la hR hS hL hE)
theorem x_dup (F : xF p s m args meth c G ad0 h0 own cc nL r nm) {va : Value} {q : Nat} (hd : decode cc pc = .ok (.dup, 1)) (hp : pc + 1 = q) (hva : va.category = 1) (kk : xX p l e R s m args below meth c G ad0 h0 nL Z q ls (va :: va :: st) ad h k n) : xX p l e R s m args below meth c G ad0 h0 nL Z pc ls (va :: st) ad h k n := by subst hp; exact fun H locs la hR hS hL hE => lv_dup F.1 F.2.1 hd hva (kk H locs la hR hS hL hE)
theorem x_pop (F : xF p s m args meth c G ad0 h0 own cc nL r nm) {va : Value} {q : Nat} (hd : decode cc pc = .ok (.pop, 1)) (hp : pc + 1 = q) (hva : va.category = 1) (kk : xX p l e R s m args below meth c G ad0 h0 nL Z q ls (st) ad h k n) : xX p l e R s m args below meth c G ad0 h0 nL Z pc ls (va :: st) ad h k n := by subst hp; exact fun H locs la hR hS hL hE => lv_pop F.1 F.2.1 hd hva (kk H locs la hR hS hL hE)
theorem x_dup_x1 (F : xF p s m args meth c G ad0 h0 own cc nL r nm) {va vb : Value} {q : Nat} (hd : decode cc pc = .ok (.dup_x1, 1)) (hp : pc + 1 = q) (hva : va.category = 1) (hvb : vb.category = 1) (kk : xX p l e R s m args below meth c G ad0 h0 nL Z q ls (va :: vb :: va :: st) ad h k n) : xX p l e R s m args below meth c G ad0 h0 nL Z pc ls (va :: vb :: st) ad h k n := by subst hp; exact fun H locs la hR hS hL hE => lv_dup_x1 F.1 F.2.1 hd hva hvb (kk H locs la hR hS hL hE)
theorem x_dup2 (F : xF p s m args meth c G ad0 h0 own cc nL r nm) {va vb : Value} {q : Nat} (hd : decode cc pc = .ok (.dup2, 1)) (hp : pc + 1 = q) (hva : va.category = 1) (hvb : vb.category = 1) (kk : xX p l e R s m args below meth c G ad0 h0 nL Z q ls (va :: vb :: va :: vb :: st) ad h k n) : xX p l e R s m args below meth c G ad0 h0 nL Z pc ls (va :: vb :: st) ad h k n := by subst hp; exact fun H locs la hR hS hL hE => lv_dup2_11 F.1 F.2.1 hd hva hvb (kk H locs la hR hS hL hE)
theorem x_if_eq (F : xF p s m args meth c G ad0 h0 own cc nL r nm) {x : Int32} {off : Int} (tgt : Nat) {q : Nat} (hd : decode cc pc = .ok (.ifCond .eq off, 3)) (ht : (pc : Int) + off = (tgt : Int)) (hp : pc + 3 = q) (kt : x = 0 → xX p l e R s m args below meth c G ad0 h0 nL Z tgt ls st ad h k n) (kf : ¬ x = 0 → xX p l e R s m args below meth c G ad0 h0 nL Z q ls st ad h k n) : xX p l e R s m args below meth c G ad0 h0 nL Z pc ls (.int x :: st) ad h k n := by subst hp; exact fun H locs la hR hS hL hE => lv_if_eq F.1 F.2.1 hd ht (fun z => kt z H locs la hR hS hL hE) (fun z => kf z H locs la hR hS hL hE)
theorem x_if_ne (F : xF p s m args meth c G ad0 h0 own cc nL r nm) {x : Int32} {off : Int} (tgt : Nat) {q : Nat} (hd : decode cc pc = .ok (.ifCond .ne off, 3)) (ht : (pc : Int) + off = (tgt : Int)) (hp : pc + 3 = q) (kt : ¬ x = 0 → xX p l e R s m args below meth c G ad0 h0 nL Z tgt ls st ad h k n) (kf : x = 0 → xX p l e R s m args below meth c G ad0 h0 nL Z q ls st ad h k n) : xX p l e R s m args below meth c G ad0 h0 nL Z pc ls (.int x :: st) ad h k n := by subst hp; exact fun H locs la hR hS hL hE => lv_if_ne F.1 F.2.1 hd ht (fun z => kt z H locs la hR hS hL hE) (fun z => kf z H locs la hR hS hL hE)
theorem x_if_lt (F : xF p s m args meth c G ad0 h0 own cc nL r nm) {x : Int32} {off : Int} (tgt : Nat) {q : Nat} (hd : decode cc pc = .ok (.ifCond .lt off, 3)) (ht : (pc : Int) + off = (tgt : Int)) (hp : pc + 3 = q) (kt : x < 0 → xX p l e R s m args below meth c G ad0 h0 nL Z tgt ls st ad h k n) (kf : ¬ x < 0 → xX p l e R s m args below meth c G ad0 h0 nL Z q ls st ad h k n) : xX p l e R s m args below meth c G ad0 h0 nL Z pc ls (.int x :: st) ad h k n := by subst hp; exact fun H locs la hR hS hL hE => lv_if_lt F.1 F.2.1 hd ht (fun z => kt z H locs la hR hS hL hE) (fun z => kf z H locs la hR hS hL hE)
theorem x_if_ge (F : xF p s m args meth c G ad0 h0 own cc nL r nm) {x : Int32} {off : Int} (tgt : Nat) {q : Nat} (hd : decode cc pc = .ok (.ifCond .ge off, 3)) (ht : (pc : Int) + off = (tgt : Int)) (hp : pc + 3 = q) (kt : 0 ≤ x → xX p l e R s m args below meth c G ad0 h0 nL Z tgt ls st ad h k n) (kf : ¬ 0 ≤ x → xX p l e R s m args below meth c G ad0 h0 nL Z q ls st ad h k n) : xX p l e R s m args below meth c G ad0 h0 nL Z pc ls (.int x :: st) ad h k n := by subst hp; exact fun H locs la hR hS hL hE => lv_if_ge F.1 F.2.1 hd ht (fun z => kt z H locs la hR hS hL hE) (fun z => kf z H locs la hR hS hL hE)
theorem x_if_gt (F : xF p s m args meth c G ad0 h0 own cc nL r nm) {x : Int32} {off : Int} (tgt : Nat) {q : Nat} (hd : decode cc pc = .ok (.ifCond .gt off, 3)) (ht : (pc : Int) + off = (tgt : Int)) (hp : pc + 3 = q) (kt : 0 < x → xX p l e R s m args below meth c G ad0 h0 nL Z tgt ls st ad h k n) (kf : ¬ 0 < x → xX p l e R s m args below meth c G ad0 h0 nL Z q ls st ad h k n) : xX p l e R s m args below meth c G ad0 h0 nL Z pc ls (.int x :: st) ad h k n := by subst hp; exact fun H locs la hR hS hL hE => lv_if_gt F.1 F.2.1 hd ht (fun z => kt z H locs la hR hS hL hE) (fun z => kf z H locs la hR hS hL hE)
theorem x_if_le (F : xF p s m args meth c G ad0 h0 own cc nL r nm) {x : Int32} {off : Int} (tgt : Nat) {q : Nat} (hd : decode cc pc = .ok (.ifCond .le off, 3)) (ht : (pc : Int) + off = (tgt : Int)) (hp : pc + 3 = q) (kt : x ≤ 0 → xX p l e R s m args below meth c G ad0 h0 nL Z tgt ls st ad h k n) (kf : ¬ x ≤ 0 → xX p l e R s m args below meth c G ad0 h0 nL Z q ls st ad h k n) : xX p l e R s m args below meth c G ad0 h0 nL Z pc ls (.int x :: st) ad h k n := by subst hp; exact fun H locs la hR hS hL hE => lv_if_le F.1 F.2.1 hd ht (fun z => kt z H locs la hR hS hL hE) (fun z => kf z H locs la hR hS hL hE)
theorem x_icmp_eq (F : xF p s m args meth c G ad0 h0 own cc nL r nm) {x y : Int32} {off : Int} (tgt : Nat) {q : Nat} (hd : decode cc pc = .ok (.if_icmp .eq off, 3)) (ht : (pc : Int) + off = (tgt : Int)) (hp : pc + 3 = q) (kt : x = y → xX p l e R s m args below meth c G ad0 h0 nL Z tgt ls st ad h k n) (kf : ¬ x = y → xX p l e R s m args below meth c G ad0 h0 nL Z q ls st ad h k n) : xX p l e R s m args below meth c G ad0 h0 nL Z pc ls (.int y :: .int x :: st) ad h k n := by subst hp; exact fun H locs la hR hS hL hE => lv_icmp_eq F.1 F.2.1 hd ht (fun z => kt z H locs la hR hS hL hE) (fun z => kf z H locs la hR hS hL hE)
theorem x_icmp_ne (F : xF p s m args meth c G ad0 h0 own cc nL r nm) {x y : Int32} {off : Int} (tgt : Nat) {q : Nat} (hd : decode cc pc = .ok (.if_icmp .ne off, 3)) (ht : (pc : Int) + off = (tgt : Int)) (hp : pc + 3 = q) (kt : ¬ x = y → xX p l e R s m args below meth c G ad0 h0 nL Z tgt ls st ad h k n) (kf : x = y → xX p l e R s m args below meth c G ad0 h0 nL Z q ls st ad h k n) : xX p l e R s m args below meth c G ad0 h0 nL Z pc ls (.int y :: .int x :: st) ad h k n := by subst hp; exact fun H locs la hR hS hL hE => lv_icmp_ne F.1 F.2.1 hd ht (fun z => kt z H locs la hR hS hL hE) (fun z => kf z H locs la hR hS hL hE)
theorem x_icmp_lt (F : xF p s m args meth c G ad0 h0 own cc nL r nm) {x y : Int32} {off : Int} (tgt : Nat) {q : Nat} (hd : decode cc pc = .ok (.if_icmp .lt off, 3)) (ht : (pc : Int) + off = (tgt : Int)) (hp : pc + 3 = q) (kt : x < y → xX p l e R s m args below meth c G ad0 h0 nL Z tgt ls st ad h k n) (kf : ¬ x < y → xX p l e R s m args below meth c G ad0 h0 nL Z q ls st ad h k n) : xX p l e R s m args below meth c G ad0 h0 nL Z pc ls (.int y :: .int x :: st) ad h k n := by subst hp; exact fun H locs la hR hS hL hE => lv_icmp_lt F.1 F.2.1 hd ht (fun z => kt z H locs la hR hS hL hE) (fun z => kf z H locs la hR hS hL hE)
theorem x_icmp_ge (F : xF p s m args meth c G ad0 h0 own cc nL r nm) {x y : Int32} {off : Int} (tgt : Nat) {q : Nat} (hd : decode cc pc = .ok (.if_icmp .ge off, 3)) (ht : (pc : Int) + off = (tgt : Int)) (hp : pc + 3 = q) (kt : y ≤ x → xX p l e R s m args below meth c G ad0 h0 nL Z tgt ls st ad h k n) (kf : ¬ y ≤ x → xX p l e R s m args below meth c G ad0 h0 nL Z q ls st ad h k n) : xX p l e R s m args below meth c G ad0 h0 nL Z pc ls (.int y :: .int x :: st) ad h k n := by subst hp; exact fun H locs la hR hS hL hE => lv_icmp_ge F.1 F.2.1 hd ht (fun z => kt z H locs la hR hS hL hE) (fun z => kf z H locs la hR hS hL hE)
theorem x_icmp_gt (F : xF p s m args meth c G ad0 h0 own cc nL r nm) {x y : Int32} {off : Int} (tgt : Nat) {q : Nat} (hd : decode cc pc = .ok (.if_icmp .gt off, 3)) (ht : (pc : Int) + off = (tgt : Int)) (hp : pc + 3 = q) (kt : y < x → xX p l e R s m args below meth c G ad0 h0 nL Z tgt ls st ad h k n) (kf : ¬ y < x → xX p l e R s m args below meth c G ad0 h0 nL Z q ls st ad h k n) : xX p l e R s m args below meth c G ad0 h0 nL Z pc ls (.int y :: .int x :: st) ad h k n := by subst hp; exact fun H locs la hR hS hL hE => lv_icmp_gt F.1 F.2.1 hd ht (fun z => kt z H locs la hR hS hL hE) (fun z => kf z H locs la hR hS hL hE)
theorem x_icmp_le (F : xF p s m args meth c G ad0 h0 own cc nL r nm) {x y : Int32} {off : Int} (tgt : Nat) {q : Nat} (hd : decode cc pc = .ok (.if_icmp .le off, 3)) (ht : (pc : Int) + off = (tgt : Int)) (hp : pc + 3 = q) (kt : x ≤ y → xX p l e R s m args below meth c G ad0 h0 nL Z tgt ls st ad h k n) (kf : ¬ x ≤ y → xX p l e R s m args below meth c G ad0 h0 nL Z q ls st ad h k n) : xX p l e R s m args below meth c G ad0 h0 nL Z pc ls (.int y :: .int x :: st) ad h k n := by subst hp; exact fun H locs la hR hS hL hE => lv_icmp_le F.1 F.2.1 hd ht (fun z => kt z H locs la hR hS hL hE) (fun z => kf z H locs la hR hS hL hE)
theorem x_goto (F : xF p s m args meth c G ad0 h0 own cc nL r nm) {off : Int} (tgt : Nat) (hd : decode cc pc = .ok (.goto off, 3)) (ht : (pc : Int) + off = (tgt : Int)) (kk : xX p l e R s m args below meth c G ad0 h0 nL Z tgt ls st ad h k n) : xX p l e R s m args below meth c G ad0 h0 nL Z pc ls st ad h k n := fun H locs la hR hS hL hE => lv_goto F.1 F.2.1 hd ht (kk H locs la hR hS hL hE)
theorem x_ifnull (F : xF p s m args meth c G ad0 h0 own cc nL r nm) {v : Value} {off : Int} (tgt : Nat) {q : Nat} (hd : decode cc pc = .ok (.ifnull off, 3)) (ht : (pc : Int) + off = (tgt : Int)) (hp : pc + 3 = q) (hv : xrefv v) (kt : v = .null → xX p l e R s m args below meth c G ad0 h0 nL Z tgt ls st ad h k n) (kf : ∀ a, v = .ref a → xX p l e R s m args below meth c G ad0 h0 nL Z q ls st ad h k n) : xX p l e R s m args below meth c G ad0 h0 nL Z pc ls (v :: st) ad h k n := by
  subst hp
  rcases hv with rfl | ⟨a, rfl⟩
  · exact fun H locs la hR hS hL hE => lv_ifnullN F.1 F.2.1 hd ht (kt rfl H locs la hR hS hL hE)
  · exact fun H locs la hR hS hL hE => lv_ifnull F.1 F.2.1 hd (kf a rfl H locs la hR hS hL hE)
theorem x_ifnonnull (F : xF p s m args meth c G ad0 h0 own cc nL r nm) {v : Value} {off : Int} (tgt : Nat) {q : Nat} (hd : decode cc pc = .ok (.ifnonnull off, 3)) (ht : (pc : Int) + off = (tgt : Int)) (hp : pc + 3 = q) (hv : xrefv v) (kt : ∀ a, v = .ref a → xX p l e R s m args below meth c G ad0 h0 nL Z tgt ls st ad h k n) (kf : v = .null → xX p l e R s m args below meth c G ad0 h0 nL Z q ls st ad h k n) : xX p l e R s m args below meth c G ad0 h0 nL Z pc ls (v :: st) ad h k n := by
  subst hp
  rcases hv with rfl | ⟨a, rfl⟩
  · exact fun H locs la hR hS hL hE => lv_ifnonnullN F.1 F.2.1 hd (kf rfl H locs la hR hS hL hE)
  · exact fun H locs la hR hS hL hE => lv_ifnonnull F.1 F.2.1 hd ht (kt a rfl H locs la hR hS hL hE)
theorem x_tableIn (F : xF p s m args meth c G ad0 h0 own cc nL r nm) {dflt lo hi : Int} {offs : Array Int} {len : Nat} {x : Int32} {off : Int} (tgt : Nat) (hd : decode cc pc = .ok (.tableswitch dflt lo hi offs, len)) (h1 : ¬ x.toInt < lo) (h2 : ¬ hi < x.toInt) (ho : offs[(x.toInt - lo).toNat]? = some off) (ht : (pc : Int) + off = (tgt : Int)) (kk : xX p l e R s m args below meth c G ad0 h0 nL Z tgt ls st ad h k n) : xX p l e R s m args below meth c G ad0 h0 nL Z pc ls (.int x :: st) ad h k n := fun H locs la hR hS hL hE => lv_tableIn F.1 F.2.1 hd h1 h2 ho ht (kk H locs la hR hS hL hE)
theorem x_tableOut (F : xF p s m args meth c G ad0 h0 own cc nL r nm) {dflt lo hi : Int} {offs : Array Int} {len : Nat} {x : Int32} (tgt : Nat) (hd : decode cc pc = .ok (.tableswitch dflt lo hi offs, len)) (h1 : x.toInt < lo ∨ hi < x.toInt) (ht : (pc : Int) + dflt = (tgt : Int)) (kk : xX p l e R s m args below meth c G ad0 h0 nL Z tgt ls st ad h k n) : xX p l e R s m args below meth c G ad0 h0 nL Z pc ls (.int x :: st) ad h k n := fun H locs la hR hS hL hE => lv_tableOut F.1 F.2.1 hd h1 ht (kk H locs la hR hS hL hE)
theorem x_lookup (F : xF p s m args meth c G ad0 h0 own cc nL r nm) {dflt : Int} {ps : Array (Int × Int)} {len : Nat} {x : Int32} {off : Int} (tgt : Nat) (hd : decode cc pc = .ok (.lookupswitch dflt ps, len)) (hq : (ps.toList.zip (ps.toList.drop 1)).all (fun (a, next) => a.1 < next.1) = true) (ho : Op.lookupswitch.offset ps.toList dflt x.toInt = off) (ht : (pc : Int) + off = (tgt : Int)) (kk : xX p l e R s m args below meth c G ad0 h0 nL Z tgt ls st ad h k n) : xX p l e R s m args below meth c G ad0 h0 nL Z pc ls (.int x :: st) ad h k n := fun H locs la hR hS hL hE => lv_lookup F.1 F.2.1 hd hq ho ht (kk H locs la hR hS hL hE)
theorem x_ldc (F : xF p s m args meth c G ad0 h0 own cc nL r nm) {i : Nat} {v : Int32} {q : Nat} (hd : decode cc pc = .ok (.ldc i, 2)) (hp : pc + 2 = q) (hw : Cond.constant own i v ∈ xwd) (kk : xX p l e R s m args below meth c G ad0 h0 nL Z q ls (.int v :: st) ad h k n) : xX p l e R s m args below meth c G ad0 h0 nL Z pc ls st ad h k n := by subst hp; exact fun H locs la hR hS hL hE => lv_ldc F.1 F.2.1 F.2.2.2.1 (F.2.2.2.2.1 _ hw) hd (kk H locs la hR hS hL hE)
end XROWS
end
section
/-! ===== fields, arrays, new cells, answers, calls, over the named heap ===== -/
theorem xwd_in {w : Cond} (h : w ∈ lw_tbl) (g : xgood w = true) : w ∈ xwd := List.mem_filter.mpr ⟨h, g⟩
theorem x_lay0 : ∀ w ∈ u_ws RX0 TX0 2, w ∈ xwd := by decide +kernel
theorem x_decl0 : ∀ k, k < 2 → (TX0 k).1 = RX0 := by decide +kernel
theorem x_lay1 : ∀ w ∈ u_ws RX1 TX1 3, w ∈ xwd := by decide +kernel
theorem x_decl1 : ∀ k, k < 3 → (TX1 k).1 = RX1 := by decide +kernel
theorem x_lay2 : ∀ w ∈ u_ws RX2 TX2 6, w ∈ xwd := by decide +kernel
theorem x_decl2 : ∀ k, k < 6 → (TX2 k).1 = RX2 := by decide +kernel
theorem x_lay3 : ∀ w ∈ u_ws RX3 TX3 9, w ∈ xwd := by decide +kernel
theorem x_decl3 : ∀ k, k < 9 → (TX3 k).1 = RX3 := by decide +kernel
theorem x_lay4 : ∀ w ∈ u_ws RX4 TX4 5, w ∈ xwd := by decide +kernel
theorem x_decl4 : ∀ k, k < 5 → (TX4 k).1 = RX4 := by decide +kernel
theorem x_lay5 : ∀ w ∈ u_ws RX5 TX5 5, w ∈ xwd := by decide +kernel
theorem x_decl5 : ∀ k, k < 5 → (TX5 k).1 = RX5 := by decide +kernel
theorem x_lay6 : ∀ w ∈ u_ws RX6 TX6 10, w ∈ xwd := by decide +kernel
theorem x_decl6 : ∀ k, k < 10 → (TX6 k).1 = RX6 := by decide +kernel
theorem x_lay7 : ∀ w ∈ u_ws RX7 TX7 32, w ∈ xwd := by decide +kernel
theorem x_decl7 : ∀ k, k < 32 → (TX7 k).1 = RX7 := by decide +kernel
theorem xcls_ok {ci : Nat} {C : String} {T : u_T} {N : Nat} (hc : xcl[ci]? = some (C, T, N)) : (∀ w ∈ u_ws C T N, w ∈ xwd) ∧ (∀ k, k < N → parseFieldDescriptor (T k).2.2.1 = some (xty ci k)) ∧ (∀ a, a < N → ∀ b, b < N → a ≠ b → (T a).2.1 ≠ (T b).2.1) ∧ ∀ k, k < N → (T k).1 = C := by
  match ci, hc with
  | 0, hc => cases hc; exact ⟨x_lay0, tyX0_ok, nmX0, x_decl0⟩
  | 1, hc => cases hc; exact ⟨x_lay1, tyX1_ok, nmX1, x_decl1⟩
  | 2, hc => cases hc; exact ⟨x_lay2, tyX2_ok, nmX2, x_decl2⟩
  | 3, hc => cases hc; exact ⟨x_lay3, tyX3_ok, nmX3, x_decl3⟩
  | 4, hc => cases hc; exact ⟨x_lay4, tyX4_ok, nmX4, x_decl4⟩
  | 5, hc => cases hc; exact ⟨x_lay5, tyX5_ok, nmX5, x_decl5⟩
  | 6, hc => cases hc; exact ⟨x_lay6, tyX6_ok, nmX6, x_decl6⟩
  | 7, hc => cases hc; exact ⟨x_lay7, tyX7_ok, nmX7, x_decl7⟩
  | k + 8, hc => simp [xcl] at hc
def xFS (own : String) (idx ci k : Nat) (fin : Bool) : Prop := ∃ C T N, xcl[ci]? = some (C, T, N) ∧ k < N ∧ Cond.fieldLink own idx C (T k).2.1 (T k).2.2.1 ∈ xwd ∧ (T k).2.2.2 = fin
def xFSN (own : String) (idx ci k : Nat) (fin : Bool) : Prop := ∃ C T N host, xcl[ci]? = some (C, T, N) ∧ k < N ∧ Cond.fieldLinkNest own idx C (T k).2.1 (T k).2.2.1 host ∈ xnw ∧ (T k).2.2.2 = fin
section XHEAP
variable {p : Program} {l : Launch} {e : Env} {R : Room} {s : State} {m : MethodId} {args : Array Value} {below : List Frame} {meth : Method} {c : Code} {G : xG} {ad0 : xAd} {h0 : xH} {nL : Nat} {Z : State → Prop} {pc : Nat} {ls : List (Nat × Value)} {st : List Value} {ad : xAd} {h : xH} {k n : Nat} {own : String} {cc : ByteArray} {r : Option FieldType} {nm : String}
theorem x_get (F : xF p s m args meth c G ad0 h0 own cc nL r nm) {ci j idx : Nat} {fin : Bool} {t : Tg} {fs : List Value} {v : Value} {q : Nat} (hd : decode cc pc = .ok (.getfield idx, 3)) (hp : pc + 3 = q) (hs : xFS own idx ci j fin) (ht : h t = some (.inr (ci, fs))) (hv : fs[j]? = some v) (kk : xX p l e R s m args below meth c G ad0 h0 nL Z q ls (v :: st) ad h k n) : xX p l e R s m args below meth c G ad0 h0 nL Z pc ls (.ref (ad t) :: st) ad h k n := by
  subst hp
  obtain ⟨C, T, N, hc, hk, hl, -⟩ := hs
  obtain ⟨hin, -, -, hC⟩ := xcls_ok hc
  exact fun H locs la hR hS hL hE => va_get F.1 F.2.1 F.2.2.2.2.1 hin F.2.2.2.1 F.2.2.2.2.2.2.1.1 (hR.one ht) 0 rfl hc j hk (F.2.2.2.2.1 _ hl) (fun x hx => by rw [hC j hk] at hx; exact hx) hv hd (kk H locs la hR hS hL hE)
theorem x_getN (F : xF p s m args meth c G ad0 h0 own cc nL r nm) {ci j idx : Nat} {fin : Bool} {t : Tg} {fs : List Value} {v : Value} {q : Nat} (hd : decode cc pc = .ok (.getfield idx, 3)) (hp : pc + 3 = q) (hs : xFSN own idx ci j fin) (ht : h t = some (.inr (ci, fs))) (hv : fs[j]? = some v) (kk : xX p l e R s m args below meth c G ad0 h0 nL Z q ls (v :: st) ad h k n) : xX p l e R s m args below meth c G ad0 h0 nL Z pc ls (.ref (ad t) :: st) ad h k n := by
  subst hp
  obtain ⟨C, T, N, host, hc, hk, hl, -⟩ := hs
  obtain ⟨hin, -, -, hC⟩ := xcls_ok hc
  exact fun H locs la hR hS hL hE => va_getN F.1 F.2.1 F.2.2.2.2.1 hin F.2.2.2.1 F.2.2.2.2.2.2.1.1 (hR.one ht) 0 rfl hc j hk (va_Nw.use (by rfl) (F.2.2.2.2.2.2.1.2.1 _ hl)) (fun x hx => by rw [hC j hk] at hx; exact hx) hv hd (kk H locs la hR hS hL hE)
theorem x_put (F : xF p s m args meth c G ad0 h0 own cc nL r nm) {ci j idx : Nat} {t : Tg} {fs : List Value} {v : Value} {q : Nat} (hd : decode cc pc = .ok (.putfield idx, 3)) (hp : pc + 3 = q) (hs : xFS own idx ci j false) (ht : h t = some (.inr (ci, fs))) (hlen : j < fs.length) (hn : narrow (xty ci j) v = v) (hfit : fits (xty ci j) v = true) (kk : xX p l e R s m args below meth c G ad0 h0 nL Z q ls st ad (xup h t (.inr (ci, fs.set j v))) k n) : xX p l e R s m args below meth c G ad0 h0 nL Z pc ls (v :: .ref (ad t) :: st) ad h k n := by
  subst hp
  obtain ⟨C, T, N, hc, hk, hl, hfin⟩ := hs
  obtain ⟨hin, hty, hnm, hC⟩ := xcls_ok hc
  intro H locs la hR hS hL hE
  have hts := F.2.2.2.2.1
  have hK := F.2.2.2.2.2.2.1.1
  have hap := va_apart (own := own) hts hin (xty ci) hty hnm hK hc
  obtain ⟨r0, h1, cell, q1, q2, q3, q4⟩ := (hR.1 t _ ht).1
  have hr : r0 = (C, T, N) := Option.some.inj (h1.symm.trans hc)
  subst hr
  obtain ⟨hSl, hfc, kC, hkC, hkind⟩ := hK.1 ci _ hc
  obtain ⟨cf, kf, fi, f, hi, hsl⟩ := hSl j hk
  have hlay := hts _ (hin _ (u_in_lay hk))
  unfold u_lay at hlay
  have hst := (u_facts hfc hkC (u_lays hts hin hk) hi).1
  have hi' : s.fieldFound? C (T j).2.1 (T j).2.2.1 = some (cf, kf, fi, f) := by rw [hC j hk] at hi; exact hi
  rw [if_neg (by rw [hfin]; decide)] at hlay
  have h6 := u_store hfc hkC hkind hlay hi (hty j hk) hn hfit
  refine W.putK F.1 F.2.1 (f := f) ⟨F.2.2.2.1, hts _ hl, ⟨_, _, _, hi'⟩, hst⟩ (by rw [q2]; exact h6) q1 q3 (by rw [hsl]; exact k2_hasslot (q4 j hk)) rfl rfl hd fun H1 e1 e2 e3 => ?_
  rw [hsl] at e1 ⊢
  exact kk H1 _ la (hR.set ht ⟨_, hc, t_OB.to (V := updV (vp_V fs) j v) ⟨_, e1, q2, q3, t_set q4 hap hk v⟩ (fun i _ => vp_updV_set hlen v i)⟩ e3) (hS.put e2 e3 (hR.1 t _ ht).2) hL (hE.tr xExt.up)
theorem x_putF (F : xF p s m args meth c G ad0 h0 own cc nL r nm) {ci j idx : Nat} {t : Tg} {fs : List Value} {v : Value} {q : Nat} (hd : decode cc pc = .ok (.putfield idx, 3)) (hp : pc + 3 = q) (hs : xFS own idx ci j true) (hi2 : nm = "<init>") (ho0 : (xcl[ci]?).map (fun r => r.1) = some own) (ht : h t = some (.inr (ci, fs))) (hlen : j < fs.length) (hn : narrow (xty ci j) v = v) (hfit : fits (xty ci j) v = true) (kk : xX p l e R s m args below meth c G ad0 h0 nL Z q ls st ad (xup h t (.inr (ci, fs.set j v))) k n) : xX p l e R s m args below meth c G ad0 h0 nL Z pc ls (v :: .ref (ad t) :: st) ad h k n := by
  subst hp
  obtain ⟨C, T, N, hc, hk, hl, hfin⟩ := hs
  obtain ⟨hin, hty, hnm, hC⟩ := xcls_ok hc
  intro H locs la hR hS hL hE
  have hts := F.2.2.2.2.1
  have hK := F.2.2.2.2.2.2.1.1
  have hap := va_apart (own := own) hts hin (xty ci) hty hnm hK hc
  obtain ⟨r0, h1, cell, q1, q2, q3, q4⟩ := (hR.1 t _ ht).1
  have hr : r0 = (C, T, N) := Option.some.inj (h1.symm.trans hc)
  subst hr
  obtain ⟨hSl, hfc, kC, hkC, hkind⟩ := hK.1 ci _ hc
  obtain ⟨cf, kf, fi, f, hi, hsl⟩ := hSl j hk
  have hlay := hts _ (hin _ (u_in_lay hk))
  unfold u_lay at hlay
  have hst := (u_facts hfc hkC (u_lays hts hin hk) hi).1
  have hi' : s.fieldFound? C (T j).2.1 (T j).2.2.1 = some (cf, kf, fi, f) := by rw [hC j hk] at hi; exact hi
  rw [if_pos hfin] at hlay
  have ho : C = own := by rw [hc] at ho0; exact Option.some.inj ho0
  have hcf : m.cls = cf := by
    obtain ⟨_, _, c', _, _, _, -, -, hf', -, -, -, hown2, -⟩ := Cond.laysFinal_spec hlay
    have e1 : c' = cf := by have := hi.symm.trans hf'; simp at this; exact this.1.symm
    rw [hC j hk, ho] at hown2
    rw [← e1]; exact Option.some.inj (F.2.2.2.1.symm.trans hown2)
  have h6 := u_fits hfc hkC hkind (Or.inr hlay) hi (hty j hk) hn hfit
  refine W.putFinK F.1 F.2.1 F.2.2.2.1 (hts _ hl) hi' hst hcf (F.2.2.2.2.2.2.2.2.1.trans hi2) (by rw [q2]; exact h6) q1 q3 (by rw [hsl]; exact k2_hasslot (q4 j hk)) rfl rfl hd fun H1 e1 e2 e3 => ?_
  rw [hsl] at e1 ⊢
  exact kk H1 _ la (hR.set ht ⟨_, hc, t_OB.to (V := updV (vp_V fs) j v) ⟨_, e1, q2, q3, t_set q4 hap hk v⟩ (fun i _ => vp_updV_set hlen v i)⟩ e3) (hS.put e2 e3 (hR.1 t _ ht).2) hL (hE.tr xExt.up)
theorem x_putN (F : xF p s m args meth c G ad0 h0 own cc nL r nm) {ci j idx : Nat} {t : Tg} {fs : List Value} {v : Value} {q : Nat} (hd : decode cc pc = .ok (.putfield idx, 3)) (hp : pc + 3 = q) (hs : xFSN own idx ci j false) (ht : h t = some (.inr (ci, fs))) (hlen : j < fs.length) (hn : narrow (xty ci j) v = v) (hfit : fits (xty ci j) v = true) (kk : xX p l e R s m args below meth c G ad0 h0 nL Z q ls st ad (xup h t (.inr (ci, fs.set j v))) k n) : xX p l e R s m args below meth c G ad0 h0 nL Z pc ls (v :: .ref (ad t) :: st) ad h k n := by
  subst hp
  obtain ⟨C, T, N, host, hc, hk, hl, hfin⟩ := hs
  obtain ⟨hin, hty, hnm, hC⟩ := xcls_ok hc
  intro H locs la hR hS hL hE
  have hts := F.2.2.2.2.1
  have hK := F.2.2.2.2.2.2.1.1
  have hap := va_apart (own := own) hts hin (xty ci) hty hnm hK hc
  obtain ⟨r0, h1, cell, q1, q2, q3, q4⟩ := (hR.1 t _ ht).1
  have hr : r0 = (C, T, N) := Option.some.inj (h1.symm.trans hc)
  subst hr
  obtain ⟨hSl, hfc, kC, hkC, hkind⟩ := hK.1 ci _ hc
  obtain ⟨cf, kf, fi, f, hi, hsl⟩ := hSl j hk
  have hlay := hts _ (hin _ (u_in_lay hk))
  unfold u_lay at hlay
  have hst := (u_facts hfc hkC (u_lays hts hin hk) hi).1
  have hi' : s.fieldFound? C (T j).2.1 (T j).2.2.1 = some (cf, kf, fi, f) := by rw [hC j hk] at hi; exact hi
  rw [if_neg (by rw [hfin]; decide)] at hlay
  have h6 := u_store hfc hkC hkind hlay hi (hty j hk) hn hfit
  refine va_WputK F.1 F.2.1 (f := f) F.2.2.2.1 (va_Nw.use (by rfl) (F.2.2.2.2.2.2.1.2.1 _ hl)) hi' hst (by rw [q2]; exact h6) q1 q3 (by rw [hsl]; exact k2_hasslot (q4 j hk)) rfl rfl hd fun H1 e1 e2 e3 => ?_
  rw [hsl] at e1 ⊢
  exact kk H1 _ la (hR.set ht ⟨_, hc, t_OB.to (V := updV (vp_V fs) j v) ⟨_, e1, q2, q3, t_set q4 hap hk v⟩ (fun i _ => vp_updV_set hlen v i)⟩ e3) (hS.put e2 e3 (hR.1 t _ ht).2) hL (hE.tr xExt.up)
theorem x_ix {j N : Nat} (hj : j < N) (hN : N < 2 ^ 31) : (nI j).toNatClampNeg = j := nI_clamp (by omega)
theorem x_iald (F : xF p s m args meth c G ad0 h0 own cc nL r nm) {t : Tg} {N j : Nat} {x : Int32} {f : Nat → Int32} {q : Nat} (hd : decode cc pc = .ok (.iaload, 1)) (hp : pc + 1 = q) (ht : h t = some (.inl (0, N, .inl f))) (hx : x = nI j) (hj : j < N) (hN : N < 2 ^ 31) (kk : xX p l e R s m args below meth c G ad0 h0 nL Z q ls (.int (f j) :: st) ad h k n) : xX p l e R s m args below meth c G ad0 h0 nL Z pc ls (.int x :: .ref (ad t) :: st) ad h k n := by
  subst hp; subst hx
  intro H locs la hR hS hL hE
  refine va_iald F.1 F.2.1 F.2.2.2.2.2.2.1.1 (hR.one ht) 0 0 rfl rfl (vp_in_nI hj hN) hd ?_
  rw [x_ix hj hN]
  exact kk H locs la hR hS hL hE
theorem x_bald (F : xF p s m args meth c G ad0 h0 own cc nL r nm) {t : Tg} {N j : Nat} {x : Int32} {f : Nat → Int32} {q : Nat} (hd : decode cc pc = .ok (.baload, 1)) (hp : pc + 1 = q) (ht : h t = some (.inl (1, N, .inl f))) (hx : x = nI j) (hj : j < N) (hN : N < 2 ^ 31) (kk : xX p l e R s m args below meth c G ad0 h0 nL Z q ls (.int (f j) :: st) ad h k n) : xX p l e R s m args below meth c G ad0 h0 nL Z pc ls (.int x :: .ref (ad t) :: st) ad h k n := by
  subst hp; subst hx
  intro H locs la hR hS hL hE
  refine va_bald F.1 F.2.1 F.2.2.2.2.2.2.1.1 (hR.one ht) 0 1 rfl rfl (vp_in_nI hj hN) hd ?_
  rw [x_ix hj hN]
  exact kk H locs la hR hS hL hE
theorem x_zald (F : xF p s m args meth c G ad0 h0 own cc nL r nm) {t : Tg} {N j : Nat} {x : Int32} {f : Nat → Int32} {q : Nat} (hd : decode cc pc = .ok (.baload, 1)) (hp : pc + 1 = q) (ht : h t = some (.inl (2, N, .inl f))) (hx : x = nI j) (hj : j < N) (hN : N < 2 ^ 31) (kk : xX p l e R s m args below meth c G ad0 h0 nL Z q ls (.int (f j) :: st) ad h k n) : xX p l e R s m args below meth c G ad0 h0 nL Z pc ls (.int x :: .ref (ad t) :: st) ad h k n := by
  subst hp; subst hx
  intro H locs la hR hS hL hE
  refine va_zald F.1 F.2.1 F.2.2.2.2.2.2.1.1 (hR.one ht) 0 2 rfl rfl (vp_in_nI hj hN) hd ?_
  rw [x_ix hj hN]
  exact kk H locs la hR hS hL hE
theorem x_lald (F : xF p s m args meth c G ad0 h0 own cc nL r nm) {t : Tg} {N j : Nat} {x : Int32} {f : Nat → Int64} {q : Nat} (hd : decode cc pc = .ok (.laload, 1)) (hp : pc + 1 = q) (ht : h t = some (.inl (3, N, .inr (.inl f)))) (hx : x = nI j) (hj : j < N) (hN : N < 2 ^ 31) (kk : xX p l e R s m args below meth c G ad0 h0 nL Z q ls (.long (f j) :: st) ad h k n) : xX p l e R s m args below meth c G ad0 h0 nL Z pc ls (.int x :: .ref (ad t) :: st) ad h k n := by
  subst hp; subst hx
  intro H locs la hR hS hL hE
  refine va_lald F.1 F.2.1 F.2.2.2.2.2.2.1.1 (hR.one ht) 0 3 rfl rfl (vp_in_nI hj hN) hd ?_
  rw [x_ix hj hN]
  exact kk H locs la hR hS hL hE
theorem x_aald4 (F : xF p s m args meth c G ad0 h0 own cc nL r nm) {t : Tg} {N j : Nat} {x : Int32} {f : Nat → Option Nat} {q : Nat} (hd : decode cc pc = .ok (.aaload, 1)) (hp : pc + 1 = q) (ht : h t = some (.inl (4, N, .inr (.inr (.inr (.inr f)))))) (hx : x = nI j) (hj : j < N) (hN : N < 2 ^ 31) (kk : xX p l e R s m args below meth c G ad0 h0 nL Z q ls (va_rf (f j) :: st) ad h k n) : xX p l e R s m args below meth c G ad0 h0 nL Z pc ls (.int x :: .ref (ad t) :: st) ad h k n := by
  subst hp; subst hx
  intro H locs la hR hS hL hE
  refine va_aldq F.1 F.2.1 F.2.2.2.2.2.2.1.1 (hR.one ht) 0 4 rfl rfl (vp_in_nI hj hN) hd ?_
  rw [x_ix hj hN]
  exact kk H locs la hR hS hL hE
theorem x_aald5 (F : xF p s m args meth c G ad0 h0 own cc nL r nm) {t : Tg} {N j : Nat} {x : Int32} {f : Nat → Option Nat} {q : Nat} (hd : decode cc pc = .ok (.aaload, 1)) (hp : pc + 1 = q) (ht : h t = some (.inl (5, N, .inr (.inr (.inr (.inr f)))))) (hx : x = nI j) (hj : j < N) (hN : N < 2 ^ 31) (kk : xX p l e R s m args below meth c G ad0 h0 nL Z q ls (va_rf (f j) :: st) ad h k n) : xX p l e R s m args below meth c G ad0 h0 nL Z pc ls (.int x :: .ref (ad t) :: st) ad h k n := by
  subst hp; subst hx
  intro H locs la hR hS hL hE
  refine va_aldq F.1 F.2.1 F.2.2.2.2.2.2.1.1 (hR.one ht) 0 5 rfl rfl (vp_in_nI hj hN) hd ?_
  rw [x_ix hj hN]
  exact kk H locs la hR hS hL hE
theorem x_alen (F : xF p s m args meth c G ad0 h0 own cc nL r nm) {t : Tg} {ti : Nat} {a : vp_A} {q : Nat} (hd : decode cc pc = .ok (.arraylength, 1)) (hp : pc + 1 = q) (ht : h t = some (.inl (ti, a))) (hti : ti < 6) (kk : xX p l e R s m args below meth c G ad0 h0 nL Z q ls (.int (nI a.1) :: st) ad h k n) : xX p l e R s m args below meth c G ad0 h0 nL Z pc ls (.ref (ad t) :: st) ad h k n := by
  subst hp
  intro H locs la hR hS hL hE
  have hy : ∃ ty, (xtys G.2.1)[ti]? = some (G.2.1 ti, ty) := by
    rcases (show ti = 0 ∨ ti = 1 ∨ ti = 2 ∨ ti = 3 ∨ ti = 4 ∨ ti = 5 by omega) with rfl | rfl | rfl | rfl | rfl | rfl <;> exact ⟨_, rfl⟩
  obtain ⟨ty, hy⟩ := hy
  exact va_alen F.1 F.2.1 F.2.2.2.2.2.2.1.1 (hR.one ht) 0 ti rfl hy rfl hd (kk H locs la hR hS hL hE)
theorem x_iast (F : xF p s m args meth c G ad0 h0 own cc nL r nm) {t : Tg} {N j : Nat} {x : Int32} {v : Int32} {f : Nat → Int32} {q : Nat} (hd : decode cc pc = .ok (.iastore, 1)) (hp : pc + 1 = q) (ht : h t = some (.inl (0, N, .inl f))) (hx : x = nI j) (hj : j < N) (hN : N < 2 ^ 31) (kk : xX p l e R s m args below meth c G ad0 h0 nL Z q ls st ad (xup h t (.inl (0, N, .inl (upd f j v)))) k n) : xX p l e R s m args below meth c G ad0 h0 nL Z pc ls (.int v :: .int x :: .ref (ad t) :: st) ad h k n := by
  subst hp; subst hx
  intro H locs la hR hS hL hE
  have hat := (hR.1 t _ ht).1
  refine W.iast F.1 F.2.1 hat ((F.2.2.2.2.2.2.1.1.2 0 _ rfl).1 N (fun i => .int (f i))) (fun q => by cases q) (by show ¬ (nI j < 0 ∨ (arrV _ _ _).slots.size ≤ _); rw [arrV_size]; exact vp_in_nI hj hN) rfl rfl hd fun H1 e1 z oq => ?_
  refine kk H1 _ la (hR.set ht ?_ oq) (hS.put z oq (hR.1 t _ ht).2) hL (hE.tr xExt.up)
  show H1[ad t]? = some (vp_cell _ _)
  rw [e1, x_ix hj hN]
  show some ((vp_cell _ (N, .inl f)).setSlot _ _) = _
  rw [vp_cell_i, vp_cell_i, arrV_store]
  congr 2
  funext i
  by_cases hq : i = j
  · subst hq
    simp [updV, upd]
  · simp [updV, upd, hq]
theorem x_bast (F : xF p s m args meth c G ad0 h0 own cc nL r nm) {t : Tg} {N j : Nat} {x : Int32} {v : Int32} {f : Nat → Int32} {q : Nat} (hd : decode cc pc = .ok (.bastore, 1)) (hp : pc + 1 = q) (ht : h t = some (.inl (1, N, .inl f))) (hx : x = nI j) (hj : j < N) (hN : N < 2 ^ 31) (kk : xX p l e R s m args below meth c G ad0 h0 nL Z q ls st ad (xup h t (.inl (1, N, .inl (upd f j (vp_nar .byte v))))) k n) : xX p l e R s m args below meth c G ad0 h0 nL Z pc ls (.int v :: .int x :: .ref (ad t) :: st) ad h k n := by
  subst hp; subst hx
  intro H locs la hR hS hL hE
  have hat := (hR.1 t _ ht).1
  refine W.bast F.1 F.2.1 hat ((F.2.2.2.2.2.2.1.1.2 1 _ rfl).1 N (fun i => .int (f i))) (fun q => by cases q) (by show ¬ (nI j < 0 ∨ (arrV _ _ _).slots.size ≤ _); rw [arrV_size]; exact vp_in_nI hj hN) rfl rfl hd fun H1 e1 z oq => ?_
  refine kk H1 _ la (hR.set ht ?_ oq) (hS.put z oq (hR.1 t _ ht).2) hL (hE.tr xExt.up)
  show H1[ad t]? = some (vp_cell _ _)
  rw [e1, x_ix hj hN]
  show some ((vp_cell _ (N, .inl f)).setSlot _ _) = _
  rw [vp_cell_i, vp_cell_i, arrV_store]
  congr 2
  funext i
  by_cases hq : i = j
  · subst hq
    (simp [updV, upd, vp_nar]; try rfl)
  · simp [updV, upd, hq]
theorem x_zast (F : xF p s m args meth c G ad0 h0 own cc nL r nm) {t : Tg} {N j : Nat} {x : Int32} {v : Int32} {f : Nat → Int32} {q : Nat} (hd : decode cc pc = .ok (.bastore, 1)) (hp : pc + 1 = q) (ht : h t = some (.inl (2, N, .inl f))) (hx : x = nI j) (hj : j < N) (hN : N < 2 ^ 31) (kk : xX p l e R s m args below meth c G ad0 h0 nL Z q ls st ad (xup h t (.inl (2, N, .inl (upd f j (vp_nar .boolean v))))) k n) : xX p l e R s m args below meth c G ad0 h0 nL Z pc ls (.int v :: .int x :: .ref (ad t) :: st) ad h k n := by
  subst hp; subst hx
  intro H locs la hR hS hL hE
  have hat := (hR.1 t _ ht).1
  refine W.zast F.1 F.2.1 hat ((F.2.2.2.2.2.2.1.1.2 2 _ rfl).1 N (fun i => .int (f i))) (fun q => by cases q) (by show ¬ (nI j < 0 ∨ (arrV _ _ _).slots.size ≤ _); rw [arrV_size]; exact vp_in_nI hj hN) rfl rfl hd fun H1 e1 z oq => ?_
  refine kk H1 _ la (hR.set ht ?_ oq) (hS.put z oq (hR.1 t _ ht).2) hL (hE.tr xExt.up)
  show H1[ad t]? = some (vp_cell _ _)
  rw [e1, x_ix hj hN]
  show some ((vp_cell _ (N, .inl f)).setSlot _ _) = _
  rw [vp_cell_i, vp_cell_i, arrV_store]
  congr 2
  funext i
  by_cases hq : i = j
  · subst hq
    (simp [updV, upd, vp_nar]; try rfl)
  · simp [updV, upd, hq]
theorem x_last (F : xF p s m args meth c G ad0 h0 own cc nL r nm) {t : Tg} {N j : Nat} {x : Int32} {v : Int64} {f : Nat → Int64} {q : Nat} (hd : decode cc pc = .ok (.lastore, 1)) (hp : pc + 1 = q) (ht : h t = some (.inl (3, N, .inr (.inl f)))) (hx : x = nI j) (hj : j < N) (hN : N < 2 ^ 31) (kk : xX p l e R s m args below meth c G ad0 h0 nL Z q ls st ad (xup h t (.inl (3, N, .inr (.inl (vp_updL f j v))))) k n) : xX p l e R s m args below meth c G ad0 h0 nL Z pc ls (.long v :: .int x :: .ref (ad t) :: st) ad h k n := by
  subst hp; subst hx
  intro H locs la hR hS hL hE
  have hat := (hR.1 t _ ht).1
  refine W.last F.1 F.2.1 hat ((F.2.2.2.2.2.2.1.1.2 3 _ rfl).1 N (fun i => .long (f i))) (fun q => by cases q) (by show ¬ (nI j < 0 ∨ (arrV _ _ _).slots.size ≤ _); rw [arrV_size]; exact vp_in_nI hj hN) rfl rfl hd fun H1 e1 z oq => ?_
  refine kk H1 _ la (hR.set ht ?_ oq) (hS.put z oq (hR.1 t _ ht).2) hL (hE.tr xExt.up)
  show H1[ad t]? = some (vp_cell _ _)
  rw [e1, x_ix hj hN]
  show some ((vp_cell _ (N, .inr (.inl f))).setSlot _ _) = _
  rw [vp_cell_l, vp_cell_l, arrV_store]
  congr 2
  funext i
  by_cases hq : i = j
  · subst hq
    simp [updV, vp_updL]
  · simp [updV, vp_updL, hq]
theorem x_aast4 (F : xF p s m args meth c G ad0 h0 own cc nL r nm) {t u : Tg} {N j : Nat} {x : Int32} {vs : List Value} {f : Nat → Option Nat} {q : Nat} (hd : decode cc pc = .ok (.aastore, 1)) (hp : pc + 1 = q) (ht : h t = some (.inl (4, N, .inr (.inr (.inr (.inr f)))))) (hu : h u = some (.inr (4, vs))) (hx : x = nI j) (hj : j < N) (hN : N < 2 ^ 31) (kk : xX p l e R s m args below meth c G ad0 h0 nL Z q ls st ad (xup h t (.inl (4, N, .inr (.inr (.inr (.inr (va_up f j (some (ad u))))))))) k n) : xX p l e R s m args below meth c G ad0 h0 nL Z pc ls (.ref (ad u) :: .int x :: .ref (ad t) :: st) ad h k n := by
  subst hp; subst hx
  intro H locs la hR hS hL hE
  have hat := (hR.1 t _ ht).1
  have hK := F.2.2.2.2.2.2.1.1
  obtain ⟨r', hr', cellV, g1, g2, g3, -⟩ := (hR.1 u _ hu).1
  have hcls := (hK.1 4 _ rfl).2
  obtain ⟨kA, comp, k1, k2, k3, -⟩ := (hK.2 4 _ rfl).2
  have hcomp : comp = G.1.1 4 := Option.some.inj (k3.symm.trans hcls.1)
  subst hcomp
  obtain ⟨kC, hkC, -⟩ := hcls.2
  have hin := vp_in_nI hj hN
  refine W.aast F.1 F.2.1 hat (fun q h => by cases h) (fun h => by cases h) k1 k2 rfl hkC ⟨fun q => hin (Or.inl q), by show _ < (arrV _ _ _).slots.size; rw [arrV_size]; exact Nat.not_le.mp fun q => hin (Or.inr q)⟩ g1 (fun q h => by rw [g3] at h; cases h) (by rw [g2]; exact hkC) (by rw [g2]; exact va_assign hcls) rfl rfl hd fun H1 e1 z oq => ?_
  refine kk H1 _ la (hR.set ht ?_ oq) (hS.put z oq (hR.1 t _ ht).2) hL (hE.tr xExt.up)
  show H1[ad t]? = some (vp_cell _ _)
  rw [e1, x_ix hj hN]
  show some ((vp_cell _ (N, .inr (.inr (.inr (.inr f))))).setSlot _ _) = _
  rw [vp_cell_q, vp_cell_q, arrV_store]
  congr 2
  funext i
  by_cases hq : i = j
  · subst hq
    simp [updV, va_up, va_rf]
  · simp [updV, va_up, hq]
theorem x_aast5 (F : xF p s m args meth c G ad0 h0 own cc nL r nm) {t u : Tg} {N j : Nat} {x : Int32} {vs : List Value} {f : Nat → Option Nat} {q : Nat} (hd : decode cc pc = .ok (.aastore, 1)) (hp : pc + 1 = q) (ht : h t = some (.inl (5, N, .inr (.inr (.inr (.inr f)))))) (hu : h u = some (.inr (2, vs))) (hx : x = nI j) (hj : j < N) (hN : N < 2 ^ 31) (kk : xX p l e R s m args below meth c G ad0 h0 nL Z q ls st ad (xup h t (.inl (5, N, .inr (.inr (.inr (.inr (va_up f j (some (ad u))))))))) k n) : xX p l e R s m args below meth c G ad0 h0 nL Z pc ls (.ref (ad u) :: .int x :: .ref (ad t) :: st) ad h k n := by
  subst hp; subst hx
  intro H locs la hR hS hL hE
  have hat := (hR.1 t _ ht).1
  have hK := F.2.2.2.2.2.2.1.1
  obtain ⟨r', hr', cellV, g1, g2, g3, -⟩ := (hR.1 u _ hu).1
  have hcls := (hK.1 2 _ rfl).2
  obtain ⟨kA, comp, k1, k2, k3, -⟩ := (hK.2 5 _ rfl).2
  have hcomp : comp = G.1.1 2 := Option.some.inj (k3.symm.trans hcls.1)
  subst hcomp
  obtain ⟨kC, hkC, -⟩ := hcls.2
  have hin := vp_in_nI hj hN
  refine W.aast F.1 F.2.1 hat (fun q h => by cases h) (fun h => by cases h) k1 k2 rfl hkC ⟨fun q => hin (Or.inl q), by show _ < (arrV _ _ _).slots.size; rw [arrV_size]; exact Nat.not_le.mp fun q => hin (Or.inr q)⟩ g1 (fun q h => by rw [g3] at h; cases h) (by rw [g2]; exact hkC) (by rw [g2]; exact va_assign hcls) rfl rfl hd fun H1 e1 z oq => ?_
  refine kk H1 _ la (hR.set ht ?_ oq) (hS.put z oq (hR.1 t _ ht).2) hL (hE.tr xExt.up)
  show H1[ad t]? = some (vp_cell _ _)
  rw [e1, x_ix hj hN]
  show some ((vp_cell _ (N, .inr (.inr (.inr (.inr f))))).setSlot _ _) = _
  rw [vp_cell_q, vp_cell_q, arrV_store]
  congr 2
  funext i
  by_cases hq : i = j
  · subst hq
    simp [updV, va_up, va_rf]
  · simp [updV, va_up, hq]
theorem x_A {H : Heap} {locs : List Loc} (hS : va_S (xFr ad0 h0 s.heap.size) s.heap H locs) : xFr ad0 h0 s.heap.size H.size := Or.inr hS.1
theorem x_Snew {A : Nat → Prop} {H0 H H1 : Heap} {locs : List Loc} (hS : va_S A H0 H locs) (z : H1.size = H.size + 1) (o1 : ∀ q, q < H.size → H1[q]? = H[q]?) : va_S A H0 H1 locs := ⟨Nat.le_trans hS.1 (by omega), fun x h1 h2 => (o1 x (Nat.lt_of_lt_of_le h1 hS.1)).trans (hS.2.1 x h1 h2), hS.2.2⟩
theorem x_new (F : xF p s m args meth c G ad0 h0 own cc nL r nm) (t : Tg) {ci N idx : Nat} {C : String} {T : u_T} (fs : List Value) {q : Nat} (hd : decode cc pc = .ok (.new idx, 3)) (hp : pc + 3 = q) (hc : xcl[ci]? = some (C, T, N)) (hw : Cond.classLink own idx C ∈ xwd ∧ Cond.instantiable C N ∈ xwd ∧ Cond.initialized C ∈ xwd) (ht : h t = none) (hfs : ∀ j, j < N → defaultValue (xty ci j) = vp_V fs j) (h1 : k + 1 ≤ R.cells) (h2 : n + N ≤ R.slots)
    (kk : ∀ ad' : xAd, (∀ u, u ≠ t → ad' u = ad u) → xX p l e R s m args below meth c G ad0 h0 nL Z q ls (.ref (ad' t) :: st) ad' (xup h t (.inr (ci, fs))) (k + 1) (n + N)) : xX p l e R s m args below meth c G ad0 h0 nL Z pc ls st ad h k n := by
  subst hp
  obtain ⟨hin, hty, -, -⟩ := xcls_ok hc
  intro H locs la hR hS hL hE
  have hts := F.2.2.2.2.1
  have hKn := F.2.2.2.2.2.2.1.1.1 ci _ hc
  refine W.newcK F.1 F.2.1 F.2.2.2.1 (hts _ hw.1) (hts _ hw.2.1) (hts _ hw.2.2) rfl hd h1 h2 hKn.2.1 rfl fun H1 kC hkC e1 z1 o1 => ?_
  have hR' := hR.new (e := .inr (ci, fs)) ht ⟨_, hc, (u_born (xty ci) hts hin hKn hkC e1 hty).to hfs⟩ o1 (x_A hS)
  have hX := kk (aup ad t H.size) (fun u hu => aup_ne _ _ hu) H1 locs la hR' (x_Snew hS z1 o1) hL (hE.tr (xExt.new ht))
  rw [aup_self] at hX
  exact hX
theorem x_newaI (F : xF p s m args meth c G ad0 h0 own cc nL r nm) (t : Tg) {N : Nat} {x : Int32} {q : Nat} (hd : decode cc pc = .ok (.newarray .int, 2)) (hp : pc + 2 = q) (hw : Cond.arrayClass .int ∈ xwd) (hx : x = nI N) (hN : N ≤ 1000000) (ht : h t = none) (h1 : k + 1 ≤ R.cells) (h2 : n + N ≤ R.slots)
    (kk : ∀ ad' : xAd, (∀ u, u ≠ t → ad' u = ad u) → xX p l e R s m args below meth c G ad0 h0 nL Z q ls (.ref (ad' t) :: st) ad' (xup h t (.inl (0, N, .inl (fun _ => 0)))) (k + 1) (n + N)) : xX p l e R s m args below meth c G ad0 h0 nL Z pc ls (.int x :: st) ad h k n := by
  subst hp; subst hx
  intro H locs la hR hS hL hE
  have hts := F.2.2.2.2.1
  have hN2 : N < 2 ^ 31 := by omega
  refine va_newaK (atype := .int) F.1 F.2.1 (hts _ hw) rfl hd rfl (nI_pos hN2) (nI_clamp hN2) (by show N * componentBytes .int ≤ _; simp [componentBytes]; omega) h1 h2 rfl fun H1 cA e1 z1 o1 hAr hNm => ?_
  have hcA : cA = G.2.1 0 := Option.some.inj (hNm.symm.trans (F.2.2.2.2.2.2.1.1.2 0 _ rfl).2)
  subst hcA
  have hR' := hR.new (e := .inl (0, N, .inl (fun _ => 0))) ht (show H1[H.size]? = some (vp_cell _ _) by rw [e1]; rfl) o1 (x_A hS)
  have hX := kk (aup ad t H.size) (fun u hu => aup_ne _ _ hu) H1 locs la hR' (x_Snew hS z1 o1) hL (hE.tr (xExt.new ht))
  rw [aup_self] at hX
  exact hX
theorem x_newaB (F : xF p s m args meth c G ad0 h0 own cc nL r nm) (t : Tg) {N : Nat} {x : Int32} {q : Nat} (hd : decode cc pc = .ok (.newarray .byte, 2)) (hp : pc + 2 = q) (hw : Cond.arrayClass .byte ∈ xwd) (hx : x = nI N) (hN : N ≤ 1000000) (ht : h t = none) (h1 : k + 1 ≤ R.cells) (h2 : n + N ≤ R.slots)
    (kk : ∀ ad' : xAd, (∀ u, u ≠ t → ad' u = ad u) → xX p l e R s m args below meth c G ad0 h0 nL Z q ls (.ref (ad' t) :: st) ad' (xup h t (.inl (1, N, .inl (fun _ => 0)))) (k + 1) (n + N)) : xX p l e R s m args below meth c G ad0 h0 nL Z pc ls (.int x :: st) ad h k n := by
  subst hp; subst hx
  intro H locs la hR hS hL hE
  have hts := F.2.2.2.2.1
  have hN2 : N < 2 ^ 31 := by omega
  refine va_newaK (atype := .byte) F.1 F.2.1 (hts _ hw) rfl hd rfl (nI_pos hN2) (nI_clamp hN2) (by show N * componentBytes .byte ≤ _; simp [componentBytes]; omega) h1 h2 rfl fun H1 cA e1 z1 o1 hAr hNm => ?_
  have hcA : cA = G.2.1 1 := Option.some.inj (hNm.symm.trans (F.2.2.2.2.2.2.1.1.2 1 _ rfl).2)
  subst hcA
  have hR' := hR.new (e := .inl (1, N, .inl (fun _ => 0))) ht (show H1[H.size]? = some (vp_cell _ _) by rw [e1]; rfl) o1 (x_A hS)
  have hX := kk (aup ad t H.size) (fun u hu => aup_ne _ _ hu) H1 locs la hR' (x_Snew hS z1 o1) hL (hE.tr (xExt.new ht))
  rw [aup_self] at hX
  exact hX
theorem x_newaZ (F : xF p s m args meth c G ad0 h0 own cc nL r nm) (t : Tg) {N : Nat} {x : Int32} {q : Nat} (hd : decode cc pc = .ok (.newarray .boolean, 2)) (hp : pc + 2 = q) (hw : Cond.arrayClass .boolean ∈ xwd) (hx : x = nI N) (hN : N ≤ 1000000) (ht : h t = none) (h1 : k + 1 ≤ R.cells) (h2 : n + N ≤ R.slots)
    (kk : ∀ ad' : xAd, (∀ u, u ≠ t → ad' u = ad u) → xX p l e R s m args below meth c G ad0 h0 nL Z q ls (.ref (ad' t) :: st) ad' (xup h t (.inl (2, N, .inl (fun _ => 0)))) (k + 1) (n + N)) : xX p l e R s m args below meth c G ad0 h0 nL Z pc ls (.int x :: st) ad h k n := by
  subst hp; subst hx
  intro H locs la hR hS hL hE
  have hts := F.2.2.2.2.1
  have hN2 : N < 2 ^ 31 := by omega
  refine va_newaK (atype := .boolean) F.1 F.2.1 (hts _ hw) rfl hd rfl (nI_pos hN2) (nI_clamp hN2) (by show N * componentBytes .boolean ≤ _; simp [componentBytes]; omega) h1 h2 rfl fun H1 cA e1 z1 o1 hAr hNm => ?_
  have hcA : cA = G.2.1 2 := Option.some.inj (hNm.symm.trans (F.2.2.2.2.2.2.1.1.2 2 _ rfl).2)
  subst hcA
  have hR' := hR.new (e := .inl (2, N, .inl (fun _ => 0))) ht (show H1[H.size]? = some (vp_cell _ _) by rw [e1]; rfl) o1 (x_A hS)
  have hX := kk (aup ad t H.size) (fun u hu => aup_ne _ _ hu) H1 locs la hR' (x_Snew hS z1 o1) hL (hE.tr (xExt.new ht))
  rw [aup_self] at hX
  exact hX
theorem x_newaJ (F : xF p s m args meth c G ad0 h0 own cc nL r nm) (t : Tg) {N : Nat} {x : Int32} {q : Nat} (hd : decode cc pc = .ok (.newarray .long, 2)) (hp : pc + 2 = q) (hw : Cond.arrayClass .long ∈ xwd) (hx : x = nI N) (hN : N ≤ 1000000) (ht : h t = none) (h1 : k + 1 ≤ R.cells) (h2 : n + N ≤ R.slots)
    (kk : ∀ ad' : xAd, (∀ u, u ≠ t → ad' u = ad u) → xX p l e R s m args below meth c G ad0 h0 nL Z q ls (.ref (ad' t) :: st) ad' (xup h t (.inl (3, N, .inr (.inl (fun _ => 0))))) (k + 1) (n + N)) : xX p l e R s m args below meth c G ad0 h0 nL Z pc ls (.int x :: st) ad h k n := by
  subst hp; subst hx
  intro H locs la hR hS hL hE
  have hts := F.2.2.2.2.1
  have hN2 : N < 2 ^ 31 := by omega
  refine va_newaK (atype := .long) F.1 F.2.1 (hts _ hw) rfl hd rfl (nI_pos hN2) (nI_clamp hN2) (by show N * componentBytes .long ≤ _; simp [componentBytes]; omega) h1 h2 rfl fun H1 cA e1 z1 o1 hAr hNm => ?_
  have hcA : cA = G.2.1 3 := Option.some.inj (hNm.symm.trans (F.2.2.2.2.2.2.1.1.2 3 _ rfl).2)
  subst hcA
  have hR' := hR.new (e := .inl (3, N, .inr (.inl (fun _ => 0)))) ht (show H1[H.size]? = some (vp_cell _ _) by rw [e1]; rfl) o1 (x_A hS)
  have hX := kk (aup ad t H.size) (fun u hu => aup_ne _ _ hu) H1 locs la hR' (x_Snew hS z1 o1) hL (hE.tr (xExt.new ht))
  rw [aup_self] at hX
  exact hX
theorem x_newq4 (F : xF p s m args meth c G ad0 h0 own cc nL r nm) (t : Tg) {N idx : Nat} {x : Int32} {q : Nat} (hd : decode cc pc = .ok (.anewarray idx, 3)) (hp : pc + 3 = q) (hw : Cond.classLink own idx RX4 ∈ xwd) (hx : x = nI N) (hN : N ≤ 1000000) (ht : h t = none) (h1 : k + 1 ≤ R.cells) (h2 : n + N ≤ R.slots)
    (kk : ∀ ad' : xAd, (∀ u, u ≠ t → ad' u = ad u) → xX p l e R s m args below meth c G ad0 h0 nL Z q ls (.ref (ad' t) :: st) ad' (xup h t (.inl (4, N, .inr (.inr (.inr (.inr (fun _ => none))))))) (k + 1) (n + N)) : xX p l e R s m args below meth c G ad0 h0 nL Z pc ls (.int x :: st) ad h k n := by
  subst hp; subst hx
  intro H locs la hR hS hL hE
  have hts := F.2.2.2.2.1
  have hN2 : N < 2 ^ 31 := by omega
  refine W.anew F.1 F.2.1 F.2.2.2.1 (hts _ hw) (va_AO.use F.2.2.2.2.2.2.1.2.2.1) rfl hd rfl (nI_pos hN2) (by rw [nI_clamp hN2]; omega) h1 (by rw [nI_clamp hN2]; exact h2) fun cA kA comp f1 f2 f3 f4 => ?_
  rw [nI_clamp hN2]
  obtain ⟨kA', comp', _, _, _, hNm⟩ := (F.2.2.2.2.2.2.1.1.2 4 _ rfl).2
  have hcA : cA = G.2.1 4 := Option.some.inj (f1.symm.trans hNm)
  subst hcA
  generalize hH1 : H.push ({ cls := G.2.1 4, slots := Array.replicate N .null, vm := .none } : Cell) = H1
  have z1 : H1.size = H.size + 1 := by rw [← hH1, Array.size_push]
  have e1 : H1[H.size]? = some (arrV (G.2.1 4) N (fun _ => .null)) := by rw [← hH1, Array.getElem?_push_size, ← arrV_new]
  have o1 : ∀ q : Nat, q < H.size → H1[q]? = H[q]? := fun q hq => by rw [← hH1, Array.getElem?_push, if_neg (Nat.ne_of_lt hq)]
  have hR' := hR.new (e := .inl (4, N, .inr (.inr (.inr (.inr (fun _ => none)))))) ht (show H1[H.size]? = some (vp_cell _ _) by rw [e1]; rfl) o1 (x_A hS)
  have hX := kk (aup ad t H.size) (fun u hu => aup_ne _ _ hu) H1 locs la hR' (x_Snew hS z1 o1) hL (hE.tr (xExt.new ht))
  rw [aup_self] at hX
  exact hX
theorem x_newq5 (F : xF p s m args meth c G ad0 h0 own cc nL r nm) (t : Tg) {N idx : Nat} {x : Int32} {q : Nat} (hd : decode cc pc = .ok (.anewarray idx, 3)) (hp : pc + 3 = q) (hw : Cond.classLink own idx RX2 ∈ xwd) (hx : x = nI N) (hN : N ≤ 1000000) (ht : h t = none) (h1 : k + 1 ≤ R.cells) (h2 : n + N ≤ R.slots)
    (kk : ∀ ad' : xAd, (∀ u, u ≠ t → ad' u = ad u) → xX p l e R s m args below meth c G ad0 h0 nL Z q ls (.ref (ad' t) :: st) ad' (xup h t (.inl (5, N, .inr (.inr (.inr (.inr (fun _ => none))))))) (k + 1) (n + N)) : xX p l e R s m args below meth c G ad0 h0 nL Z pc ls (.int x :: st) ad h k n := by
  subst hp; subst hx
  intro H locs la hR hS hL hE
  have hts := F.2.2.2.2.1
  have hN2 : N < 2 ^ 31 := by omega
  refine W.anew F.1 F.2.1 F.2.2.2.1 (hts _ hw) (va_AO.use F.2.2.2.2.2.2.1.2.2.2) rfl hd rfl (nI_pos hN2) (by rw [nI_clamp hN2]; omega) h1 (by rw [nI_clamp hN2]; exact h2) fun cA kA comp f1 f2 f3 f4 => ?_
  rw [nI_clamp hN2]
  obtain ⟨kA', comp', _, _, _, hNm⟩ := (F.2.2.2.2.2.2.1.1.2 5 _ rfl).2
  have hcA : cA = G.2.1 5 := Option.some.inj (f1.symm.trans hNm)
  subst hcA
  generalize hH1 : H.push ({ cls := G.2.1 5, slots := Array.replicate N .null, vm := .none } : Cell) = H1
  have z1 : H1.size = H.size + 1 := by rw [← hH1, Array.size_push]
  have e1 : H1[H.size]? = some (arrV (G.2.1 5) N (fun _ => .null)) := by rw [← hH1, Array.getElem?_push_size, ← arrV_new]
  have o1 : ∀ q : Nat, q < H.size → H1[q]? = H[q]? := fun q hq => by rw [← hH1, Array.getElem?_push, if_neg (Nat.ne_of_lt hq)]
  have hR' := hR.new (e := .inl (5, N, .inr (.inr (.inr (.inr (fun _ => none)))))) ht (show H1[H.size]? = some (vp_cell _ _) by rw [e1]; rfl) o1 (x_A hS)
  have hX := kk (aup ad t H.size) (fun u hu => aup_ne _ _ hu) H1 locs la hR' (x_Snew hS z1 o1) hL (hE.tr (xExt.new ht))
  rw [aup_self] at hX
  exact hX
theorem x_iret (F : xF p s m args meth c G ad0 h0 own cc nL (some .int) nm) {Q : xPq} {v : Int32} (hd : decode cc pc = .ok (.ireturn, 1)) (h1 : k ≤ R.cells) (h2 : n ≤ R.slots) (hq : Q (some (.int v)) ad h) : xX p l e R s m args below meth c G ad0 h0 nL (xZ below G ad0 h0 Q args s R) pc ls [.int v] ad h k n := fun H locs la hR hS hL hE => W.widen h1 h2 (W.iret (hlocks := F.2.2.2.2.2.1) F.1 F.2.1 F.2.2.2.2.2.2.2.1 (fun t ht hW => ⟨⟨some (.int v), ad, h, rfl, hq, hE, by rw [ht]; exact hR⟩, hS.F ht⟩) (fun q hq => hS.2.2 q hq) hd)
theorem x_lret (F : xF p s m args meth c G ad0 h0 own cc nL (some .long) nm) {Q : xPq} {v : Int64} (hd : decode cc pc = .ok (.lreturn, 1)) (h1 : k ≤ R.cells) (h2 : n ≤ R.slots) (hq : Q (some (.long v)) ad h) : xX p l e R s m args below meth c G ad0 h0 nL (xZ below G ad0 h0 Q args s R) pc ls [.long v] ad h k n := fun H locs la hR hS hL hE => W.widen h1 h2 (W.lret (hlocks := F.2.2.2.2.2.1) F.1 F.2.1 F.2.2.2.2.2.2.2.1 (fun t ht hW => ⟨⟨some (.long v), ad, h, rfl, hq, hE, by rw [ht]; exact hR⟩, hS.F ht⟩) (fun q hq => hS.2.2 q hq) hd)
theorem x_vret (F : xF p s m args meth c G ad0 h0 own cc nL none nm) {Q : xPq}  (hd : decode cc pc = .ok (.return_, 1)) (h1 : k ≤ R.cells) (h2 : n ≤ R.slots) (hq : Q (none) ad h) : xX p l e R s m args below meth c G ad0 h0 nL (xZ below G ad0 h0 Q args s R) pc ls [] ad h k n := fun H locs la hR hS hL hE => W.widen h1 h2 (W.vret (hlocks := F.2.2.2.2.2.1) F.1 F.2.1 F.2.2.2.2.2.2.2.1 (fun t ht hW => ⟨⟨none, ad, h, rfl, hq, hE, by rw [ht]; exact hR⟩, hS.F ht⟩) (fun q hq => hS.2.2 q hq) hd)
theorem x_zret (F : xF p s m args meth c G ad0 h0 own cc nL (some .boolean) nm) {Q : xPq} {v : Int32} (hd : decode cc pc = .ok (.ireturn, 1)) (h1 : k ≤ R.cells) (h2 : n ≤ R.slots) (hv : v = 0 ∨ v = 1) (hq : Q (some (.int v)) ad h) : xX p l e R s m args below meth c G ad0 h0 nL (xZ below G ad0 h0 Q args s R) pc ls [.int v] ad h k n := fun H locs la hR hS hL hE => W.widen h1 h2 (W.zret (ty := .boolean) (hlocks := F.2.2.2.2.2.1) F.1 F.2.1 F.2.2.2.2.2.2.2.1 (by rcases hv with rfl | rfl <;> rfl) (fun t ht hW => ⟨⟨some (.int v), ad, h, rfl, hq, hE, by rw [ht]; exact hR⟩, hS.F ht⟩) (fun q hq => hS.2.2 q hq) hd)
theorem x_aret {rt : FieldType} (F : xF p s m args meth c G ad0 h0 own cc nL (some rt) nm) {Q : xPq} {v : Value} (hd : decode cc pc = .ok (.areturn, 1)) (h1 : k ≤ R.cells) (h2 : n ≤ R.slots) (hrt : (∃ n, rt = .object n) ∨ ∃ t, rt = .array t) (hv : xrefv v) (hq : Q (some v) ad h) : xX p l e R s m args below meth c G ad0 h0 nL (xZ below G ad0 h0 Q args s R) pc ls [v] ad h k n := fun H locs la hR hS hL hE => W.widen h1 h2 (W.aret (hlocks := F.2.2.2.2.2.1) F.1 F.2.1 F.2.2.2.2.2.2.2.1 hrt hv (fun t ht hW => ⟨⟨some v, ad, h, rfl, hq, hE, by rw [ht]; exact hR⟩, hS.F ht⟩) (fun q hq => hS.2.2 q hq) hd)
theorem x_frame {H : Heap} {locs : List Loc} (hR : xR G ad h (xFr ad0 h0 s.heap.size) H) (hS : va_S (xFr ad0 h0 s.heap.size) s.heap H locs) (q : Nat) (hq : xFr ad h H.size q) : xFr ad0 h0 s.heap.size q := by
  rcases hq with ⟨t, ht, rfl⟩ | hq
  · cases z : h t with
    | none => exact absurd z ht
    | some e => exact (hR.1 t e z).2
  · exact Or.inr (Nat.le_trans hS.1 hq)
theorem x_cont {H : Heap} {locs : List Loc} {la : Array Slot} {st0 rest : List Value} {mc ms : Nat} {a : Array Value} (hR : xR G ad h (xFr ad0 h0 s.heap.size) H) (hS : va_S (xFr ad0 h0 s.heap.size) s.heap H locs) (hL : xL la nL ls) (hE : xExt ad0 h0 ad h)
    (hr : va_Run p l e R s m args below meth c H locs k n mc ms (F0 m pc la st0) rest (xPost G ad h H.size (fun v ad' h' => xExt ad h ad' h' → xX p l e R s m args below meth c G ad0 h0 nL Z (pc + 3) ls (v.toList ++ rest) ad' h' (k + mc) (n + ms)) a) (xFr ad h H.size)) : W p l e R s m args below meth c H locs k n Z (F0 m pc la st0) := by
  intro T hT X
  obtain ⟨v, st₀, t, T', L, hh0, X', hLL, e1, e2, ⟨⟨v', ad', h', hv, hQ, hE', hR'⟩, hz, hk⟩, go⟩ := hr T hT X
  cases hv
  rw [hh0] at hz hk
  have hfr := fun q hq => x_frame (ad := ad) (h := h) hR hS q hq
  have hsz : H.size ≤ T'.heap.size := by rw [e1]; exact hz
  obtain ⟨t2, a1, b1⟩ := hQ hE' T'.heap (locs ++ L) la (by rw [e1]; exact hR'.weaken hfr)
    ⟨Nat.le_trans hS.1 hsz, fun q h1 h2 => by rw [e1, hk q (Nat.lt_of_lt_of_le h1 hS.1) (fun z => h2 (hfr q z))]; exact hS.2.1 q h1 h2, fun q hq => by
      rcases List.mem_append.mp hq with h | h
      · exact hS.2.2 q h
      · exact hfr _ (hLL q h)⟩ hL (hE.tr hE') T' rfl X'
  exact ⟨t2, go t2 a1, b1⟩
theorem x_O (F : xF p s m args meth c G ad0 h0 own cc nL r nm) {H : Heap} {locs : List Loc} (hR : xR G ad h (xFr ad0 h0 s.heap.size) H) (hS : va_S (xFr ad0 h0 s.heap.size) s.heap H locs) {U : State} (hU : U.heap = H) (hW : s.WarmedH U.vm) : xO G (xFr ad h H.size) U U.heap := by
  rw [hU]
  exact xO.warm hW (xO.narrow (fun q hq => x_frame hR hS q hq) (xO.kept hS.1 hS.2.1 F.2.2.2.2.2.2.2.2.2))
/-- what the tables say of a method that is called -/
def xMt (y : MethodName) (b : ByteArray) (ml : Nat) (r : Option FieldType) (na : Nat) : Prop := Cond.code y b ml r ∈ xwd ∧ Cond.initialized y.cls ∈ xwd ∧ (y.cls ≠ "java/lang/invoke/MethodHandle" ∧ y.cls ≠ "java/lang/invoke/VarHandle" ∧ (parseMethodDescriptor y.desc).map (fun d => d.parameters.length) = some na)
def xMv (y : MethodName) (b : ByteArray) (ml : Nat) (r : Option FieldType) (na : Nat) : Prop := xMt y b ml r na ∧ Cond.instanceMethod y ∈ xwd ∧ Cond.selects y.cls y y ∈ xwd
def xMs (y : MethodName) (b : ByteArray) (ml : Nat) (r : Option FieldType) (na : Nat) : Prop := xMt y b ml r na ∧ Cond.static y ∈ xwd
def xMi (y : MethodName) (b : ByteArray) (ml : Nat) (na : Nat) : Prop := xMt y b ml none na ∧ Cond.instanceMethod y ∈ xwd ∧ y.name = "<init>"
def xFit (rm R : Room) (ml k n : Nat) : Prop := (rm.frames + 1 ≤ R.frames ∧ 8 + (ml + 11) + rm.locals ≤ R.locals) ∧ k + rm.cells ≤ R.cells ∧ n + rm.slots ≤ R.slots
variable {y : MethodName} {b : ByteArray} {ml na idx : Nat} {ry : Option FieldType} {rm : Room} {sp : xSp} {As rest : List Value} {q : Nat}
theorem x_callB (F : xF p s m args meth c G ad0 h0 own cc nL r nm) (hm : xMt y b ml ry na) (hf : xFit rm R ml k n) (hl : Cond.methodLink own idx y ∈ xwd) : CallB R s args own idx y b ml ry (xw y b ml ry) rm rm.cells rm.slots na := callB_of na F.2.2.2.2.1 (xwd_goodC hm.1) rfl rfl rfl (F.2.2.2.2.1 _ hm.2.1) (F.2.2.2.2.1 _ hl) hm.2.2 hf.1
theorem x_callV (F : xF p s m args meth c G ad0 h0 own cc nL r nm) (t : Tg) {ci : Nat} {fs : List Value} {T : u_T} {N : Nat} (C : Ct y b ml ry rm sp) (hd : decode cc pc = .ok (.invokevirtual idx, 3)) (hp : pc + 3 = q) (hm : xMv y b ml ry na) (hl : Cond.methodLink own idx y ∈ xwd) (hf : xFit rm R ml k n) (hn : As.length = na) (hc : xcl[ci]? = some (y.cls, T, N)) (ht : h t = some (.inr (ci, fs))) (hroom : (rest.map fun v => v.category).sum ≤ 8)
    (kk : sp ad h (.ref (ad t) :: As) (fun v ad' h' => xExt ad h ad' h' → xX p l e R s m args below meth c G ad0 h0 nL Z q ls (v.toList ++ rest) ad' h' (k + rm.cells) (n + rm.slots))) : xX p l e R s m args below meth c G ad0 h0 nL Z pc ls (As.reverse ++ .ref (ad t) :: rest) ad h k n := by
  subst hp
  intro H locs la hR hS hL hE
  refine x_cont hR hS hL hE (va_runV (C := y.cls) ⟨F.1, F.2.1, F.2.2.1, F.2.2.2.1, F.2.2.2.2.1⟩ (C l G ad h _ _ H.size kk) ⟨x_callB F hm.1 hf hl, F.2.2.2.2.1 _ hm.2.1, F.2.2.2.2.1 _ hm.2.2⟩ ⟨xPre.blind, va_recv F.2.2.2.2.2.2.1.1 (hR.one ht) (ci := ci) (q0 := 0) hc rfl, fun U hU hW => ⟨rfl, by rw [hU], by rw [hU]; exact hR.any fun _ _ => trivial, xK.warm hW F.2.2.2.2.2.2.1, x_O F hR hS hU hW⟩⟩ rfl hn hL.1.1 rfl (lv_room hroom) hd hf.2)
theorem x_callS (F : xF p s m args meth c G ad0 h0 own cc nL r nm) (C : Ct y b ml ry rm sp) (hd : decode cc pc = .ok (.invokestatic idx, 3)) (hp : pc + 3 = q) (hm : xMs y b ml ry na) (hl : Cond.methodLink own idx y ∈ xwd) (hf : xFit rm R ml k n) (hn : As.length = na) (hroom : (rest.map fun v => v.category).sum ≤ 8)
    (kk : sp ad h As (fun v ad' h' => xExt ad h ad' h' → xX p l e R s m args below meth c G ad0 h0 nL Z q ls (v.toList ++ rest) ad' h' (k + rm.cells) (n + rm.slots))) : xX p l e R s m args below meth c G ad0 h0 nL Z pc ls (As.reverse ++ rest) ad h k n := by
  subst hp
  intro H locs la hR hS hL hE
  refine x_cont hR hS hL hE (va_runS ⟨F.1, F.2.1, F.2.2.1, F.2.2.2.1, F.2.2.2.2.1⟩ (C l G ad h _ _ H.size kk) ⟨x_callB F hm.1 hf hl, F.2.2.2.2.1 _ hm.2⟩ ⟨xPre.blind, fun U hU hW => ⟨rfl, by rw [hU], by rw [hU]; exact hR.any fun _ _ => trivial, xK.warm hW F.2.2.2.2.2.2.1, x_O F hR hS hU hW⟩⟩ rfl hn hL.1.1 rfl (lv_room hroom) hd hf.2)
theorem x_callI (F : xF p s m args meth c G ad0 h0 own cc nL r nm) (t : Tg) (C : Ct y b ml none rm sp) (hd : decode cc pc = .ok (.invokespecial idx, 3)) (hp : pc + 3 = q) (hm : xMi y b ml na) (hl : Cond.methodLink own idx y ∈ xwd) (hf : xFit rm R ml k n) (hn : As.length = na) (hroom : (rest.map fun v => v.category).sum ≤ 8)
    (kk : sp ad h (.ref (ad t) :: As) (fun v ad' h' => xExt ad h ad' h' → xX p l e R s m args below meth c G ad0 h0 nL Z q ls (v.toList ++ rest) ad' h' (k + rm.cells) (n + rm.slots))) : xX p l e R s m args below meth c G ad0 h0 nL Z pc ls (As.reverse ++ .ref (ad t) :: rest) ad h k n := by
  subst hp
  intro H locs la hR hS hL hE
  refine x_cont hR hS hL hE (va_runI ⟨F.1, F.2.1, F.2.2.1, F.2.2.2.1, F.2.2.2.2.1⟩ (C l G ad h _ _ H.size kk) ⟨x_callB F hm.1 hf hl, hm.2.2, F.2.2.2.2.1 _ hm.2.1⟩ ⟨xPre.blind, fun U hU hW => ⟨rfl, by rw [hU], by rw [hU]; exact hR.any fun _ _ => trivial, xK.warm hW F.2.2.2.2.2.2.1, x_O F hR hS hU hW⟩⟩ rfl hn hL.1.1 rfl (lv_room hroom) hd hf.2)
theorem x_callIN (F : xF p s m args meth c G ad0 h0 own cc nL r nm) (t : Tg) (host : String) (C : Ct y b ml none rm sp) (hd : decode cc pc = .ok (.invokespecial idx, 3)) (hp : pc + 3 = q) (hm : xMi y b ml na) (hl : Cond.methodLinkNest own idx y host ∈ xnw) (hf : xFit rm R ml k n) (hn : As.length = na) (hroom : (rest.map fun v => v.category).sum ≤ 8)
    (kk : sp ad h (.ref (ad t) :: As) (fun v ad' h' => xExt ad h ad' h' → xX p l e R s m args below meth c G ad0 h0 nL Z q ls (v.toList ++ rest) ad' h' (k + rm.cells) (n + rm.slots))) : xX p l e R s m args below meth c G ad0 h0 nL Z pc ls (As.reverse ++ .ref (ad t) :: rest) ad h k n := by
  subst hp
  intro H locs la hR hS hL hE
  refine x_cont hR hS hL hE (va_runIN ⟨F.1, F.2.1, F.2.2.1, F.2.2.2.1, F.2.2.2.2.1⟩ (C l G ad h _ _ H.size kk) ⟨va_cnB (host := host) na F.2.2.2.2.1 (xwd_goodC hm.1.1) rfl rfl rfl (F.2.2.2.2.2.2.1.2.1 _ hl) (F.2.2.2.2.1 _ hm.1.2.1) hm.1.2.2 hf.1, hm.2.2, F.2.2.2.2.1 _ hm.2.1⟩ ⟨xPre.blind, fun U hU hW => ⟨rfl, by rw [hU], by rw [hU]; exact hR.any fun _ _ => trivial, xK.warm hW F.2.2.2.2.2.2.1, x_O F hR hS hU hW⟩⟩ rfl hn hL.1.1 rfl (lv_room hroom) hd hf.2)
theorem x_objInit (F : xF p s m args meth c G ad0 h0 own cc nL r nm) {a : Nat} (hd : decode cc pc = .ok (.invokespecial idx, 3)) (hp : pc + 3 = q) (hl : Cond.methodLink own idx objectInit ∈ xwd) (h1 : Cond.instanceMethod objectInit ∈ xwd) (h2 : Cond.code objectInit ⟨#[0xb1]⟩ 1 none ∈ xwd) (h3 : 1 ≤ R.frames) (h4 : (st.map fun v => v.category).sum + 12 ≤ R.locals) (kk : xX p l e R s m args below meth c G ad0 h0 nL Z q ls st ad h k n) : xX p l e R s m args below meth c G ad0 h0 nL Z pc ls (.ref a :: st) ad h k n := by
  subst hp
  intro H locs la hR hS hL hE
  exact W.objInit F.1 F.2.1 F.2.2.2.1 (F.2.2.2.2.1 _ hl) (F.2.2.2.2.1 _ h1) (F.2.2.2.2.1 _ h2) rfl (by rw [F.2.2.1]; exact hL.1.1) rfl hd h3 (by show 2 * 0 + _ + 12 ≤ _; omega) (kk H locs la hR hS hL hE)
end XHEAP
end
section
/-! ===== what the tables say of each link ===== -/
theorem xm1 {w : Cond} {j : Nat} (h : tables_1_1[j]? = some w) : w ∈ lw_tbl := List.mem_append_right _ (List.mem_append_left _ (List.mem_of_getElem? h))
theorem xm2 {w : Cond} {j : Nat} (h : tables_1_2[j]? = some w) : w ∈ lw_tbl := List.mem_append_right _ (List.mem_append_right _ (List.mem_append_left _ (List.mem_of_getElem? h)))
theorem xm3 {w : Cond} {j : Nat} (h : tables_1_3[j]? = some w) : w ∈ lw_tbl := List.mem_append_right _ (List.mem_append_right _ (List.mem_append_right _ (List.mem_append_left _ (List.mem_of_getElem? h))))
theorem xm4 {w : Cond} {j : Nat} (h : tables_1_4[j]? = some w) : w ∈ lw_tbl := List.mem_append_right _ (List.mem_append_right _ (List.mem_append_right _ (List.mem_append_right _ (List.mem_of_getElem? h))))
theorem xmp {w : Cond} {j : Nat} (h : (k2_sels lw_privs)[j]? = some w) : w ∈ lw_tbl := List.mem_append_left _ (List.mem_of_getElem? h)
theorem iz_L : Cond.initialized RL ∈ xwd := xwd_in (xm1 (j := 0) rfl) rfl
theorem iz_X6 : Cond.initialized RX6 ∈ xwd := xwd_in (xm1 (j := 1) rfl) rfl
theorem iz_X5 : Cond.initialized RX5 ∈ xwd := xwd_in (xm1 (j := 2) rfl) rfl
theorem iz_X0 : Cond.initialized RX0 ∈ xwd := xwd_in (xm1 (j := 3) rfl) rfl
theorem iz_X3 : Cond.initialized RX3 ∈ xwd := xwd_in (xm1 (j := 4) rfl) rfl
theorem iz_J9 : Cond.initialized RJ9 ∈ xwd := xwd_in (xm1 (j := 5) rfl) rfl
theorem iz_X7 : Cond.initialized RX7 ∈ xwd := xwd_in (xm1 (j := 6) rfl) rfl
theorem iz_J0 : Cond.initialized RJ0 ∈ xwd := xwd_in (xm1 (j := 7) rfl) rfl
theorem iz_J1 : Cond.initialized RJ1 ∈ xwd := xwd_in (xm1 (j := 8) rfl) rfl
theorem iz_J2 : Cond.initialized RJ2 ∈ xwd := xwd_in (xm1 (j := 9) rfl) rfl
theorem iz_J3 : Cond.initialized RJ3 ∈ xwd := xwd_in (xm1 (j := 10) rfl) rfl
theorem iz_J11 : Cond.initialized RJ11 ∈ xwd := xwd_in (xm1 (j := 11) rfl) rfl
theorem iz_X4 : Cond.initialized RX4 ∈ xwd := xwd_in (xm1 (j := 16) rfl) rfl
theorem iz_J7 : Cond.initialized RJ7 ∈ xwd := xwd_in (xm1 (j := 17) rfl) rfl
theorem iz_J10 : Cond.initialized RJ10 ∈ xwd := xwd_in (xm1 (j := 18) rfl) rfl
theorem iz_X1 : Cond.initialized RX1 ∈ xwd := xwd_in (xm1 (j := 19) rfl) rfl
theorem iz_X2 : Cond.initialized RX2 ∈ xwd := xwd_in (xm1 (j := 20) rfl) rfl
theorem iz_Jx00060 : Cond.initialized RJx00060 ∈ xwd := xwd_in (xm1 (j := 22) rfl) rfl
theorem cl_L_8 : Cond.classLink RL 8 RX6 ∈ xwd := xwd_in (xm1 (j := 23) rfl) rfl
theorem im_X6 : Cond.instantiable RX6 10 ∈ xwd := xwd_in (xm1 (j := 24) rfl) rfl
theorem ml_L_27 : Cond.methodLink RL 27 yX6_init ∈ xwd := xwd_in (xm1 (j := 25) rfl) rfl
theorem ml_X6_1 : Cond.methodLink RX6 1 objectInit ∈ xwd := xwd_in (xm1 (j := 28) rfl) rfl
theorem cl_X6_7 : Cond.classLink RX6 7 RX5 ∈ xwd := xwd_in (xm1 (j := 31) rfl) rfl
theorem im_X5 : Cond.instantiable RX5 5 ∈ xwd := xwd_in (xm1 (j := 32) rfl) rfl
theorem mn_X6_9 : Cond.methodLinkNest RX6 9 yX5_init "MigrateSteps" ∈ xnw := List.mem_filter.mpr ⟨xm1 (j := 33) rfl, rfl⟩
theorem ml_X5_3 : Cond.methodLink RX5 3 objectInit ∈ xwd := xwd_in (xm1 (j := 36) rfl) rfl
theorem fs_X5_9 : xFS RX5 9 5 0 true := ⟨RX5, TX5, 5, rfl, by decide, xwd_in (xm1 (j := 37) rfl) rfl, rfl⟩
theorem fs_X5_15 : xFS RX5 15 5 1 true := ⟨RX5, TX5, 5, rfl, by decide, xwd_in (xm1 (j := 38) rfl) rfl, rfl⟩
theorem fs_X5_18 : xFS RX5 18 5 2 true := ⟨RX5, TX5, 5, rfl, by decide, xwd_in (xm1 (j := 39) rfl) rfl, rfl⟩
theorem fs_X5_21 : xFS RX5 21 5 3 false := ⟨RX5, TX5, 5, rfl, by decide, xwd_in (xm1 (j := 40) rfl) rfl, rfl⟩
theorem fs_X5_25 : xFS RX5 25 5 4 false := ⟨RX5, TX5, 5, rfl, by decide, xwd_in (xm1 (j := 41) rfl) rfl, rfl⟩
theorem ac_int : Cond.arrayClass .int ∈ xwd := xwd_in (xm1 (j := 53) rfl) rfl
theorem cl_X6_16 : Cond.classLink RX6 16 RX0 ∈ xwd := xwd_in (xm1 (j := 54) rfl) rfl
theorem im_X0 : Cond.instantiable RX0 2 ∈ xwd := xwd_in (xm1 (j := 55) rfl) rfl
theorem ml_X6_18 : Cond.methodLink RX6 18 yX0_init ∈ xwd := xwd_in (xm1 (j := 56) rfl) rfl
theorem ml_X0_3 : Cond.methodLink RX0 3 objectInit ∈ xwd := xwd_in (xm1 (j := 59) rfl) rfl
theorem fs_X0_9 : xFS RX0 9 0 0 true := ⟨RX0, TX0, 2, rfl, by decide, xwd_in (xm1 (j := 60) rfl) rfl, rfl⟩
theorem fs_X0_15 : xFS RX0 15 0 1 false := ⟨RX0, TX0, 2, rfl, by decide, xwd_in (xm1 (j := 61) rfl) rfl, rfl⟩
theorem fn_X1_26 : xFSN RX1 26 0 1 false := ⟨RX0, TX0, 2, "MigrateSteps", rfl, by decide, List.mem_filter.mpr ⟨xm1 (j := 62) rfl, rfl⟩, rfl⟩
theorem fn_X3_91 : xFSN RX3 91 0 1 false := ⟨RX0, TX0, 2, "MigrateSteps", rfl, by decide, List.mem_filter.mpr ⟨xm1 (j := 63) rfl, rfl⟩, rfl⟩
theorem fn_X6_172 : xFSN RX6 172 0 1 false := ⟨RX0, TX0, 2, "MigrateSteps", rfl, by decide, List.mem_filter.mpr ⟨xm1 (j := 64) rfl, rfl⟩, rfl⟩
theorem cl_X6_25 : Cond.classLink RX6 25 RX4 ∈ xwd := xwd_in (xm1 (j := 70) rfl) rfl
theorem cl_X6_31 : Cond.classLink RX6 31 RX2 ∈ xwd := xwd_in (xm1 (j := 72) rfl) rfl
theorem cl_X6_53 : Cond.classLink RX6 53 RX3 ∈ xwd := xwd_in (xm1 (j := 74) rfl) rfl
theorem im_X3 : Cond.instantiable RX3 9 ∈ xwd := xwd_in (xm1 (j := 75) rfl) rfl
theorem ml_X6_55 : Cond.methodLink RX6 55 yJ9_min_7cf53 ∈ xwd := xwd_in (xm1 (j := 76) rfl) rfl
theorem ml_X6_61 : Cond.methodLink RX6 61 yJ9_max_7cf53 ∈ xwd := xwd_in (xm1 (j := 79) rfl) rfl
theorem ml_X6_64 : Cond.methodLink RX6 64 yX3_init ∈ xwd := xwd_in (xm1 (j := 82) rfl) rfl
theorem ml_X3_3 : Cond.methodLink RX3 3 objectInit ∈ xwd := xwd_in (xm1 (j := 85) rfl) rfl
theorem cl_X3_9 : Cond.classLink RX3 9 RX0 ∈ xwd := xwd_in (xm1 (j := 86) rfl) rfl
theorem ml_X3_11 : Cond.methodLink RX3 11 yX0_init ∈ xwd := xwd_in (xm1 (j := 87) rfl) rfl
theorem fs_X3_40 : xFS RX3 40 3 0 true := ⟨RX3, TX3, 9, rfl, by decide, xwd_in (xm1 (j := 88) rfl) rfl, rfl⟩
theorem fs_X3_43 : xFS RX3 43 3 1 true := ⟨RX3, TX3, 9, rfl, by decide, xwd_in (xm1 (j := 89) rfl) rfl, rfl⟩
theorem fs_X3_14 : xFS RX3 14 3 2 true := ⟨RX3, TX3, 9, rfl, by decide, xwd_in (xm1 (j := 90) rfl) rfl, rfl⟩
theorem fn_X6_196 : xFSN RX6 196 3 2 true := ⟨RX3, TX3, 9, "MigrateSteps", rfl, by decide, List.mem_filter.mpr ⟨xm1 (j := 91) rfl, rfl⟩, rfl⟩
theorem fs_X3_20 : xFS RX3 20 3 3 false := ⟨RX3, TX3, 9, rfl, by decide, xwd_in (xm1 (j := 92) rfl) rfl, rfl⟩
theorem fs_X3_24 : xFS RX3 24 3 4 false := ⟨RX3, TX3, 9, rfl, by decide, xwd_in (xm1 (j := 93) rfl) rfl, rfl⟩
theorem fs_X3_27 : xFS RX3 27 3 5 false := ⟨RX3, TX3, 9, rfl, by decide, xwd_in (xm1 (j := 94) rfl) rfl, rfl⟩
theorem fs_X3_30 : xFS RX3 30 3 6 false := ⟨RX3, TX3, 9, rfl, by decide, xwd_in (xm1 (j := 95) rfl) rfl, rfl⟩
theorem fs_X3_33 : xFS RX3 33 3 7 false := ⟨RX3, TX3, 9, rfl, by decide, xwd_in (xm1 (j := 96) rfl) rfl, rfl⟩
theorem fn_X6_144 : xFSN RX6 144 3 7 false := ⟨RX3, TX3, 9, "MigrateSteps", rfl, by decide, List.mem_filter.mpr ⟨xm1 (j := 97) rfl, rfl⟩, rfl⟩
theorem fs_X3_36 : xFS RX3 36 3 8 false := ⟨RX3, TX3, 9, rfl, by decide, xwd_in (xm1 (j := 98) rfl) rfl, rfl⟩
theorem fn_X6_147 : xFSN RX6 147 3 8 false := ⟨RX3, TX3, 9, "MigrateSteps", rfl, by decide, List.mem_filter.mpr ⟨xm1 (j := 99) rfl, rfl⟩, rfl⟩
theorem fs_X6_10 : xFS RX6 10 6 0 true := ⟨RX6, TX6, 10, rfl, by decide, xwd_in (xm1 (j := 119) rfl) rfl, rfl⟩
theorem fs_X6_21 : xFS RX6 21 6 1 true := ⟨RX6, TX6, 10, rfl, by decide, xwd_in (xm1 (j := 120) rfl) rfl, rfl⟩
theorem fs_X6_27 : xFS RX6 27 6 2 true := ⟨RX6, TX6, 10, rfl, by decide, xwd_in (xm1 (j := 121) rfl) rfl, rfl⟩
theorem fs_X6_33 : xFS RX6 33 6 3 true := ⟨RX6, TX6, 10, rfl, by decide, xwd_in (xm1 (j := 122) rfl) rfl, rfl⟩
theorem fs_X6_67 : xFS RX6 67 6 4 true := ⟨RX6, TX6, 10, rfl, by decide, xwd_in (xm1 (j := 123) rfl) rfl, rfl⟩
theorem fs_X6_37 : xFS RX6 37 6 5 false := ⟨RX6, TX6, 10, rfl, by decide, xwd_in (xm1 (j := 124) rfl) rfl, rfl⟩
theorem fs_X6_41 : xFS RX6 41 6 6 false := ⟨RX6, TX6, 10, rfl, by decide, xwd_in (xm1 (j := 125) rfl) rfl, rfl⟩
theorem fs_X6_44 : xFS RX6 44 6 7 false := ⟨RX6, TX6, 10, rfl, by decide, xwd_in (xm1 (j := 126) rfl) rfl, rfl⟩
theorem fs_X6_47 : xFS RX6 47 6 8 false := ⟨RX6, TX6, 10, rfl, by decide, xwd_in (xm1 (j := 127) rfl) rfl, rfl⟩
theorem fs_X6_50 : xFS RX6 50 6 9 false := ⟨RX6, TX6, 10, rfl, by decide, xwd_in (xm1 (j := 128) rfl) rfl, rfl⟩
theorem ml_L_33 : Cond.methodLink RL 33 yX6_sign ∈ xwd := xwd_in (xm1 (j := 150) rfl) rfl
theorem ml_X6_71 : Cond.methodLink RX6 71 yX5_add ∈ xwd := xwd_in (xm1 (j := 154) rfl) rfl
theorem ml_L_45 : Cond.methodLink RL 45 yX6_place ∈ xwd := xwd_in (xm1 (j := 158) rfl) rfl
theorem ml_L_49 : Cond.methodLink RL 49 yX6_octet ∈ xwd := xwd_in (xm1 (j := 162) rfl) rfl
theorem ml_X6_93 : Cond.methodLink RX6 93 yX0_add ∈ xwd := xwd_in (xm1 (j := 166) rfl) rfl
theorem ml_L_53 : Cond.methodLink RL 53 yX6_original ∈ xwd := xwd_in (xm1 (j := 170) rfl) rfl
theorem im_X2 : Cond.instantiable RX2 6 ∈ xwd := xwd_in (xm1 (j := 174) rfl) rfl
theorem ml_X6_96 : Cond.methodLink RX6 96 yX0_copy ∈ xwd := xwd_in (xm1 (j := 175) rfl) rfl
theorem cl_X0_10 : Cond.classLink RX0 10 RX0 ∈ xwd := xwd_in (xm1 (j := 179) rfl) rfl
theorem ml_X0_23 : Cond.methodLink RX0 23 yJ7_copyOf_59c91 ∈ xwd := xwd_in (xm1 (j := 180) rfl) rfl
theorem ml_J7_316 : Cond.methodLink RJ7 316 ⟨"[I", "clone", "()Ljava/lang/Object;"⟩ ∈ xwd := xwd_in (xm1 (j := 183) rfl) rfl
theorem cl_J7_317 : Cond.classLink RJ7 317 "[I" ∈ xwd := xwd_in (xm1 (j := 189) rfl) rfl
theorem ml_J7_304 : Cond.methodLink RJ7 304 yJ9_min_7cf53 ∈ xwd := xwd_in (xm1 (j := 190) rfl) rfl
theorem ml_J7_150 : Cond.methodLink RJ7 150 ⟨"java/lang/System", "arraycopy", "(Ljava/lang/Object;ILjava/lang/Object;II)V"⟩ ∈ xwd := xwd_in (xm1 (j := 191) rfl) rfl
theorem ml_X0_29 : Cond.methodLink RX0 29 yX0_init ∈ xwd := xwd_in (xm1 (j := 194) rfl) rfl
theorem ml_X6_100 : Cond.methodLink RX6 100 yX2_init ∈ xwd := xwd_in (xm1 (j := 195) rfl) rfl
theorem ml_X2_3 : Cond.methodLink RX2 3 objectInit ∈ xwd := xwd_in (xm1 (j := 198) rfl) rfl
theorem fs_X2_19 : xFS RX2 19 2 0 true := ⟨RX2, TX2, 6, rfl, by decide, xwd_in (xm1 (j := 199) rfl) rfl, rfl⟩
theorem fn_X6_169 : xFSN RX6 169 2 0 true := ⟨RX2, TX2, 6, "MigrateSteps", rfl, by decide, List.mem_filter.mpr ⟨xm1 (j := 200) rfl, rfl⟩, rfl⟩
theorem fs_X2_23 : xFS RX2 23 2 1 true := ⟨RX2, TX2, 6, rfl, by decide, xwd_in (xm1 (j := 201) rfl) rfl, rfl⟩
theorem fn_X6_175 : xFSN RX6 175 2 1 true := ⟨RX2, TX2, 6, "MigrateSteps", rfl, by decide, List.mem_filter.mpr ⟨xm1 (j := 202) rfl, rfl⟩, rfl⟩
theorem fs_X2_26 : xFS RX2 26 2 2 true := ⟨RX2, TX2, 6, rfl, by decide, xwd_in (xm1 (j := 203) rfl) rfl, rfl⟩
theorem fn_X6_178 : xFSN RX6 178 2 2 true := ⟨RX2, TX2, 6, "MigrateSteps", rfl, by decide, List.mem_filter.mpr ⟨xm1 (j := 204) rfl, rfl⟩, rfl⟩
theorem fs_X2_29 : xFS RX2 29 2 3 true := ⟨RX2, TX2, 6, rfl, by decide, xwd_in (xm1 (j := 205) rfl) rfl, rfl⟩
theorem fn_X6_185 : xFSN RX6 185 2 3 true := ⟨RX2, TX2, 6, "MigrateSteps", rfl, by decide, List.mem_filter.mpr ⟨xm1 (j := 206) rfl, rfl⟩, rfl⟩
theorem fs_X2_9 : xFS RX2 9 2 4 false := ⟨RX2, TX2, 6, rfl, by decide, xwd_in (xm1 (j := 207) rfl) rfl, rfl⟩
theorem fn_X6_210 : xFSN RX6 210 2 4 false := ⟨RX2, TX2, 6, "MigrateSteps", rfl, by decide, List.mem_filter.mpr ⟨xm1 (j := 208) rfl, rfl⟩, rfl⟩
theorem fs_X2_15 : xFS RX2 15 2 5 false := ⟨RX2, TX2, 6, rfl, by decide, xwd_in (xm1 (j := 209) rfl) rfl, rfl⟩
theorem fn_X6_181 : xFSN RX6 181 2 5 false := ⟨RX2, TX2, 6, "MigrateSteps", rfl, by decide, List.mem_filter.mpr ⟨xm1 (j := 210) rfl, rfl⟩, rfl⟩
theorem ml_X6_103 : Cond.methodLink RX6 103 yX6_keep ∈ xwd := xwd_in (xm1 (j := 224) rfl) rfl
theorem ml_X6_107 : Cond.methodLink RX6 107 yX0_clear ∈ xwd := xwd_in (xm1 (j := 228) rfl) rfl
theorem ml_L_57 : Cond.methodLink RL 57 yX6_check ∈ xwd := xwd_in (xm1 (j := 232) rfl) rfl
theorem ml_X6_108 : Cond.methodLink RX6 108 yX6_scriptOf ∈ xwd := xwd_in (xm1 (j := 236) rfl) rfl
theorem ml_X6_116 : Cond.methodLink RX6 116 yX1_add ∈ xwd := xwd_in (xm2 (j := 0) rfl) rfl
theorem ml_L_62 : Cond.methodLink RL 62 yX6_migrate ∈ xwd := xwd_in (xm2 (j := 4) rfl) rfl
theorem ml_X6_123 : Cond.methodLink RX6 123 yX6_liveItem ∈ xwd := xwd_in (xm2 (j := 8) rfl) rfl
theorem ml_X6_166 : Cond.methodLink RX6 166 yX6_itemOf ∈ xwd := xwd_in (xm2 (j := 12) rfl) rfl
theorem ml_X6_127 : Cond.methodLink RX6 127 yX6_derive ∈ xwd := xwd_in (xm2 (j := 16) rfl) rfl
theorem ml_X6_199 : Cond.methodLink RX6 199 yX6_hasDerivedBy ∈ xwd := xwd_in (xm2 (j := 20) rfl) rfl
theorem ml_X6_202 : Cond.methodLink RX6 202 yX1_hold ∈ xwd := xwd_in (xm2 (j := 24) rfl) rfl
theorem ml_X1_22 : Cond.methodLink RX1 22 yX1_holds ∈ xwd := xwd_in (xm2 (j := 28) rfl) rfl
theorem ml_X1_31 : Cond.methodLink RX1 31 yX0_byteAt ∈ xwd := xwd_in (xm2 (j := 31) rfl) rfl
theorem ml_X1_35 : Cond.methodLink RX1 35 yX0_sum ∈ xwd := xwd_in (xm2 (j := 35) rfl) rfl
theorem ml_X0_19 : Cond.methodLink RX0 19 yX0_byteAt ∈ xwd := xwd_in (xm2 (j := 39) rfl) rfl
theorem ml_X6_206 : Cond.methodLink RX6 206 yX3_run ∈ xwd := xwd_in (xm2 (j := 40) rfl) rfl
theorem ml_X3_47 : Cond.methodLink RX3 47 yX3_begin ∈ xwd := xwd_in (xm2 (j := 44) rfl) rfl
theorem ml_X3_66 : Cond.methodLink RX3 66 yJ7_fill_53178 ∈ xwd := xwd_in (xm2 (j := 48) rfl) rfl
theorem ml_X3_71 : Cond.methodLink RX3 71 yX0_clear ∈ xwd := xwd_in (xm2 (j := 51) rfl) rfl
theorem ml_X3_50 : Cond.methodLink RX3 50 yX4_size ∈ xwd := xwd_in (xm2 (j := 52) rfl) rfl
theorem ml_X4_32 : Cond.methodLink RX4 32 yJ9_min_7cf53 ∈ xwd := xwd_in (xm2 (j := 56) rfl) rfl
theorem ml_X3_62 : Cond.methodLink RX3 62 yX3_step ∈ xwd := xwd_in (xm2 (j := 57) rfl) rfl
theorem ml_X3_74 : Cond.methodLink RX3 74 yX0_byteAt ∈ xwd := xwd_in (xm2 (j := 61) rfl) rfl
theorem ml_X3_78 : Cond.methodLink RX3 78 yX3_fetch ∈ xwd := xwd_in (xm2 (j := 62) rfl) rfl
theorem ml_X3_82 : Cond.methodLink RX3 82 yX3_putOut ∈ xwd := xwd_in (xm2 (j := 66) rfl) rfl
theorem ml_X3_111 : Cond.methodLink RX3 111 yX0_add ∈ xwd := xwd_in (xm2 (j := 70) rfl) rfl
theorem ml_X3_108 : Cond.methodLink RX3 108 yX3_failIf ∈ xwd := xwd_in (xm2 (j := 71) rfl) rfl
theorem ml_X3_85 : Cond.methodLink RX3 85 yX3_store ∈ xwd := xwd_in (xm2 (j := 75) rfl) rfl
theorem ml_X3_88 : Cond.methodLink RX3 88 yX3_recall ∈ xwd := xwd_in (xm2 (j := 79) rfl) rfl
theorem ml_X3_93 : Cond.methodLink RX3 93 yX3_jumpIf ∈ xwd := xwd_in (xm2 (j := 83) rfl) rfl
theorem ml_X3_97 : Cond.methodLink RX3 97 yX3_stepWithin ∈ xwd := xwd_in (xm2 (j := 87) rfl) rfl
theorem ct_X3_101 : Cond.constant RX3 101 (1000000) ∈ xwd := xwd_in (xm2 (j := 91) rfl) rfl
theorem ml_X3_102 : Cond.methodLink RX3 102 yJ9_min_7cf53 ∈ xwd := xwd_in (xm2 (j := 92) rfl) rfl
theorem ml_X6_130 : Cond.methodLink RX6 130 yX6_against ∈ xwd := xwd_in (xm2 (j := 93) rfl) rfl
theorem ml_L_66 : Cond.methodLink RL 66 yX6_chain ∈ xwd := xwd_in (xm2 (j := 96) rfl) rfl
theorem ml_X6_134 : Cond.methodLink RX6 134 yX6_comesTo ∈ xwd := xwd_in (xm2 (j := 100) rfl) rfl
theorem ml_X6_141 : Cond.methodLink RX6 141 yX6_nextOf ∈ xwd := xwd_in (xm2 (j := 104) rfl) rfl
theorem ml_L_70 : Cond.methodLink RL 70 yX6_goesOn ∈ xwd := xwd_in (xm2 (j := 108) rfl) rfl
theorem ml_L_74 : Cond.methodLink RL 74 yX6_what ∈ xwd := xwd_in (xm2 (j := 112) rfl) rfl
theorem ml_L_78 : Cond.methodLink RL 78 yX6_failed ∈ xwd := xwd_in (xm2 (j := 116) rfl) rfl
theorem ml_L_82 : Cond.methodLink RL 82 yX6_counted ∈ xwd := xwd_in (xm2 (j := 120) rfl) rfl
theorem ml_L_87 : Cond.methodLink RL 87 yX6_batch ∈ xwd := xwd_in (xm2 (j := 124) rfl) rfl
theorem ml_X6_151 : Cond.methodLink RX6 151 yX6_isOriginal ∈ xwd := xwd_in (xm2 (j := 128) rfl) rfl
theorem ml_X6_154 : Cond.methodLink RX6 154 yX6_joinBatch ∈ xwd := xwd_in (xm2 (j := 132) rfl) rfl
theorem ml_L_92 : Cond.methodLink RL 92 yX6_undo ∈ xwd := xwd_in (xm2 (j := 136) rfl) rfl
theorem ml_X6_157 : Cond.methodLink RX6 157 yX6_leaveBatch ∈ xwd := xwd_in (xm2 (j := 140) rfl) rfl
theorem ml_X6_160 : Cond.methodLink RX6 160 yX6_hasDerived ∈ xwd := xwd_in (xm2 (j := 144) rfl) rfl
theorem ml_X6_163 : Cond.methodLink RX6 163 yX6_dismiss ∈ xwd := xwd_in (xm2 (j := 148) rfl) rfl
theorem ml_L_96 : Cond.methodLink RL 96 yX6_drop ∈ xwd := xwd_in (xm2 (j := 152) rfl) rfl
theorem ml_L_100 : Cond.methodLink RL 100 yX6_about ∈ xwd := xwd_in (xm2 (j := 156) rfl) rfl
theorem ml_L_108 : Cond.methodLink RL 108 yX6_tried ∈ xwd := xwd_in (xm2 (j := 160) rfl) rfl
theorem ml_X6_188 : Cond.methodLink RX6 188 yX0_byteAt ∈ xwd := xwd_in (xm2 (j := 164) rfl) rfl
theorem ml_L_21 : Cond.methodLink RL 21 yL_cell ∈ xwd := xwd_in (xm2 (j := 165) rfl) rfl
theorem ml_L_38 : Cond.methodLink RL 38 yL_read ∈ xwd := xwd_in (xm2 (j := 168) rfl) rfl
theorem cl_L_13 : Cond.classLink RL 13 "java/lang/IllegalStateException" ∈ xwd := xwd_in (xm2 (j := 171) rfl) rfl
theorem ml_L_7 : Cond.methodLink RL 7 yX6_read ∈ xwd := xwd_in (xm2 (j := 172) rfl) rfl
theorem ml_X6_75 : Cond.methodLink RX6 75 yX5_parse ∈ xwd := xwd_in (xm2 (j := 176) rfl) rfl
theorem ml_X5_39 : Cond.methodLink RX5 39 yX5_signAt ∈ xwd := xwd_in (xm2 (j := 180) rfl) rfl
theorem ml_X5_43 : Cond.methodLink RX5 43 yX5_isLetter ∈ xwd := xwd_in (xm2 (j := 184) rfl) rfl
theorem ml_X5_59 : Cond.methodLink RX5 59 yJ0_indexOf_0f7a4 ∈ xwd := xwd_in (xm2 (j := 188) rfl) rfl
theorem ml_J0_633 : Cond.methodLink RJ0 633 yJ0_indexOf_7cf53 ∈ xwd := xwd_in (xm2 (j := 192) rfl) rfl
theorem ml_J0_492 : Cond.methodLink RJ0 492 yJ0_isLatin1_aae02 ∈ xwd := xwd_in (xm2 (j := 196) rfl) rfl
theorem ml_J0_505 : Cond.methodLink RJ0 505 yJ0_length_8abf5 ∈ xwd := xwd_in (xm2 (j := 202) rfl) rfl
theorem ml_J0_335 : Cond.methodLink RJ0 335 yJ0_coder_7d493 ∈ xwd := xwd_in (xm2 (j := 206) rfl) rfl
theorem ml_J0_637 : Cond.methodLink RJ0 637 yJ1_indexOf_4cfef ∈ xwd := xwd_in (xm2 (j := 210) rfl) rfl
theorem ml_J1_88 : Cond.methodLink RJ1 88 yJ1_canEncode_9a6ad ∈ xwd := xwd_in (xm2 (j := 213) rfl) rfl
theorem ml_J1_92 : Cond.methodLink RJ1 92 yJ9_max_7cf53 ∈ xwd := xwd_in (xm2 (j := 216) rfl) rfl
theorem ml_J1_38 : Cond.methodLink RJ1 38 yJ9_min_7cf53 ∈ xwd := xwd_in (xm2 (j := 217) rfl) rfl
theorem ml_J1_95 : Cond.methodLink RJ1 95 yJ1_indexOfChar_4cfef ∈ xwd := xwd_in (xm2 (j := 218) rfl) rfl
theorem ml_J0_640 : Cond.methodLink RJ0 640 yJ2_indexOf_4cfef ∈ xwd := xwd_in (xm2 (j := 221) rfl) rfl
theorem ml_J2_224 : Cond.methodLink RJ2 224 yJ9_max_7cf53 ∈ xwd := xwd_in (xm2 (j := 224) rfl) rfl
theorem ml_J2_183 : Cond.methodLink RJ2 183 yJ9_min_7cf53 ∈ xwd := xwd_in (xm2 (j := 225) rfl) rfl
theorem ct_J2_227 : Cond.constant RJ2 227 (65536) ∈ xwd := xwd_in (xm2 (j := 226) rfl) rfl
theorem ml_J2_228 : Cond.methodLink RJ2 228 yJ2_indexOfChar_4cfef ∈ xwd := xwd_in (xm2 (j := 227) rfl) rfl
theorem ml_J2_96 : Cond.methodLink RJ2 96 yJ2_checkBoundsBeginEnd_d044e ∈ xwd := xwd_in (xm2 (j := 230) rfl) rfl
theorem ml_J2_48 : Cond.methodLink RJ2 48 yJ2_length_9d52b ∈ xwd := xwd_in (xm2 (j := 233) rfl) rfl
theorem ml_J2_241 : Cond.methodLink RJ2 241 yJ0_checkBoundsBeginEnd_23922 ∈ xwd := xwd_in (xm2 (j := 236) rfl) rfl
theorem ml_J0_1062 : Cond.methodLink RJ0 1062 yJ3_checkFromToIndex_8c36e ∈ xwd := xwd_in (xm3 (j := 1) rfl) rfl
theorem ml_J2_244 : Cond.methodLink RJ2 244 yJ2_indexOfCharUnsafe_4cfef ∈ xwd := xwd_in (xm3 (j := 4) rfl) rfl
theorem ml_J2_71 : Cond.methodLink RJ2 71 yJ2_getChar_3b067 ∈ xwd := xwd_in (xm3 (j := 7) rfl) rfl
theorem ml_J2_232 : Cond.methodLink RJ2 232 yJ2_indexOfSupplementary_4cfef ∈ xwd := xwd_in (xm3 (j := 16) rfl) rfl
theorem ml_J2_164 : Cond.methodLink RJ2 164 yJ11_isValidCodePoint_9a6ad ∈ xwd := xwd_in (xm3 (j := 19) rfl) rfl
theorem ml_J2_157 : Cond.methodLink RJ2 157 yJ11_highSurrogate_5068e ∈ xwd := xwd_in (xm3 (j := 22) rfl) rfl
theorem ct_J11_110 : Cond.constant RJ11 110 (55232) ∈ xwd := xwd_in (xm3 (j := 25) rfl) rfl
theorem ml_J2_161 : Cond.methodLink RJ2 161 yJ11_lowSurrogate_5068e ∈ xwd := xwd_in (xm3 (j := 26) rfl) rfl
theorem ct_J11_76 : Cond.constant RJ11 76 (56320) ∈ xwd := xwd_in (xm3 (j := 29) rfl) rfl
theorem ml_X5_47 : Cond.methodLink RX5 47 yX5_digitsFrom ∈ xwd := xwd_in (xm3 (j := 30) rfl) rfl
theorem ml_X5_54 : Cond.methodLink RX5 54 yX5_isDigit ∈ xwd := xwd_in (xm3 (j := 34) rfl) rfl
theorem ml_X5_50 : Cond.methodLink RX5 50 yX5_numberFrom ∈ xwd := xwd_in (xm3 (j := 37) rfl) rfl
theorem ml_X6_79 : Cond.methodLink RX6 79 yX5_clear ∈ xwd := xwd_in (xm3 (j := 41) rfl) rfl
theorem cl_X6_82 : Cond.classLink RX6 82 "java/lang/IllegalStateException" ∈ xwd := xwd_in (xm3 (j := 45) rfl) rfl
theorem ml_X6_86 : Cond.methodLink RX6 86 ⟨"java/lang/IllegalStateException", "<init>", "(Ljava/lang/String;)V"⟩ ∈ xwd := xwd_in (xm3 (j := 86) rfl) rfl
theorem ac_byte : Cond.arrayClass .byte ∈ xwd := xwd_in (xm3 (j := 111) rfl) rfl
theorem ml_X6_89 : Cond.methodLink RX6 89 yX5_parsed ∈ xwd := xwd_in (xm3 (j := 112) rfl) rfl
theorem cl_X5_28 : Cond.classLink RX5 28 RX4 ∈ xwd := xwd_in (xm3 (j := 116) rfl) rfl
theorem im_X4 : Cond.instantiable RX4 5 ∈ xwd := xwd_in (xm3 (j := 117) rfl) rfl
theorem ml_X5_30 : Cond.methodLink RX5 30 yJ7_copyOf_59c91 ∈ xwd := xwd_in (xm3 (j := 118) rfl) rfl
theorem ml_X5_36 : Cond.methodLink RX5 36 yX4_init ∈ xwd := xwd_in (xm3 (j := 119) rfl) rfl
theorem ml_X4_3 : Cond.methodLink RX4 3 objectInit ∈ xwd := xwd_in (xm3 (j := 122) rfl) rfl
theorem cl_X4_9 : Cond.classLink RX4 9 RX1 ∈ xwd := xwd_in (xm3 (j := 123) rfl) rfl
theorem im_X1 : Cond.instantiable RX1 3 ∈ xwd := xwd_in (xm3 (j := 124) rfl) rfl
theorem mn_X4_11 : Cond.methodLinkNest RX4 11 yX1_init "MigrateSteps" ∈ xnw := List.mem_filter.mpr ⟨xm3 (j := 125) rfl, rfl⟩
theorem ml_X1_3 : Cond.methodLink RX1 3 objectInit ∈ xwd := xwd_in (xm3 (j := 128) rfl) rfl
theorem fs_X1_9 : xFS RX1 9 1 0 true := ⟨RX1, TX1, 3, rfl, by decide, xwd_in (xm3 (j := 129) rfl) rfl, rfl⟩
theorem fs_X1_15 : xFS RX1 15 1 1 true := ⟨RX1, TX1, 3, rfl, by decide, xwd_in (xm3 (j := 130) rfl) rfl, rfl⟩
theorem fs_X1_18 : xFS RX1 18 1 2 false := ⟨RX1, TX1, 3, rfl, by decide, xwd_in (xm3 (j := 131) rfl) rfl, rfl⟩
theorem fs_X4_25 : xFS RX4 25 4 0 true := ⟨RX4, TX4, 5, rfl, by decide, xwd_in (xm3 (j := 139) rfl) rfl, rfl⟩
theorem fn_X3_56 : xFSN RX3 56 4 0 true := ⟨RX4, TX4, 5, "MigrateSteps", rfl, by decide, List.mem_filter.mpr ⟨xm3 (j := 140) rfl, rfl⟩, rfl⟩
theorem fs_X4_29 : xFS RX4 29 4 1 true := ⟨RX4, TX4, 5, rfl, by decide, xwd_in (xm3 (j := 141) rfl) rfl, rfl⟩
theorem fn_X3_59 : xFSN RX3 59 4 1 true := ⟨RX4, TX4, 5, "MigrateSteps", rfl, by decide, List.mem_filter.mpr ⟨xm3 (j := 142) rfl, rfl⟩, rfl⟩
theorem fs_X4_12 : xFS RX4 12 4 2 true := ⟨RX4, TX4, 5, rfl, by decide, xwd_in (xm3 (j := 143) rfl) rfl, rfl⟩
theorem fn_X6_120 : xFSN RX6 120 4 2 true := ⟨RX4, TX4, 5, "MigrateSteps", rfl, by decide, List.mem_filter.mpr ⟨xm3 (j := 144) rfl, rfl⟩, rfl⟩
theorem fs_X4_18 : xFS RX4 18 4 3 true := ⟨RX4, TX4, 5, rfl, by decide, xwd_in (xm3 (j := 145) rfl) rfl, rfl⟩
theorem fn_X6_112 : xFSN RX6 112 4 3 true := ⟨RX4, TX4, 5, "MigrateSteps", rfl, by decide, List.mem_filter.mpr ⟨xm3 (j := 146) rfl, rfl⟩, rfl⟩
theorem fs_X4_21 : xFS RX4 21 4 4 false := ⟨RX4, TX4, 5, rfl, by decide, xwd_in (xm3 (j := 147) rfl) rfl, rfl⟩
theorem fn_X6_138 : xFSN RX6 138 4 4 false := ⟨RX4, TX4, 5, "MigrateSteps", rfl, by decide, List.mem_filter.mpr ⟨xm3 (j := 148) rfl, rfl⟩, rfl⟩
theorem ml_L_104 : Cond.methodLink RL 104 yL_at ∈ xwd := xwd_in (xm3 (j := 160) rfl) rfl
theorem cl_L_19 : Cond.classLink RL 19 RJx00060 ∈ xwd := xwd_in (xm3 (j := 163) rfl) rfl
theorem ml_L_15 : Cond.methodLink RL 15 yX6_at ∈ xwd := xwd_in (xm3 (j := 164) rfl) rfl
theorem cl_X6_191 : Cond.classLink RX6 191 RJx00060 ∈ xwd := xwd_in (xm3 (j := 168) rfl) rfl
theorem im_Jx00060 : Cond.instantiable RJx00060 6 ∈ xwd := xwd_in (xm3 (j := 169) rfl) rfl
theorem ml_X6_195 : Cond.methodLink RX6 195 yJx00060_init_a7421 ∈ xwd := xwd_in (xm3 (j := 180) rfl) rfl
theorem ml_Jx00060_7 : Cond.methodLink RJx00060 7 ⟨"java/lang/IndexOutOfBoundsException", "<init>", "(Ljava/lang/String;)V"⟩ ∈ xwd := xwd_in (xm3 (j := 183) rfl) rfl
theorem cl_L_30 : Cond.classLink RL 30 RX7 ∈ xwd := xwd_in (xm3 (j := 189) rfl) rfl
theorem im_X7 : Cond.instantiable RX7 32 ∈ xwd := xwd_in (xm3 (j := 190) rfl) rfl
theorem ml_L_32 : Cond.methodLink RL 32 yX7_init ∈ xwd := xwd_in (xm3 (j := 191) rfl) rfl
theorem ml_X7_1 : Cond.methodLink RX7 1 objectInit ∈ xwd := xwd_in (xm3 (j := 194) rfl) rfl
theorem fs_X7_79 : xFS RX7 79 7 0 false := ⟨RX7, TX7, 32, rfl, by decide, xwd_in (xm3 (j := 195) rfl) rfl, rfl⟩
theorem fs_X7_73 : xFS RX7 73 7 1 true := ⟨RX7, TX7, 32, rfl, by decide, xwd_in (xm3 (j := 196) rfl) rfl, rfl⟩
theorem fs_X7_76 : xFS RX7 76 7 2 true := ⟨RX7, TX7, 32, rfl, by decide, xwd_in (xm3 (j := 197) rfl) rfl, rfl⟩
theorem fs_X7_92 : xFS RX7 92 7 3 false := ⟨RX7, TX7, 32, rfl, by decide, xwd_in (xm3 (j := 198) rfl) rfl, rfl⟩
theorem fs_X7_7 : xFS RX7 7 7 4 true := ⟨RX7, TX7, 32, rfl, by decide, xwd_in (xm3 (j := 199) rfl) rfl, rfl⟩
theorem fs_X7_95 : xFS RX7 95 7 5 false := ⟨RX7, TX7, 32, rfl, by decide, xwd_in (xm3 (j := 200) rfl) rfl, rfl⟩
theorem fs_X7_13 : xFS RX7 13 7 6 false := ⟨RX7, TX7, 32, rfl, by decide, xwd_in (xm3 (j := 201) rfl) rfl, rfl⟩
theorem fs_X7_82 : xFS RX7 82 7 7 false := ⟨RX7, TX7, 32, rfl, by decide, xwd_in (xm3 (j := 202) rfl) rfl, rfl⟩
theorem fs_X7_17 : xFS RX7 17 7 8 true := ⟨RX7, TX7, 32, rfl, by decide, xwd_in (xm3 (j := 203) rfl) rfl, rfl⟩
theorem fs_X7_21 : xFS RX7 21 7 9 true := ⟨RX7, TX7, 32, rfl, by decide, xwd_in (xm3 (j := 204) rfl) rfl, rfl⟩
theorem fs_X7_24 : xFS RX7 24 7 10 true := ⟨RX7, TX7, 32, rfl, by decide, xwd_in (xm3 (j := 205) rfl) rfl, rfl⟩
theorem fs_X7_27 : xFS RX7 27 7 11 true := ⟨RX7, TX7, 32, rfl, by decide, xwd_in (xm3 (j := 206) rfl) rfl, rfl⟩
theorem fs_X7_30 : xFS RX7 30 7 12 true := ⟨RX7, TX7, 32, rfl, by decide, xwd_in (xm3 (j := 207) rfl) rfl, rfl⟩
theorem fs_X7_33 : xFS RX7 33 7 13 true := ⟨RX7, TX7, 32, rfl, by decide, xwd_in (xm3 (j := 208) rfl) rfl, rfl⟩
theorem fs_X7_36 : xFS RX7 36 7 14 true := ⟨RX7, TX7, 32, rfl, by decide, xwd_in (xm3 (j := 209) rfl) rfl, rfl⟩
theorem fs_X7_125 : xFS RX7 125 7 15 false := ⟨RX7, TX7, 32, rfl, by decide, xwd_in (xm3 (j := 210) rfl) rfl, rfl⟩
theorem fs_X7_39 : xFS RX7 39 7 16 true := ⟨RX7, TX7, 32, rfl, by decide, xwd_in (xm3 (j := 211) rfl) rfl, rfl⟩
theorem fs_X7_89 : xFS RX7 89 7 17 false := ⟨RX7, TX7, 32, rfl, by decide, xwd_in (xm3 (j := 212) rfl) rfl, rfl⟩
theorem fs_X7_42 : xFS RX7 42 7 18 true := ⟨RX7, TX7, 32, rfl, by decide, xwd_in (xm3 (j := 213) rfl) rfl, rfl⟩
theorem fs_X7_45 : xFS RX7 45 7 19 true := ⟨RX7, TX7, 32, rfl, by decide, xwd_in (xm3 (j := 214) rfl) rfl, rfl⟩
theorem fs_X7_48 : xFS RX7 48 7 20 true := ⟨RX7, TX7, 32, rfl, by decide, xwd_in (xm3 (j := 215) rfl) rfl, rfl⟩
theorem fs_X7_51 : xFS RX7 51 7 21 true := ⟨RX7, TX7, 32, rfl, by decide, xwd_in (xm3 (j := 216) rfl) rfl, rfl⟩
theorem fs_X7_54 : xFS RX7 54 7 22 true := ⟨RX7, TX7, 32, rfl, by decide, xwd_in (xm3 (j := 217) rfl) rfl, rfl⟩
theorem fs_X7_58 : xFS RX7 58 7 23 true := ⟨RX7, TX7, 32, rfl, by decide, xwd_in (xm3 (j := 218) rfl) rfl, rfl⟩
theorem fs_X7_158 : xFS RX7 158 7 24 false := ⟨RX7, TX7, 32, rfl, by decide, xwd_in (xm3 (j := 219) rfl) rfl, rfl⟩
theorem fs_X7_61 : xFS RX7 61 7 25 true := ⟨RX7, TX7, 32, rfl, by decide, xwd_in (xm3 (j := 220) rfl) rfl, rfl⟩
theorem fs_X7_155 : xFS RX7 155 7 26 false := ⟨RX7, TX7, 32, rfl, by decide, xwd_in (xm3 (j := 221) rfl) rfl, rfl⟩
theorem fs_X7_64 : xFS RX7 64 7 27 false := ⟨RX7, TX7, 32, rfl, by decide, xwd_in (xm3 (j := 222) rfl) rfl, rfl⟩
theorem fs_X7_113 : xFS RX7 113 7 28 false := ⟨RX7, TX7, 32, rfl, by decide, xwd_in (xm3 (j := 223) rfl) rfl, rfl⟩
theorem fs_X7_67 : xFS RX7 67 7 29 true := ⟨RX7, TX7, 32, rfl, by decide, xwd_in (xm3 (j := 224) rfl) rfl, rfl⟩
theorem fs_X7_70 : xFS RX7 70 7 30 true := ⟨RX7, TX7, 32, rfl, by decide, xwd_in (xm3 (j := 225) rfl) rfl, rfl⟩
theorem fs_X7_116 : xFS RX7 116 7 31 false := ⟨RX7, TX7, 32, rfl, by decide, xwd_in (xm3 (j := 226) rfl) rfl, rfl⟩
theorem ac_boolean : Cond.arrayClass .boolean ∈ xwd := xwd_in (xm4 (j := 52) rfl) rfl
theorem ml_L_42 : Cond.methodLink RL 42 yX7_thrown ∈ xwd := xwd_in (xm4 (j := 53) rfl) rfl
theorem ml_L_37 : Cond.methodLink RL 37 yX7_sign ∈ xwd := xwd_in (xm4 (j := 57) rfl) rfl
theorem ml_L_41 : Cond.methodLink RL 41 yX7_read ∈ xwd := xwd_in (xm4 (j := 61) rfl) rfl
theorem ml_X7_109 : Cond.methodLink RX7 109 yX7_reads ∈ xwd := xwd_in (xm4 (j := 65) rfl) rfl
theorem ml_X7_106 : Cond.methodLink RX7 106 yX7_command ∈ xwd := xwd_in (xm4 (j := 69) rfl) rfl
theorem ml_X7_98 : Cond.methodLink RX7 98 yX7_look ∈ xwd := xwd_in (xm4 (j := 73) rfl) rfl
theorem ml_X7_102 : Cond.methodLink RX7 102 yX7_isLetter ∈ xwd := xwd_in (xm4 (j := 77) rfl) rfl
theorem ml_X7_85 : Cond.methodLink RX7 85 yX7_in ∈ xwd := xwd_in (xm4 (j := 80) rfl) rfl
theorem ml_L_48 : Cond.methodLink RL 48 yX7_place ∈ xwd := xwd_in (xm4 (j := 83) rfl) rfl
theorem ml_L_52 : Cond.methodLink RL 52 yX7_octet ∈ xwd := xwd_in (xm4 (j := 87) rfl) rfl
theorem ml_L_56 : Cond.methodLink RL 56 yX7_original ∈ xwd := xwd_in (xm4 (j := 91) rfl) rfl
theorem ml_L_61 : Cond.methodLink RL 61 yX7_check ∈ xwd := xwd_in (xm4 (j := 95) rfl) rfl
theorem ml_X7_128 : Cond.methodLink RX7 128 yX7_isScript ∈ xwd := xwd_in (xm4 (j := 99) rfl) rfl
theorem ml_L_65 : Cond.methodLink RL 65 yX7_migrate ∈ xwd := xwd_in (xm4 (j := 103) rfl) rfl
theorem ml_X7_149 : Cond.methodLink RX7 149 yX7_can ∈ xwd := xwd_in (xm4 (j := 107) rfl) rfl
theorem ml_X7_146 : Cond.methodLink RX7 146 yX7_isItem ∈ xwd := xwd_in (xm4 (j := 111) rfl) rfl
theorem ml_X7_152 : Cond.methodLink RX7 152 yX7_derive ∈ xwd := xwd_in (xm4 (j := 115) rfl) rfl
theorem ml_X7_135 : Cond.methodLink RX7 135 yX7_hasDerived ∈ xwd := xwd_in (xm4 (j := 119) rfl) rfl
theorem ml_X7_139 : Cond.methodLink RX7 139 yX7_allHold ∈ xwd := xwd_in (xm4 (j := 123) rfl) rfl
theorem ml_X7_131 : Cond.methodLink RX7 131 yX7_holds ∈ xwd := xwd_in (xm4 (j := 127) rfl) rfl
theorem ml_X7_142 : Cond.methodLink RX7 142 yX7_run ∈ xwd := xwd_in (xm4 (j := 130) rfl) rfl
theorem ml_X7_120 : Cond.methodLink RX7 120 yX7_put ∈ xwd := xwd_in (xm4 (j := 134) rfl) rfl
theorem ct_X7_124 : Cond.constant RX7 124 (1000000) ∈ xwd := xwd_in (xm4 (j := 138) rfl) rfl
theorem ml_L_69 : Cond.methodLink RL 69 yX7_chain ∈ xwd := xwd_in (xm4 (j := 139) rfl) rfl
theorem ml_L_73 : Cond.methodLink RL 73 yX7_goesOn ∈ xwd := xwd_in (xm4 (j := 143) rfl) rfl
theorem ml_L_77 : Cond.methodLink RL 77 yX7_what ∈ xwd := xwd_in (xm4 (j := 147) rfl) rfl
theorem ml_L_81 : Cond.methodLink RL 81 yX7_failed ∈ xwd := xwd_in (xm4 (j := 151) rfl) rfl
theorem ml_L_86 : Cond.methodLink RL 86 yX7_counted ∈ xwd := xwd_in (xm4 (j := 155) rfl) rfl
theorem ml_L_91 : Cond.methodLink RL 91 yX7_batch ∈ xwd := xwd_in (xm4 (j := 159) rfl) rfl
theorem ml_L_95 : Cond.methodLink RL 95 yX7_undo ∈ xwd := xwd_in (xm4 (j := 163) rfl) rfl
theorem ml_X7_161 : Cond.methodLink RX7 161 yX7_goes ∈ xwd := xwd_in (xm4 (j := 167) rfl) rfl
theorem ml_L_99 : Cond.methodLink RL 99 yX7_drop ∈ xwd := xwd_in (xm4 (j := 171) rfl) rfl
theorem ml_L_103 : Cond.methodLink RL 103 yX7_about ∈ xwd := xwd_in (xm4 (j := 175) rfl) rfl
theorem ml_L_107 : Cond.methodLink RL 107 yX7_at ∈ xwd := xwd_in (xm4 (j := 179) rfl) rfl
theorem ml_L_111 : Cond.methodLink RL 111 yX7_tried ∈ xwd := xwd_in (xm4 (j := 183) rfl) rfl
theorem ac_long : Cond.arrayClass .long ∈ xwd := xwd_in (xm4 (j := 187) rfl) rfl
theorem mi_X6_init : xMi yX6_init cX6_init 3 2 := ⟨⟨xwd_in (xm1 (j := 27) rfl) rfl, xwd_in (xm1 (j := 1) rfl) rfl, by decide +kernel⟩, xwd_in (xm1 (j := 26) rfl) rfl, rfl⟩
theorem mi_X5_init : xMi yX5_init cX5_init 1 0 := ⟨⟨xwd_in (xm1 (j := 35) rfl) rfl, xwd_in (xm1 (j := 2) rfl) rfl, by decide +kernel⟩, xwd_in (xm1 (j := 34) rfl) rfl, rfl⟩
theorem mi_X0_init : xMi yX0_init cX0_init 3 2 := ⟨⟨xwd_in (xm1 (j := 58) rfl) rfl, xwd_in (xm1 (j := 3) rfl) rfl, by decide +kernel⟩, xwd_in (xm1 (j := 57) rfl) rfl, rfl⟩
theorem ms_J9_min_7cf53 : xMs yJ9_min_7cf53 cJ9_min_7cf53 2 (some .int) 2 := ⟨⟨xwd_in (xm1 (j := 78) rfl) rfl, xwd_in (xm1 (j := 5) rfl) rfl, by decide +kernel⟩, xwd_in (xm1 (j := 77) rfl) rfl⟩
theorem ms_J9_max_7cf53 : xMs yJ9_max_7cf53 cJ9_max_7cf53 2 (some .int) 2 := ⟨⟨xwd_in (xm1 (j := 81) rfl) rfl, xwd_in (xm1 (j := 5) rfl) rfl, by decide +kernel⟩, xwd_in (xm1 (j := 80) rfl) rfl⟩
theorem mi_X3_init : xMi yX3_init cX3_init 3 2 := ⟨⟨xwd_in (xm1 (j := 84) rfl) rfl, xwd_in (xm1 (j := 4) rfl) rfl, by decide +kernel⟩, xwd_in (xm1 (j := 83) rfl) rfl, rfl⟩
theorem mv_X6_sign : xMv yX6_sign cX6_sign 2 none 1 := ⟨⟨xwd_in (xm1 (j := 153) rfl) rfl, xwd_in (xm1 (j := 1) rfl) rfl, by decide +kernel⟩, xwd_in (xm1 (j := 151) rfl) rfl, xwd_in (xm1 (j := 152) rfl) rfl⟩
theorem mv_X5_add : xMv yX5_add cX5_add 2 none 1 := ⟨⟨xwd_in (xm1 (j := 157) rfl) rfl, xwd_in (xm1 (j := 2) rfl) rfl, by decide +kernel⟩, xwd_in (xm1 (j := 155) rfl) rfl, xwd_in (xm1 (j := 156) rfl) rfl⟩
theorem mv_X6_place : xMv yX6_place cX6_place 1 (some .int) 0 := ⟨⟨xwd_in (xm1 (j := 161) rfl) rfl, xwd_in (xm1 (j := 1) rfl) rfl, by decide +kernel⟩, xwd_in (xm1 (j := 159) rfl) rfl, xwd_in (xm1 (j := 160) rfl) rfl⟩
theorem mv_X6_octet : xMv yX6_octet cX6_octet 2 none 1 := ⟨⟨xwd_in (xm1 (j := 165) rfl) rfl, xwd_in (xm1 (j := 1) rfl) rfl, by decide +kernel⟩, xwd_in (xm1 (j := 163) rfl) rfl, xwd_in (xm1 (j := 164) rfl) rfl⟩
theorem mv_X0_add : xMv yX0_add cX0_add 2 (some .boolean) 1 := ⟨⟨xwd_in (xm1 (j := 169) rfl) rfl, xwd_in (xm1 (j := 3) rfl) rfl, by decide +kernel⟩, xwd_in (xm1 (j := 167) rfl) rfl, xwd_in (xm1 (j := 168) rfl) rfl⟩
theorem mv_X6_original : xMv yX6_original cX6_original 2 (some .int) 0 := ⟨⟨xwd_in (xm1 (j := 173) rfl) rfl, xwd_in (xm1 (j := 1) rfl) rfl, by decide +kernel⟩, xwd_in (xm1 (j := 171) rfl) rfl, xwd_in (xm1 (j := 172) rfl) rfl⟩
theorem mv_X0_copy : xMv yX0_copy cX0_copy 1 (some (.object "MigrateSteps$ByteRow")) 0 := ⟨⟨xwd_in (xm1 (j := 178) rfl) rfl, xwd_in (xm1 (j := 3) rfl) rfl, by decide +kernel⟩, xwd_in (xm1 (j := 176) rfl) rfl, xwd_in (xm1 (j := 177) rfl) rfl⟩
theorem ms_J7_copyOf_59c91 : xMs yJ7_copyOf_59c91 cJ7_copyOf_59c91 3 (some (.array .int)) 2 := ⟨⟨xwd_in (xm1 (j := 182) rfl) rfl, xwd_in (xm1 (j := 17) rfl) rfl, by decide +kernel⟩, xwd_in (xm1 (j := 181) rfl) rfl⟩
theorem mi_X2_init : xMi yX2_init cX2_init 5 4 := ⟨⟨xwd_in (xm1 (j := 197) rfl) rfl, xwd_in (xm1 (j := 20) rfl) rfl, by decide +kernel⟩, xwd_in (xm1 (j := 196) rfl) rfl, rfl⟩
theorem mv_X6_keep : xMv yX6_keep cX6_keep 2 (some .int) 1 := ⟨⟨xwd_in (xm1 (j := 227) rfl) rfl, xwd_in (xm1 (j := 1) rfl) rfl, by decide +kernel⟩, xwd_in (xm1 (j := 226) rfl) rfl, xwd_in (xmp (j := 0) rfl) rfl⟩
theorem mv_X0_clear : xMv yX0_clear cX0_clear 1 none 0 := ⟨⟨xwd_in (xm1 (j := 231) rfl) rfl, xwd_in (xm1 (j := 3) rfl) rfl, by decide +kernel⟩, xwd_in (xm1 (j := 229) rfl) rfl, xwd_in (xm1 (j := 230) rfl) rfl⟩
theorem mv_X6_check : xMv yX6_check cX6_check 6 (some .int) 4 := ⟨⟨xwd_in (xm1 (j := 235) rfl) rfl, xwd_in (xm1 (j := 1) rfl) rfl, by decide +kernel⟩, xwd_in (xm1 (j := 233) rfl) rfl, xwd_in (xm1 (j := 234) rfl) rfl⟩
theorem mv_X6_scriptOf : xMv yX6_scriptOf cX6_scriptOf 2 (some (.object "MigrateSteps$Script")) 1 := ⟨⟨xwd_in (xm1 (j := 239) rfl) rfl, xwd_in (xm1 (j := 1) rfl) rfl, by decide +kernel⟩, xwd_in (xm1 (j := 238) rfl) rfl, xwd_in (xmp (j := 1) rfl) rfl⟩
theorem mv_X1_add : xMv yX1_add cX1_add 3 (some .int) 2 := ⟨⟨xwd_in (xm2 (j := 3) rfl) rfl, xwd_in (xm1 (j := 19) rfl) rfl, by decide +kernel⟩, xwd_in (xm2 (j := 1) rfl) rfl, xwd_in (xm2 (j := 2) rfl) rfl⟩
theorem mv_X6_migrate : xMv yX6_migrate cX6_migrate 4 (some .int) 2 := ⟨⟨xwd_in (xm2 (j := 7) rfl) rfl, xwd_in (xm1 (j := 1) rfl) rfl, by decide +kernel⟩, xwd_in (xm2 (j := 5) rfl) rfl, xwd_in (xm2 (j := 6) rfl) rfl⟩
theorem mv_X6_liveItem : xMv yX6_liveItem cX6_liveItem 3 (some (.object "MigrateSteps$Item")) 1 := ⟨⟨xwd_in (xm2 (j := 11) rfl) rfl, xwd_in (xm1 (j := 1) rfl) rfl, by decide +kernel⟩, xwd_in (xm2 (j := 10) rfl) rfl, xwd_in (xmp (j := 2) rfl) rfl⟩
theorem mv_X6_itemOf : xMv yX6_itemOf cX6_itemOf 2 (some (.object "MigrateSteps$Item")) 1 := ⟨⟨xwd_in (xm2 (j := 15) rfl) rfl, xwd_in (xm1 (j := 1) rfl) rfl, by decide +kernel⟩, xwd_in (xm2 (j := 14) rfl) rfl, xwd_in (xmp (j := 3) rfl) rfl⟩
theorem mv_X6_derive : xMv yX6_derive cX6_derive 6 (some .int) 2 := ⟨⟨xwd_in (xm2 (j := 19) rfl) rfl, xwd_in (xm1 (j := 1) rfl) rfl, by decide +kernel⟩, xwd_in (xm2 (j := 18) rfl) rfl, xwd_in (xmp (j := 4) rfl) rfl⟩
theorem mv_X6_hasDerivedBy : xMv yX6_hasDerivedBy cX6_hasDerivedBy 5 (some .boolean) 2 := ⟨⟨xwd_in (xm2 (j := 23) rfl) rfl, xwd_in (xm1 (j := 1) rfl) rfl, by decide +kernel⟩, xwd_in (xm2 (j := 22) rfl) rfl, xwd_in (xmp (j := 5) rfl) rfl⟩
theorem mv_X1_hold : xMv yX1_hold cX1_hold 3 (some .boolean) 1 := ⟨⟨xwd_in (xm2 (j := 27) rfl) rfl, xwd_in (xm1 (j := 19) rfl) rfl, by decide +kernel⟩, xwd_in (xm2 (j := 25) rfl) rfl, xwd_in (xm2 (j := 26) rfl) rfl⟩
theorem ms_X1_holds : xMs yX1_holds cX1_holds 3 (some .boolean) 3 := ⟨⟨xwd_in (xm2 (j := 30) rfl) rfl, xwd_in (xm1 (j := 19) rfl) rfl, by decide +kernel⟩, xwd_in (xm2 (j := 29) rfl) rfl⟩
theorem mv_X0_byteAt : xMv yX0_byteAt cX0_byteAt 2 (some .int) 1 := ⟨⟨xwd_in (xm2 (j := 34) rfl) rfl, xwd_in (xm1 (j := 3) rfl) rfl, by decide +kernel⟩, xwd_in (xm2 (j := 32) rfl) rfl, xwd_in (xm2 (j := 33) rfl) rfl⟩
theorem mv_X0_sum : xMv yX0_sum cX0_sum 3 (some .int) 0 := ⟨⟨xwd_in (xm2 (j := 38) rfl) rfl, xwd_in (xm1 (j := 3) rfl) rfl, by decide +kernel⟩, xwd_in (xm2 (j := 36) rfl) rfl, xwd_in (xm2 (j := 37) rfl) rfl⟩
theorem mv_X3_run : xMv yX3_run cX3_run 6 (some .int) 2 := ⟨⟨xwd_in (xm2 (j := 43) rfl) rfl, xwd_in (xm1 (j := 4) rfl) rfl, by decide +kernel⟩, xwd_in (xm2 (j := 41) rfl) rfl, xwd_in (xm2 (j := 42) rfl) rfl⟩
theorem mv_X3_begin : xMv yX3_begin cX3_begin 1 none 0 := ⟨⟨xwd_in (xm2 (j := 47) rfl) rfl, xwd_in (xm1 (j := 4) rfl) rfl, by decide +kernel⟩, xwd_in (xm2 (j := 46) rfl) rfl, xwd_in (xmp (j := 6) rfl) rfl⟩
theorem ms_J7_fill_53178 : xMs yJ7_fill_53178 cJ7_fill_53178 4 none 2 := ⟨⟨xwd_in (xm2 (j := 50) rfl) rfl, xwd_in (xm1 (j := 17) rfl) rfl, by decide +kernel⟩, xwd_in (xm2 (j := 49) rfl) rfl⟩
theorem mv_X4_size : xMv yX4_size cX4_size 1 (some .int) 0 := ⟨⟨xwd_in (xm2 (j := 55) rfl) rfl, xwd_in (xm1 (j := 16) rfl) rfl, by decide +kernel⟩, xwd_in (xm2 (j := 53) rfl) rfl, xwd_in (xm2 (j := 54) rfl) rfl⟩
theorem mv_X3_step : xMv yX3_step cX3_step 4 none 3 := ⟨⟨xwd_in (xm2 (j := 60) rfl) rfl, xwd_in (xm1 (j := 4) rfl) rfl, by decide +kernel⟩, xwd_in (xm2 (j := 59) rfl) rfl, xwd_in (xmp (j := 7) rfl) rfl⟩
theorem mv_X3_fetch : xMv yX3_fetch cX3_fetch 2 none 1 := ⟨⟨xwd_in (xm2 (j := 65) rfl) rfl, xwd_in (xm1 (j := 4) rfl) rfl, by decide +kernel⟩, xwd_in (xm2 (j := 64) rfl) rfl, xwd_in (xmp (j := 8) rfl) rfl⟩
theorem mv_X3_putOut : xMv yX3_putOut cX3_putOut 4 none 1 := ⟨⟨xwd_in (xm2 (j := 69) rfl) rfl, xwd_in (xm1 (j := 4) rfl) rfl, by decide +kernel⟩, xwd_in (xm2 (j := 68) rfl) rfl, xwd_in (xmp (j := 9) rfl) rfl⟩
theorem mv_X3_failIf : xMv yX3_failIf cX3_failIf 3 none 2 := ⟨⟨xwd_in (xm2 (j := 74) rfl) rfl, xwd_in (xm1 (j := 4) rfl) rfl, by decide +kernel⟩, xwd_in (xm2 (j := 73) rfl) rfl, xwd_in (xmp (j := 10) rfl) rfl⟩
theorem mv_X3_store : xMv yX3_store cX3_store 2 none 1 := ⟨⟨xwd_in (xm2 (j := 78) rfl) rfl, xwd_in (xm1 (j := 4) rfl) rfl, by decide +kernel⟩, xwd_in (xm2 (j := 77) rfl) rfl, xwd_in (xmp (j := 11) rfl) rfl⟩
theorem mv_X3_recall : xMv yX3_recall cX3_recall 2 none 1 := ⟨⟨xwd_in (xm2 (j := 82) rfl) rfl, xwd_in (xm1 (j := 4) rfl) rfl, by decide +kernel⟩, xwd_in (xm2 (j := 81) rfl) rfl, xwd_in (xmp (j := 12) rfl) rfl⟩
theorem mv_X3_jumpIf : xMv yX3_jumpIf cX3_jumpIf 3 none 2 := ⟨⟨xwd_in (xm2 (j := 86) rfl) rfl, xwd_in (xm1 (j := 4) rfl) rfl, by decide +kernel⟩, xwd_in (xm2 (j := 85) rfl) rfl, xwd_in (xmp (j := 13) rfl) rfl⟩
theorem mv_X3_stepWithin : xMv yX3_stepWithin cX3_stepWithin 3 none 2 := ⟨⟨xwd_in (xm2 (j := 90) rfl) rfl, xwd_in (xm1 (j := 4) rfl) rfl, by decide +kernel⟩, xwd_in (xm2 (j := 89) rfl) rfl, xwd_in (xmp (j := 14) rfl) rfl⟩
theorem ms_X6_against : xMs yX6_against cX6_against 1 (some .int) 1 := ⟨⟨xwd_in (xm2 (j := 95) rfl) rfl, xwd_in (xm1 (j := 1) rfl) rfl, by decide +kernel⟩, xwd_in (xm2 (j := 94) rfl) rfl⟩
theorem mv_X6_chain : xMv yX6_chain cX6_chain 4 (some .int) 2 := ⟨⟨xwd_in (xm2 (j := 99) rfl) rfl, xwd_in (xm1 (j := 1) rfl) rfl, by decide +kernel⟩, xwd_in (xm2 (j := 97) rfl) rfl, xwd_in (xm2 (j := 98) rfl) rfl⟩
theorem mv_X6_comesTo : xMv yX6_comesTo cX6_comesTo 5 (some .boolean) 2 := ⟨⟨xwd_in (xm2 (j := 103) rfl) rfl, xwd_in (xm1 (j := 1) rfl) rfl, by decide +kernel⟩, xwd_in (xm2 (j := 102) rfl) rfl, xwd_in (xmp (j := 15) rfl) rfl⟩
theorem mv_X6_nextOf : xMv yX6_nextOf cX6_nextOf 3 (some .int) 1 := ⟨⟨xwd_in (xm2 (j := 107) rfl) rfl, xwd_in (xm1 (j := 1) rfl) rfl, by decide +kernel⟩, xwd_in (xm2 (j := 106) rfl) rfl, xwd_in (xmp (j := 16) rfl) rfl⟩
theorem mv_X6_goesOn : xMv yX6_goesOn cX6_goesOn 7 (some .int) 2 := ⟨⟨xwd_in (xm2 (j := 111) rfl) rfl, xwd_in (xm1 (j := 1) rfl) rfl, by decide +kernel⟩, xwd_in (xm2 (j := 109) rfl) rfl, xwd_in (xm2 (j := 110) rfl) rfl⟩
theorem mv_X6_what : xMv yX6_what cX6_what 1 (some .int) 0 := ⟨⟨xwd_in (xm2 (j := 115) rfl) rfl, xwd_in (xm1 (j := 1) rfl) rfl, by decide +kernel⟩, xwd_in (xm2 (j := 113) rfl) rfl, xwd_in (xm2 (j := 114) rfl) rfl⟩
theorem mv_X6_failed : xMv yX6_failed cX6_failed 1 (some .int) 0 := ⟨⟨xwd_in (xm2 (j := 119) rfl) rfl, xwd_in (xm1 (j := 1) rfl) rfl, by decide +kernel⟩, xwd_in (xm2 (j := 117) rfl) rfl, xwd_in (xm2 (j := 118) rfl) rfl⟩
theorem mv_X6_counted : xMv yX6_counted cX6_counted 1 (some .long) 0 := ⟨⟨xwd_in (xm2 (j := 123) rfl) rfl, xwd_in (xm1 (j := 1) rfl) rfl, by decide +kernel⟩, xwd_in (xm2 (j := 121) rfl) rfl, xwd_in (xm2 (j := 122) rfl) rfl⟩
theorem mv_X6_batch : xMv yX6_batch cX6_batch 5 (some .int) 1 := ⟨⟨xwd_in (xm2 (j := 127) rfl) rfl, xwd_in (xm1 (j := 1) rfl) rfl, by decide +kernel⟩, xwd_in (xm2 (j := 125) rfl) rfl, xwd_in (xm2 (j := 126) rfl) rfl⟩
theorem mv_X6_isOriginal : xMv yX6_isOriginal cX6_isOriginal 3 (some .boolean) 1 := ⟨⟨xwd_in (xm2 (j := 131) rfl) rfl, xwd_in (xm1 (j := 1) rfl) rfl, by decide +kernel⟩, xwd_in (xm2 (j := 130) rfl) rfl, xwd_in (xmp (j := 17) rfl) rfl⟩
theorem mv_X6_joinBatch : xMv yX6_joinBatch cX6_joinBatch 3 (some .boolean) 1 := ⟨⟨xwd_in (xm2 (j := 135) rfl) rfl, xwd_in (xm1 (j := 1) rfl) rfl, by decide +kernel⟩, xwd_in (xm2 (j := 134) rfl) rfl, xwd_in (xmp (j := 18) rfl) rfl⟩
theorem mv_X6_undo : xMv yX6_undo cX6_undo 3 (some .int) 0 := ⟨⟨xwd_in (xm2 (j := 139) rfl) rfl, xwd_in (xm1 (j := 1) rfl) rfl, by decide +kernel⟩, xwd_in (xm2 (j := 137) rfl) rfl, xwd_in (xm2 (j := 138) rfl) rfl⟩
theorem mv_X6_leaveBatch : xMv yX6_leaveBatch cX6_leaveBatch 3 (some .boolean) 1 := ⟨⟨xwd_in (xm2 (j := 143) rfl) rfl, xwd_in (xm1 (j := 1) rfl) rfl, by decide +kernel⟩, xwd_in (xm2 (j := 142) rfl) rfl, xwd_in (xmp (j := 19) rfl) rfl⟩
theorem mv_X6_hasDerived : xMv yX6_hasDerived cX6_hasDerived 4 (some .boolean) 1 := ⟨⟨xwd_in (xm2 (j := 147) rfl) rfl, xwd_in (xm1 (j := 1) rfl) rfl, by decide +kernel⟩, xwd_in (xm2 (j := 146) rfl) rfl, xwd_in (xmp (j := 20) rfl) rfl⟩
theorem mv_X6_dismiss : xMv yX6_dismiss cX6_dismiss 3 (some .int) 1 := ⟨⟨xwd_in (xm2 (j := 151) rfl) rfl, xwd_in (xm1 (j := 1) rfl) rfl, by decide +kernel⟩, xwd_in (xm2 (j := 150) rfl) rfl, xwd_in (xmp (j := 21) rfl) rfl⟩
theorem mv_X6_drop : xMv yX6_drop cX6_drop 2 (some .int) 1 := ⟨⟨xwd_in (xm2 (j := 155) rfl) rfl, xwd_in (xm1 (j := 1) rfl) rfl, by decide +kernel⟩, xwd_in (xm2 (j := 153) rfl) rfl, xwd_in (xm2 (j := 154) rfl) rfl⟩
theorem mv_X6_about : xMv yX6_about cX6_about 4 (some .int) 2 := ⟨⟨xwd_in (xm2 (j := 159) rfl) rfl, xwd_in (xm1 (j := 1) rfl) rfl, by decide +kernel⟩, xwd_in (xm2 (j := 157) rfl) rfl, xwd_in (xm2 (j := 158) rfl) rfl⟩
theorem mv_X6_tried : xMv yX6_tried cX6_tried 2 (some .int) 1 := ⟨⟨xwd_in (xm2 (j := 163) rfl) rfl, xwd_in (xm1 (j := 1) rfl) rfl, by decide +kernel⟩, xwd_in (xm2 (j := 161) rfl) rfl, xwd_in (xm2 (j := 162) rfl) rfl⟩
theorem ms_L_cell : xMs yL_cell cL_cell 2 (some .int) 2 := ⟨⟨xwd_in (xm2 (j := 167) rfl) rfl, xwd_in (xm1 (j := 0) rfl) rfl, by decide +kernel⟩, xwd_in (xm2 (j := 166) rfl) rfl⟩
theorem mv_X6_read : xMv yX6_read cX6_read 1 (some .int) 0 := ⟨⟨xwd_in (xm2 (j := 175) rfl) rfl, xwd_in (xm1 (j := 1) rfl) rfl, by decide +kernel⟩, xwd_in (xm2 (j := 173) rfl) rfl, xwd_in (xm2 (j := 174) rfl) rfl⟩
theorem mv_X5_parse : xMv yX5_parse cX5_parse 5 (some .int) 0 := ⟨⟨xwd_in (xm2 (j := 179) rfl) rfl, xwd_in (xm1 (j := 2) rfl) rfl, by decide +kernel⟩, xwd_in (xm2 (j := 177) rfl) rfl, xwd_in (xm2 (j := 178) rfl) rfl⟩
theorem mv_X5_signAt : xMv yX5_signAt cX5_signAt 2 (some .int) 1 := ⟨⟨xwd_in (xm2 (j := 183) rfl) rfl, xwd_in (xm1 (j := 2) rfl) rfl, by decide +kernel⟩, xwd_in (xm2 (j := 182) rfl) rfl, xwd_in (xmp (j := 22) rfl) rfl⟩
theorem ms_X5_isLetter : xMs yX5_isLetter cX5_isLetter 1 (some .boolean) 1 := ⟨⟨xwd_in (xm2 (j := 186) rfl) rfl, xwd_in (xm1 (j := 2) rfl) rfl, by decide +kernel⟩, xwd_in (xm2 (j := 185) rfl) rfl⟩
theorem mv_J0_indexOf_0f7a4 : xMv yJ0_indexOf_0f7a4 cJ0_indexOf_0f7a4 2 (some .int) 1 := ⟨⟨xwd_in (xm2 (j := 191) rfl) rfl, xwd_in (xm1 (j := 7) rfl) rfl, by decide +kernel⟩, xwd_in (xm2 (j := 189) rfl) rfl, xwd_in (xm2 (j := 190) rfl) rfl⟩
theorem mv_J0_indexOf_7cf53 : xMv yJ0_indexOf_7cf53 cJ0_indexOf_7cf53 3 (some .int) 2 := ⟨⟨xwd_in (xm2 (j := 195) rfl) rfl, xwd_in (xm1 (j := 7) rfl) rfl, by decide +kernel⟩, xwd_in (xm2 (j := 193) rfl) rfl, xwd_in (xm2 (j := 194) rfl) rfl⟩
theorem mv_J0_isLatin1_aae02 : xMv yJ0_isLatin1_aae02 cJ0_isLatin1_aae02 1 (some .boolean) 0 := ⟨⟨xwd_in (xm2 (j := 199) rfl) rfl, xwd_in (xm1 (j := 7) rfl) rfl, by decide +kernel⟩, xwd_in (xm2 (j := 197) rfl) rfl, xwd_in (xm2 (j := 198) rfl) rfl⟩
theorem mv_J0_length_8abf5 : xMv yJ0_length_8abf5 cJ0_length_8abf5 1 (some .int) 0 := ⟨⟨xwd_in (xm2 (j := 205) rfl) rfl, xwd_in (xm1 (j := 7) rfl) rfl, by decide +kernel⟩, xwd_in (xm2 (j := 203) rfl) rfl, xwd_in (xm2 (j := 204) rfl) rfl⟩
theorem mv_J0_coder_7d493 : xMv yJ0_coder_7d493 cJ0_coder_7d493 1 (some .byte) 0 := ⟨⟨xwd_in (xm2 (j := 209) rfl) rfl, xwd_in (xm1 (j := 7) rfl) rfl, by decide +kernel⟩, xwd_in (xm2 (j := 207) rfl) rfl, xwd_in (xm2 (j := 208) rfl) rfl⟩
theorem ms_J1_indexOf_4cfef : xMs yJ1_indexOf_4cfef cJ1_indexOf_4cfef 4 (some .int) 4 := ⟨⟨xwd_in (xm2 (j := 212) rfl) rfl, xwd_in (xm1 (j := 8) rfl) rfl, by decide +kernel⟩, xwd_in (xm2 (j := 211) rfl) rfl⟩
theorem ms_J1_canEncode_9a6ad : xMs yJ1_canEncode_9a6ad cJ1_canEncode_9a6ad 1 (some .boolean) 1 := ⟨⟨xwd_in (xm2 (j := 215) rfl) rfl, xwd_in (xm1 (j := 8) rfl) rfl, by decide +kernel⟩, xwd_in (xm2 (j := 214) rfl) rfl⟩
theorem ms_J1_indexOfChar_4cfef : xMs yJ1_indexOfChar_4cfef cJ1_indexOfChar_4cfef 6 (some .int) 4 := ⟨⟨xwd_in (xm2 (j := 220) rfl) rfl, xwd_in (xm1 (j := 8) rfl) rfl, by decide +kernel⟩, xwd_in (xm2 (j := 219) rfl) rfl⟩
theorem ms_J2_indexOf_4cfef : xMs yJ2_indexOf_4cfef cJ2_indexOf_4cfef 4 (some .int) 4 := ⟨⟨xwd_in (xm2 (j := 223) rfl) rfl, xwd_in (xm1 (j := 9) rfl) rfl, by decide +kernel⟩, xwd_in (xm2 (j := 222) rfl) rfl⟩
theorem ms_J2_indexOfChar_4cfef : xMs yJ2_indexOfChar_4cfef cJ2_indexOfChar_4cfef 4 (some .int) 4 := ⟨⟨xwd_in (xm2 (j := 229) rfl) rfl, xwd_in (xm1 (j := 9) rfl) rfl, by decide +kernel⟩, xwd_in (xm2 (j := 228) rfl) rfl⟩
theorem ms_J2_checkBoundsBeginEnd_d044e : xMs yJ2_checkBoundsBeginEnd_d044e cJ2_checkBoundsBeginEnd_d044e 3 none 3 := ⟨⟨xwd_in (xm2 (j := 232) rfl) rfl, xwd_in (xm1 (j := 9) rfl) rfl, by decide +kernel⟩, xwd_in (xm2 (j := 231) rfl) rfl⟩
theorem ms_J2_length_9d52b : xMs yJ2_length_9d52b cJ2_length_9d52b 1 (some .int) 1 := ⟨⟨xwd_in (xm2 (j := 235) rfl) rfl, xwd_in (xm1 (j := 9) rfl) rfl, by decide +kernel⟩, xwd_in (xm2 (j := 234) rfl) rfl⟩
theorem ms_J0_checkBoundsBeginEnd_23922 : xMs yJ0_checkBoundsBeginEnd_23922 cJ0_checkBoundsBeginEnd_23922 3 none 3 := ⟨⟨xwd_in (xm2 (j := 238) rfl) rfl, xwd_in (xm1 (j := 7) rfl) rfl, by decide +kernel⟩, xwd_in (xm2 (j := 237) rfl) rfl⟩
theorem ms_J3_checkFromToIndex_8c36e : xMs yJ3_checkFromToIndex_8c36e cJ3_checkFromToIndex_8c36e 4 (some .int) 4 := ⟨⟨xwd_in (xm3 (j := 3) rfl) rfl, xwd_in (xm1 (j := 10) rfl) rfl, by decide +kernel⟩, xwd_in (xm3 (j := 2) rfl) rfl⟩
theorem ms_J2_indexOfCharUnsafe_4cfef : xMs yJ2_indexOfCharUnsafe_4cfef cJ2_indexOfCharUnsafe_4cfef 5 (some .int) 4 := ⟨⟨xwd_in (xm3 (j := 6) rfl) rfl, xwd_in (xm1 (j := 9) rfl) rfl, by decide +kernel⟩, xwd_in (xm3 (j := 5) rfl) rfl⟩
theorem ms_J2_getChar_3b067 : xMs yJ2_getChar_3b067 cJ2_getChar_3b067 2 (some .char) 2 := ⟨⟨xwd_in (xm3 (j := 9) rfl) rfl, xwd_in (xm1 (j := 9) rfl) rfl, by decide +kernel⟩, xwd_in (xm3 (j := 8) rfl) rfl⟩
theorem ms_J2_indexOfSupplementary_4cfef : xMs yJ2_indexOfSupplementary_4cfef cJ2_indexOfSupplementary_4cfef 7 (some .int) 4 := ⟨⟨xwd_in (xm3 (j := 18) rfl) rfl, xwd_in (xm1 (j := 9) rfl) rfl, by decide +kernel⟩, xwd_in (xm3 (j := 17) rfl) rfl⟩
theorem ms_J11_isValidCodePoint_9a6ad : xMs yJ11_isValidCodePoint_9a6ad cJ11_isValidCodePoint_9a6ad 2 (some .boolean) 1 := ⟨⟨xwd_in (xm3 (j := 21) rfl) rfl, xwd_in (xm1 (j := 11) rfl) rfl, by decide +kernel⟩, xwd_in (xm3 (j := 20) rfl) rfl⟩
theorem ms_J11_highSurrogate_5068e : xMs yJ11_highSurrogate_5068e cJ11_highSurrogate_5068e 1 (some .char) 1 := ⟨⟨xwd_in (xm3 (j := 24) rfl) rfl, xwd_in (xm1 (j := 11) rfl) rfl, by decide +kernel⟩, xwd_in (xm3 (j := 23) rfl) rfl⟩
theorem ms_J11_lowSurrogate_5068e : xMs yJ11_lowSurrogate_5068e cJ11_lowSurrogate_5068e 1 (some .char) 1 := ⟨⟨xwd_in (xm3 (j := 28) rfl) rfl, xwd_in (xm1 (j := 11) rfl) rfl, by decide +kernel⟩, xwd_in (xm3 (j := 27) rfl) rfl⟩
theorem mv_X5_digitsFrom : xMv yX5_digitsFrom cX5_digitsFrom 3 (some .int) 1 := ⟨⟨xwd_in (xm3 (j := 33) rfl) rfl, xwd_in (xm1 (j := 2) rfl) rfl, by decide +kernel⟩, xwd_in (xm3 (j := 32) rfl) rfl, xwd_in (xmp (j := 23) rfl) rfl⟩
theorem ms_X5_isDigit : xMs yX5_isDigit cX5_isDigit 1 (some .boolean) 1 := ⟨⟨xwd_in (xm3 (j := 36) rfl) rfl, xwd_in (xm1 (j := 2) rfl) rfl, by decide +kernel⟩, xwd_in (xm3 (j := 35) rfl) rfl⟩
theorem mv_X5_numberFrom : xMv yX5_numberFrom cX5_numberFrom 5 (some .int) 2 := ⟨⟨xwd_in (xm3 (j := 40) rfl) rfl, xwd_in (xm1 (j := 2) rfl) rfl, by decide +kernel⟩, xwd_in (xm3 (j := 39) rfl) rfl, xwd_in (xmp (j := 24) rfl) rfl⟩
theorem mv_X5_clear : xMv yX5_clear cX5_clear 1 none 0 := ⟨⟨xwd_in (xm3 (j := 44) rfl) rfl, xwd_in (xm1 (j := 2) rfl) rfl, by decide +kernel⟩, xwd_in (xm3 (j := 42) rfl) rfl, xwd_in (xm3 (j := 43) rfl) rfl⟩
theorem mv_X5_parsed : xMv yX5_parsed cX5_parsed 1 (some (.object "MigrateSteps$Script")) 0 := ⟨⟨xwd_in (xm3 (j := 115) rfl) rfl, xwd_in (xm1 (j := 2) rfl) rfl, by decide +kernel⟩, xwd_in (xm3 (j := 113) rfl) rfl, xwd_in (xm3 (j := 114) rfl) rfl⟩
theorem mi_X4_init : xMi yX4_init cX4_init 3 2 := ⟨⟨xwd_in (xm3 (j := 121) rfl) rfl, xwd_in (xm1 (j := 16) rfl) rfl, by decide +kernel⟩, xwd_in (xm3 (j := 120) rfl) rfl, rfl⟩
theorem mi_X1_init : xMi yX1_init cX1_init 1 0 := ⟨⟨xwd_in (xm3 (j := 127) rfl) rfl, xwd_in (xm1 (j := 19) rfl) rfl, by decide +kernel⟩, xwd_in (xm3 (j := 126) rfl) rfl, rfl⟩
theorem mv_X6_at : xMv yX6_at cX6_at 5 (some .int) 2 := ⟨⟨xwd_in (xm3 (j := 167) rfl) rfl, xwd_in (xm1 (j := 1) rfl) rfl, by decide +kernel⟩, xwd_in (xm3 (j := 165) rfl) rfl, xwd_in (xm3 (j := 166) rfl) rfl⟩
theorem mi_Jx00060_init_a7421 : xMi yJx00060_init_a7421 cJx00060_init_a7421 2 1 := ⟨⟨xwd_in (xm3 (j := 182) rfl) rfl, xwd_in (xm1 (j := 22) rfl) rfl, by decide +kernel⟩, xwd_in (xm3 (j := 181) rfl) rfl, rfl⟩
theorem mi_X7_init : xMi yX7_init cX7_init 4 2 := ⟨⟨xwd_in (xm3 (j := 193) rfl) rfl, xwd_in (xm1 (j := 6) rfl) rfl, by decide +kernel⟩, xwd_in (xm3 (j := 192) rfl) rfl, rfl⟩
theorem mv_X7_thrown : xMv yX7_thrown cX7_thrown 1 (some .int) 0 := ⟨⟨xwd_in (xm4 (j := 56) rfl) rfl, xwd_in (xm1 (j := 6) rfl) rfl, by decide +kernel⟩, xwd_in (xm4 (j := 54) rfl) rfl, xwd_in (xm4 (j := 55) rfl) rfl⟩
theorem mv_X7_sign : xMv yX7_sign cX7_sign 2 none 1 := ⟨⟨xwd_in (xm4 (j := 60) rfl) rfl, xwd_in (xm1 (j := 6) rfl) rfl, by decide +kernel⟩, xwd_in (xm4 (j := 58) rfl) rfl, xwd_in (xm4 (j := 59) rfl) rfl⟩
theorem mv_X7_read : xMv yX7_read cX7_read 2 (some .int) 0 := ⟨⟨xwd_in (xm4 (j := 64) rfl) rfl, xwd_in (xm1 (j := 6) rfl) rfl, by decide +kernel⟩, xwd_in (xm4 (j := 62) rfl) rfl, xwd_in (xm4 (j := 63) rfl) rfl⟩
theorem mv_X7_reads : xMv yX7_reads cX7_reads 3 (some .boolean) 0 := ⟨⟨xwd_in (xm4 (j := 68) rfl) rfl, xwd_in (xm1 (j := 6) rfl) rfl, by decide +kernel⟩, xwd_in (xm4 (j := 67) rfl) rfl, xwd_in (xmp (j := 26) rfl) rfl⟩
theorem mv_X7_command : xMv yX7_command cX7_command 4 (some .boolean) 1 := ⟨⟨xwd_in (xm4 (j := 72) rfl) rfl, xwd_in (xm1 (j := 6) rfl) rfl, by decide +kernel⟩, xwd_in (xm4 (j := 71) rfl) rfl, xwd_in (xmp (j := 27) rfl) rfl⟩
theorem mv_X7_look : xMv yX7_look cX7_look 1 (some .int) 0 := ⟨⟨xwd_in (xm4 (j := 76) rfl) rfl, xwd_in (xm1 (j := 6) rfl) rfl, by decide +kernel⟩, xwd_in (xm4 (j := 75) rfl) rfl, xwd_in (xmp (j := 28) rfl) rfl⟩
theorem ms_X7_isLetter : xMs yX7_isLetter cX7_isLetter 1 (some .boolean) 1 := ⟨⟨xwd_in (xm4 (j := 79) rfl) rfl, xwd_in (xm1 (j := 6) rfl) rfl, by decide +kernel⟩, xwd_in (xm4 (j := 78) rfl) rfl⟩
theorem ms_X7_in : xMs yX7_in cX7_in 3 (some .boolean) 3 := ⟨⟨xwd_in (xm4 (j := 82) rfl) rfl, xwd_in (xm1 (j := 6) rfl) rfl, by decide +kernel⟩, xwd_in (xm4 (j := 81) rfl) rfl⟩
theorem mv_X7_place : xMv yX7_place cX7_place 1 (some .int) 0 := ⟨⟨xwd_in (xm4 (j := 86) rfl) rfl, xwd_in (xm1 (j := 6) rfl) rfl, by decide +kernel⟩, xwd_in (xm4 (j := 84) rfl) rfl, xwd_in (xm4 (j := 85) rfl) rfl⟩
theorem mv_X7_octet : xMv yX7_octet cX7_octet 2 none 1 := ⟨⟨xwd_in (xm4 (j := 90) rfl) rfl, xwd_in (xm1 (j := 6) rfl) rfl, by decide +kernel⟩, xwd_in (xm4 (j := 88) rfl) rfl, xwd_in (xm4 (j := 89) rfl) rfl⟩
theorem mv_X7_original : xMv yX7_original cX7_original 2 (some .int) 0 := ⟨⟨xwd_in (xm4 (j := 94) rfl) rfl, xwd_in (xm1 (j := 6) rfl) rfl, by decide +kernel⟩, xwd_in (xm4 (j := 92) rfl) rfl, xwd_in (xm4 (j := 93) rfl) rfl⟩
theorem mv_X7_check : xMv yX7_check cX7_check 6 (some .int) 4 := ⟨⟨xwd_in (xm4 (j := 98) rfl) rfl, xwd_in (xm1 (j := 6) rfl) rfl, by decide +kernel⟩, xwd_in (xm4 (j := 96) rfl) rfl, xwd_in (xm4 (j := 97) rfl) rfl⟩
theorem mv_X7_isScript : xMv yX7_isScript cX7_isScript 2 (some .boolean) 1 := ⟨⟨xwd_in (xm4 (j := 102) rfl) rfl, xwd_in (xm1 (j := 6) rfl) rfl, by decide +kernel⟩, xwd_in (xm4 (j := 101) rfl) rfl, xwd_in (xmp (j := 29) rfl) rfl⟩
theorem mv_X7_migrate : xMv yX7_migrate cX7_migrate 4 (some .int) 2 := ⟨⟨xwd_in (xm4 (j := 106) rfl) rfl, xwd_in (xm1 (j := 6) rfl) rfl, by decide +kernel⟩, xwd_in (xm4 (j := 104) rfl) rfl, xwd_in (xm4 (j := 105) rfl) rfl⟩
theorem mv_X7_can : xMv yX7_can cX7_can 3 (some .boolean) 2 := ⟨⟨xwd_in (xm4 (j := 110) rfl) rfl, xwd_in (xm1 (j := 6) rfl) rfl, by decide +kernel⟩, xwd_in (xm4 (j := 109) rfl) rfl, xwd_in (xmp (j := 30) rfl) rfl⟩
theorem mv_X7_isItem : xMv yX7_isItem cX7_isItem 2 (some .boolean) 1 := ⟨⟨xwd_in (xm4 (j := 114) rfl) rfl, xwd_in (xm1 (j := 6) rfl) rfl, by decide +kernel⟩, xwd_in (xm4 (j := 113) rfl) rfl, xwd_in (xmp (j := 31) rfl) rfl⟩
theorem mv_X7_derive : xMv yX7_derive cX7_derive 5 (some .int) 2 := ⟨⟨xwd_in (xm4 (j := 118) rfl) rfl, xwd_in (xm1 (j := 6) rfl) rfl, by decide +kernel⟩, xwd_in (xm4 (j := 117) rfl) rfl, xwd_in (xmp (j := 32) rfl) rfl⟩
theorem mv_X7_hasDerived : xMv yX7_hasDerived cX7_hasDerived 5 (some .boolean) 2 := ⟨⟨xwd_in (xm4 (j := 122) rfl) rfl, xwd_in (xm1 (j := 6) rfl) rfl, by decide +kernel⟩, xwd_in (xm4 (j := 121) rfl) rfl, xwd_in (xmp (j := 33) rfl) rfl⟩
theorem mv_X7_allHold : xMv yX7_allHold cX7_allHold 8 (some .boolean) 2 := ⟨⟨xwd_in (xm4 (j := 126) rfl) rfl, xwd_in (xm1 (j := 6) rfl) rfl, by decide +kernel⟩, xwd_in (xm4 (j := 125) rfl) rfl, xwd_in (xmp (j := 34) rfl) rfl⟩
theorem ms_X7_holds : xMs yX7_holds cX7_holds 5 (some .boolean) 5 := ⟨⟨xwd_in (xm4 (j := 129) rfl) rfl, xwd_in (xm1 (j := 6) rfl) rfl, by decide +kernel⟩, xwd_in (xm4 (j := 128) rfl) rfl⟩
theorem mv_X7_run : xMv yX7_run cX7_run 10 (some .int) 2 := ⟨⟨xwd_in (xm4 (j := 133) rfl) rfl, xwd_in (xm1 (j := 6) rfl) rfl, by decide +kernel⟩, xwd_in (xm4 (j := 132) rfl) rfl, xwd_in (xmp (j := 35) rfl) rfl⟩
theorem mv_X7_put : xMv yX7_put cX7_put 4 none 2 := ⟨⟨xwd_in (xm4 (j := 137) rfl) rfl, xwd_in (xm1 (j := 6) rfl) rfl, by decide +kernel⟩, xwd_in (xm4 (j := 136) rfl) rfl, xwd_in (xmp (j := 36) rfl) rfl⟩
theorem mv_X7_chain : xMv yX7_chain cX7_chain 4 (some .int) 2 := ⟨⟨xwd_in (xm4 (j := 142) rfl) rfl, xwd_in (xm1 (j := 6) rfl) rfl, by decide +kernel⟩, xwd_in (xm4 (j := 140) rfl) rfl, xwd_in (xm4 (j := 141) rfl) rfl⟩
theorem mv_X7_goesOn : xMv yX7_goesOn cX7_goesOn 7 (some .int) 2 := ⟨⟨xwd_in (xm4 (j := 146) rfl) rfl, xwd_in (xm1 (j := 6) rfl) rfl, by decide +kernel⟩, xwd_in (xm4 (j := 144) rfl) rfl, xwd_in (xm4 (j := 145) rfl) rfl⟩
theorem mv_X7_what : xMv yX7_what cX7_what 1 (some .int) 0 := ⟨⟨xwd_in (xm4 (j := 150) rfl) rfl, xwd_in (xm1 (j := 6) rfl) rfl, by decide +kernel⟩, xwd_in (xm4 (j := 148) rfl) rfl, xwd_in (xm4 (j := 149) rfl) rfl⟩
theorem mv_X7_failed : xMv yX7_failed cX7_failed 1 (some .int) 0 := ⟨⟨xwd_in (xm4 (j := 154) rfl) rfl, xwd_in (xm1 (j := 6) rfl) rfl, by decide +kernel⟩, xwd_in (xm4 (j := 152) rfl) rfl, xwd_in (xm4 (j := 153) rfl) rfl⟩
theorem mv_X7_counted : xMv yX7_counted cX7_counted 1 (some .long) 0 := ⟨⟨xwd_in (xm4 (j := 158) rfl) rfl, xwd_in (xm1 (j := 6) rfl) rfl, by decide +kernel⟩, xwd_in (xm4 (j := 156) rfl) rfl, xwd_in (xm4 (j := 157) rfl) rfl⟩
theorem mv_X7_batch : xMv yX7_batch cX7_batch 6 (some .int) 1 := ⟨⟨xwd_in (xm4 (j := 162) rfl) rfl, xwd_in (xm1 (j := 6) rfl) rfl, by decide +kernel⟩, xwd_in (xm4 (j := 160) rfl) rfl, xwd_in (xm4 (j := 161) rfl) rfl⟩
theorem mv_X7_undo : xMv yX7_undo cX7_undo 4 (some .int) 0 := ⟨⟨xwd_in (xm4 (j := 166) rfl) rfl, xwd_in (xm1 (j := 6) rfl) rfl, by decide +kernel⟩, xwd_in (xm4 (j := 164) rfl) rfl, xwd_in (xm4 (j := 165) rfl) rfl⟩
theorem mv_X7_goes : xMv yX7_goes cX7_goes 2 (some .boolean) 1 := ⟨⟨xwd_in (xm4 (j := 170) rfl) rfl, xwd_in (xm1 (j := 6) rfl) rfl, by decide +kernel⟩, xwd_in (xm4 (j := 169) rfl) rfl, xwd_in (xmp (j := 37) rfl) rfl⟩
theorem mv_X7_drop : xMv yX7_drop cX7_drop 2 (some .int) 1 := ⟨⟨xwd_in (xm4 (j := 174) rfl) rfl, xwd_in (xm1 (j := 6) rfl) rfl, by decide +kernel⟩, xwd_in (xm4 (j := 172) rfl) rfl, xwd_in (xm4 (j := 173) rfl) rfl⟩
theorem mv_X7_about : xMv yX7_about cX7_about 4 (some .int) 2 := ⟨⟨xwd_in (xm4 (j := 178) rfl) rfl, xwd_in (xm1 (j := 6) rfl) rfl, by decide +kernel⟩, xwd_in (xm4 (j := 176) rfl) rfl, xwd_in (xm4 (j := 177) rfl) rfl⟩
theorem mv_X7_at : xMv yX7_at cX7_at 3 (some .int) 2 := ⟨⟨xwd_in (xm4 (j := 182) rfl) rfl, xwd_in (xm1 (j := 6) rfl) rfl, by decide +kernel⟩, xwd_in (xm4 (j := 180) rfl) rfl, xwd_in (xm4 (j := 181) rfl) rfl⟩
theorem mv_X7_tried : xMv yX7_tried cX7_tried 2 (some .int) 1 := ⟨⟨xwd_in (xm4 (j := 186) rfl) rfl, xwd_in (xm1 (j := 6) rfl) rfl, by decide +kernel⟩, xwd_in (xm4 (j := 184) rfl) rfl, xwd_in (xm4 (j := 185) rfl) rfl⟩
theorem oi_i : Cond.instanceMethod objectInit ∈ xwd := xwd_in (xm1 (j := 29) rfl) rfl
theorem oi_c : Cond.code objectInit ⟨#[0xb1]⟩ 1 none ∈ xwd := xwd_in (xm1 (j := 30) rfl) rfl
theorem df_X0 : ∀ j, j < 2 → defaultValue (xty 0 j) = vp_V [.null, .int 0] j := by
  intro j hj
  rcases (show j = 0 ∨ j = 1 by omega) with rfl | rfl <;> rfl
theorem df_X1 : ∀ j, j < 3 → defaultValue (xty 1 j) = vp_V [.null, .null, .int 0] j := by
  intro j hj
  rcases (show j = 0 ∨ j = 1 ∨ j = 2 by omega) with rfl | rfl | rfl <;> rfl
theorem df_X2 : ∀ j, j < 6 → defaultValue (xty 2 j) = vp_V [.null, .int 0, .int 0, .int 0, .int 0, .int 0] j := by
  intro j hj
  rcases (show j = 0 ∨ j = 1 ∨ j = 2 ∨ j = 3 ∨ j = 4 ∨ j = 5 by omega) with rfl | rfl | rfl | rfl | rfl | rfl <;> rfl
theorem df_X3 : ∀ j, j < 9 → defaultValue (xty 3 j) = vp_V [.int 0, .null, .null, .int 0, .int 0, .int 0, .int 0, .int 0, .long 0] j := by
  intro j hj
  rcases (show j = 0 ∨ j = 1 ∨ j = 2 ∨ j = 3 ∨ j = 4 ∨ j = 5 ∨ j = 6 ∨ j = 7 ∨ j = 8 by omega) with rfl | rfl | rfl | rfl | rfl | rfl | rfl | rfl | rfl <;> rfl
theorem df_X4 : ∀ j, j < 5 → defaultValue (xty 4 j) = vp_V [.null, .null, .null, .null, .int 0] j := by
  intro j hj
  rcases (show j = 0 ∨ j = 1 ∨ j = 2 ∨ j = 3 ∨ j = 4 by omega) with rfl | rfl | rfl | rfl | rfl <;> rfl
theorem df_X5 : ∀ j, j < 5 → defaultValue (xty 5 j) = vp_V [.null, .null, .null, .int 0, .int 0] j := by
  intro j hj
  rcases (show j = 0 ∨ j = 1 ∨ j = 2 ∨ j = 3 ∨ j = 4 by omega) with rfl | rfl | rfl | rfl | rfl <;> rfl
theorem df_X6 : ∀ j, j < 10 → defaultValue (xty 6 j) = vp_V [.null, .null, .null, .null, .null, .int 0, .int 0, .int 0, .int 0, .int 0] j := by
  intro j hj
  rcases (show j = 0 ∨ j = 1 ∨ j = 2 ∨ j = 3 ∨ j = 4 ∨ j = 5 ∨ j = 6 ∨ j = 7 ∨ j = 8 ∨ j = 9 by omega) with rfl | rfl | rfl | rfl | rfl | rfl | rfl | rfl | rfl | rfl <;> rfl
theorem df_X7 : ∀ j, j < 32 → defaultValue (xty 7 j) = vp_V [.int 0, .int 0, .int 0, .int 0, .null, .int 0, .int 0, .int 0, .null, .null, .null, .null, .null, .null, .null, .int 0, .null, .int 0, .null, .null, .null, .null, .null, .null, .int 0, .null, .int 0, .int 0, .int 0, .null, .null, .long 0] j := by
  intro j hj
  rcases (show j = 0 ∨ j = 1 ∨ j = 2 ∨ j = 3 ∨ j = 4 ∨ j = 5 ∨ j = 6 ∨ j = 7 ∨ j = 8 ∨ j = 9 ∨ j = 10 ∨ j = 11 ∨ j = 12 ∨ j = 13 ∨ j = 14 ∨ j = 15 ∨ j = 16 ∨ j = 17 ∨ j = 18 ∨ j = 19 ∨ j = 20 ∨ j = 21 ∨ j = 22 ∨ j = 23 ∨ j = 24 ∨ j = 25 ∨ j = 26 ∨ j = 27 ∨ j = 28 ∨ j = 29 ∨ j = 30 ∨ j = 31 by omega) with rfl | rfl | rfl | rfl | rfl | rfl | rfl | rfl | rfl | rfl | rfl | rfl | rfl | rfl | rfl | rfl | rfl | rfl | rfl | rfl | rfl | rfl | rfl | rfl | rfl | rfl | rfl | rfl | rfl | rfl | rfl | rfl <;> rfl
end
section
/-! ===== calls by the number of their arguments; rooms ===== -/
def xrm (d c s : Nat) : Room := { frames := d, cells := c, slots := s, locals := 32 * d }
theorem xle {a b : Nat} (h : Nat.ble a b = true) : a ≤ b := Nat.le_of_ble_eq_true h
section XCALL
variable {p : Program} {l : Launch} {e : Env} {R : Room} {s : State} {m : MethodId} {args : Array Value} {below : List Frame} {meth : Method} {c : Code} {G : xG} {ad0 : xAd} {h0 : xH} {nL : Nat} {Z : State → Prop} {pc : Nat} {ls : List (Nat × Value)} {rest : List Value} {ad : xAd} {h : xH} {k n : Nat} {own : String} {cc : ByteArray} {r : Option FieldType} {nm : String}
variable {y : MethodName} {b : ByteArray} {ml idx : Nat} {ry : Option FieldType} {rm : Room} {sp : xSp} {q : Nat}
theorem x_callV0 (F : xF p s m args meth c G ad0 h0 own cc nL r nm) (t : Tg) {ci : Nat} {fs : List Value} {T : u_T} {N : Nat} (C : Ct y b ml ry rm sp) (hd : decode cc pc = .ok (.invokevirtual idx, 3)) (hp : pc + 3 = q) (hm : xMv y b ml ry 0) (hl : Cond.methodLink own idx y ∈ xwd) (hf : xFit rm R ml k n) (hc : xcl[ci]? = some (y.cls, T, N)) (ht : h t = some (.inr (ci, fs))) (hroom : (rest.map fun v => v.category).sum ≤ 8) (kk : sp ad h [.ref (ad t)] (fun v ad' h' => xExt ad h ad' h' → xX p l e R s m args below meth c G ad0 h0 nL Z q ls (v.toList ++ rest) ad' h' (k + rm.cells) (n + rm.slots))) : xX p l e R s m args below meth c G ad0 h0 nL Z pc ls (.ref (ad t) :: rest) ad h k n := x_callV (As := []) F t C hd hp hm hl hf rfl hc ht hroom kk
theorem x_callS0 (F : xF p s m args meth c G ad0 h0 own cc nL r nm) (C : Ct y b ml ry rm sp) (hd : decode cc pc = .ok (.invokestatic idx, 3)) (hp : pc + 3 = q) (hm : xMs y b ml ry 0) (hl : Cond.methodLink own idx y ∈ xwd) (hf : xFit rm R ml k n) (hroom : (rest.map fun v => v.category).sum ≤ 8) (kk : sp ad h [] (fun v ad' h' => xExt ad h ad' h' → xX p l e R s m args below meth c G ad0 h0 nL Z q ls (v.toList ++ rest) ad' h' (k + rm.cells) (n + rm.slots))) : xX p l e R s m args below meth c G ad0 h0 nL Z pc ls (rest) ad h k n := x_callS (As := []) F C hd hp hm hl hf rfl hroom kk
theorem x_callI0 (F : xF p s m args meth c G ad0 h0 own cc nL r nm) (t : Tg) (C : Ct y b ml none rm sp) (hd : decode cc pc = .ok (.invokespecial idx, 3)) (hp : pc + 3 = q) (hm : xMi y b ml 0) (hl : Cond.methodLink own idx y ∈ xwd) (hf : xFit rm R ml k n) (hroom : (rest.map fun v => v.category).sum ≤ 8) (kk : sp ad h [.ref (ad t)] (fun v ad' h' => xExt ad h ad' h' → xX p l e R s m args below meth c G ad0 h0 nL Z q ls (v.toList ++ rest) ad' h' (k + rm.cells) (n + rm.slots))) : xX p l e R s m args below meth c G ad0 h0 nL Z pc ls (.ref (ad t) :: rest) ad h k n := x_callI (As := []) F t C hd hp hm hl hf rfl hroom kk
theorem x_callN0 (F : xF p s m args meth c G ad0 h0 own cc nL r nm) (t : Tg) (host : String) (C : Ct y b ml none rm sp) (hd : decode cc pc = .ok (.invokespecial idx, 3)) (hp : pc + 3 = q) (hm : xMi y b ml 0) (hl : Cond.methodLinkNest own idx y host ∈ xnw) (hf : xFit rm R ml k n) (hroom : (rest.map fun v => v.category).sum ≤ 8) (kk : sp ad h [.ref (ad t)] (fun v ad' h' => xExt ad h ad' h' → xX p l e R s m args below meth c G ad0 h0 nL Z q ls (v.toList ++ rest) ad' h' (k + rm.cells) (n + rm.slots))) : xX p l e R s m args below meth c G ad0 h0 nL Z pc ls (.ref (ad t) :: rest) ad h k n := x_callIN (As := []) F t host C hd hp hm hl hf rfl hroom kk
theorem x_callV1 (F : xF p s m args meth c G ad0 h0 own cc nL r nm) (t : Tg) {ci : Nat} {fs : List Value} {T : u_T} {N : Nat} {a1 : Value} (C : Ct y b ml ry rm sp) (hd : decode cc pc = .ok (.invokevirtual idx, 3)) (hp : pc + 3 = q) (hm : xMv y b ml ry 1) (hl : Cond.methodLink own idx y ∈ xwd) (hf : xFit rm R ml k n) (hc : xcl[ci]? = some (y.cls, T, N)) (ht : h t = some (.inr (ci, fs))) (hroom : (rest.map fun v => v.category).sum ≤ 8) (kk : sp ad h [.ref (ad t), a1] (fun v ad' h' => xExt ad h ad' h' → xX p l e R s m args below meth c G ad0 h0 nL Z q ls (v.toList ++ rest) ad' h' (k + rm.cells) (n + rm.slots))) : xX p l e R s m args below meth c G ad0 h0 nL Z pc ls (a1 :: .ref (ad t) :: rest) ad h k n := x_callV (As := [a1]) F t C hd hp hm hl hf rfl hc ht hroom kk
theorem x_callS1 (F : xF p s m args meth c G ad0 h0 own cc nL r nm) {a1 : Value} (C : Ct y b ml ry rm sp) (hd : decode cc pc = .ok (.invokestatic idx, 3)) (hp : pc + 3 = q) (hm : xMs y b ml ry 1) (hl : Cond.methodLink own idx y ∈ xwd) (hf : xFit rm R ml k n) (hroom : (rest.map fun v => v.category).sum ≤ 8) (kk : sp ad h [a1] (fun v ad' h' => xExt ad h ad' h' → xX p l e R s m args below meth c G ad0 h0 nL Z q ls (v.toList ++ rest) ad' h' (k + rm.cells) (n + rm.slots))) : xX p l e R s m args below meth c G ad0 h0 nL Z pc ls (a1 :: rest) ad h k n := x_callS (As := [a1]) F C hd hp hm hl hf rfl hroom kk
theorem x_callI1 (F : xF p s m args meth c G ad0 h0 own cc nL r nm) (t : Tg) {a1 : Value} (C : Ct y b ml none rm sp) (hd : decode cc pc = .ok (.invokespecial idx, 3)) (hp : pc + 3 = q) (hm : xMi y b ml 1) (hl : Cond.methodLink own idx y ∈ xwd) (hf : xFit rm R ml k n) (hroom : (rest.map fun v => v.category).sum ≤ 8) (kk : sp ad h [.ref (ad t), a1] (fun v ad' h' => xExt ad h ad' h' → xX p l e R s m args below meth c G ad0 h0 nL Z q ls (v.toList ++ rest) ad' h' (k + rm.cells) (n + rm.slots))) : xX p l e R s m args below meth c G ad0 h0 nL Z pc ls (a1 :: .ref (ad t) :: rest) ad h k n := x_callI (As := [a1]) F t C hd hp hm hl hf rfl hroom kk
theorem x_callN1 (F : xF p s m args meth c G ad0 h0 own cc nL r nm) (t : Tg) (host : String) {a1 : Value} (C : Ct y b ml none rm sp) (hd : decode cc pc = .ok (.invokespecial idx, 3)) (hp : pc + 3 = q) (hm : xMi y b ml 1) (hl : Cond.methodLinkNest own idx y host ∈ xnw) (hf : xFit rm R ml k n) (hroom : (rest.map fun v => v.category).sum ≤ 8) (kk : sp ad h [.ref (ad t), a1] (fun v ad' h' => xExt ad h ad' h' → xX p l e R s m args below meth c G ad0 h0 nL Z q ls (v.toList ++ rest) ad' h' (k + rm.cells) (n + rm.slots))) : xX p l e R s m args below meth c G ad0 h0 nL Z pc ls (a1 :: .ref (ad t) :: rest) ad h k n := x_callIN (As := [a1]) F t host C hd hp hm hl hf rfl hroom kk
theorem x_callV2 (F : xF p s m args meth c G ad0 h0 own cc nL r nm) (t : Tg) {ci : Nat} {fs : List Value} {T : u_T} {N : Nat} {a1 a2 : Value} (C : Ct y b ml ry rm sp) (hd : decode cc pc = .ok (.invokevirtual idx, 3)) (hp : pc + 3 = q) (hm : xMv y b ml ry 2) (hl : Cond.methodLink own idx y ∈ xwd) (hf : xFit rm R ml k n) (hc : xcl[ci]? = some (y.cls, T, N)) (ht : h t = some (.inr (ci, fs))) (hroom : (rest.map fun v => v.category).sum ≤ 8) (kk : sp ad h [.ref (ad t), a1, a2] (fun v ad' h' => xExt ad h ad' h' → xX p l e R s m args below meth c G ad0 h0 nL Z q ls (v.toList ++ rest) ad' h' (k + rm.cells) (n + rm.slots))) : xX p l e R s m args below meth c G ad0 h0 nL Z pc ls (a2 :: a1 :: .ref (ad t) :: rest) ad h k n := x_callV (As := [a1, a2]) F t C hd hp hm hl hf rfl hc ht hroom kk
theorem x_callS2 (F : xF p s m args meth c G ad0 h0 own cc nL r nm) {a1 a2 : Value} (C : Ct y b ml ry rm sp) (hd : decode cc pc = .ok (.invokestatic idx, 3)) (hp : pc + 3 = q) (hm : xMs y b ml ry 2) (hl : Cond.methodLink own idx y ∈ xwd) (hf : xFit rm R ml k n) (hroom : (rest.map fun v => v.category).sum ≤ 8) (kk : sp ad h [a1, a2] (fun v ad' h' => xExt ad h ad' h' → xX p l e R s m args below meth c G ad0 h0 nL Z q ls (v.toList ++ rest) ad' h' (k + rm.cells) (n + rm.slots))) : xX p l e R s m args below meth c G ad0 h0 nL Z pc ls (a2 :: a1 :: rest) ad h k n := x_callS (As := [a1, a2]) F C hd hp hm hl hf rfl hroom kk
theorem x_callI2 (F : xF p s m args meth c G ad0 h0 own cc nL r nm) (t : Tg) {a1 a2 : Value} (C : Ct y b ml none rm sp) (hd : decode cc pc = .ok (.invokespecial idx, 3)) (hp : pc + 3 = q) (hm : xMi y b ml 2) (hl : Cond.methodLink own idx y ∈ xwd) (hf : xFit rm R ml k n) (hroom : (rest.map fun v => v.category).sum ≤ 8) (kk : sp ad h [.ref (ad t), a1, a2] (fun v ad' h' => xExt ad h ad' h' → xX p l e R s m args below meth c G ad0 h0 nL Z q ls (v.toList ++ rest) ad' h' (k + rm.cells) (n + rm.slots))) : xX p l e R s m args below meth c G ad0 h0 nL Z pc ls (a2 :: a1 :: .ref (ad t) :: rest) ad h k n := x_callI (As := [a1, a2]) F t C hd hp hm hl hf rfl hroom kk
theorem x_callN2 (F : xF p s m args meth c G ad0 h0 own cc nL r nm) (t : Tg) (host : String) {a1 a2 : Value} (C : Ct y b ml none rm sp) (hd : decode cc pc = .ok (.invokespecial idx, 3)) (hp : pc + 3 = q) (hm : xMi y b ml 2) (hl : Cond.methodLinkNest own idx y host ∈ xnw) (hf : xFit rm R ml k n) (hroom : (rest.map fun v => v.category).sum ≤ 8) (kk : sp ad h [.ref (ad t), a1, a2] (fun v ad' h' => xExt ad h ad' h' → xX p l e R s m args below meth c G ad0 h0 nL Z q ls (v.toList ++ rest) ad' h' (k + rm.cells) (n + rm.slots))) : xX p l e R s m args below meth c G ad0 h0 nL Z pc ls (a2 :: a1 :: .ref (ad t) :: rest) ad h k n := x_callIN (As := [a1, a2]) F t host C hd hp hm hl hf rfl hroom kk
theorem x_callV3 (F : xF p s m args meth c G ad0 h0 own cc nL r nm) (t : Tg) {ci : Nat} {fs : List Value} {T : u_T} {N : Nat} {a1 a2 a3 : Value} (C : Ct y b ml ry rm sp) (hd : decode cc pc = .ok (.invokevirtual idx, 3)) (hp : pc + 3 = q) (hm : xMv y b ml ry 3) (hl : Cond.methodLink own idx y ∈ xwd) (hf : xFit rm R ml k n) (hc : xcl[ci]? = some (y.cls, T, N)) (ht : h t = some (.inr (ci, fs))) (hroom : (rest.map fun v => v.category).sum ≤ 8) (kk : sp ad h [.ref (ad t), a1, a2, a3] (fun v ad' h' => xExt ad h ad' h' → xX p l e R s m args below meth c G ad0 h0 nL Z q ls (v.toList ++ rest) ad' h' (k + rm.cells) (n + rm.slots))) : xX p l e R s m args below meth c G ad0 h0 nL Z pc ls (a3 :: a2 :: a1 :: .ref (ad t) :: rest) ad h k n := x_callV (As := [a1, a2, a3]) F t C hd hp hm hl hf rfl hc ht hroom kk
theorem x_callS3 (F : xF p s m args meth c G ad0 h0 own cc nL r nm) {a1 a2 a3 : Value} (C : Ct y b ml ry rm sp) (hd : decode cc pc = .ok (.invokestatic idx, 3)) (hp : pc + 3 = q) (hm : xMs y b ml ry 3) (hl : Cond.methodLink own idx y ∈ xwd) (hf : xFit rm R ml k n) (hroom : (rest.map fun v => v.category).sum ≤ 8) (kk : sp ad h [a1, a2, a3] (fun v ad' h' => xExt ad h ad' h' → xX p l e R s m args below meth c G ad0 h0 nL Z q ls (v.toList ++ rest) ad' h' (k + rm.cells) (n + rm.slots))) : xX p l e R s m args below meth c G ad0 h0 nL Z pc ls (a3 :: a2 :: a1 :: rest) ad h k n := x_callS (As := [a1, a2, a3]) F C hd hp hm hl hf rfl hroom kk
theorem x_callI3 (F : xF p s m args meth c G ad0 h0 own cc nL r nm) (t : Tg) {a1 a2 a3 : Value} (C : Ct y b ml none rm sp) (hd : decode cc pc = .ok (.invokespecial idx, 3)) (hp : pc + 3 = q) (hm : xMi y b ml 3) (hl : Cond.methodLink own idx y ∈ xwd) (hf : xFit rm R ml k n) (hroom : (rest.map fun v => v.category).sum ≤ 8) (kk : sp ad h [.ref (ad t), a1, a2, a3] (fun v ad' h' => xExt ad h ad' h' → xX p l e R s m args below meth c G ad0 h0 nL Z q ls (v.toList ++ rest) ad' h' (k + rm.cells) (n + rm.slots))) : xX p l e R s m args below meth c G ad0 h0 nL Z pc ls (a3 :: a2 :: a1 :: .ref (ad t) :: rest) ad h k n := x_callI (As := [a1, a2, a3]) F t C hd hp hm hl hf rfl hroom kk
theorem x_callN3 (F : xF p s m args meth c G ad0 h0 own cc nL r nm) (t : Tg) (host : String) {a1 a2 a3 : Value} (C : Ct y b ml none rm sp) (hd : decode cc pc = .ok (.invokespecial idx, 3)) (hp : pc + 3 = q) (hm : xMi y b ml 3) (hl : Cond.methodLinkNest own idx y host ∈ xnw) (hf : xFit rm R ml k n) (hroom : (rest.map fun v => v.category).sum ≤ 8) (kk : sp ad h [.ref (ad t), a1, a2, a3] (fun v ad' h' => xExt ad h ad' h' → xX p l e R s m args below meth c G ad0 h0 nL Z q ls (v.toList ++ rest) ad' h' (k + rm.cells) (n + rm.slots))) : xX p l e R s m args below meth c G ad0 h0 nL Z pc ls (a3 :: a2 :: a1 :: .ref (ad t) :: rest) ad h k n := x_callIN (As := [a1, a2, a3]) F t host C hd hp hm hl hf rfl hroom kk
theorem x_callV4 (F : xF p s m args meth c G ad0 h0 own cc nL r nm) (t : Tg) {ci : Nat} {fs : List Value} {T : u_T} {N : Nat} {a1 a2 a3 a4 : Value} (C : Ct y b ml ry rm sp) (hd : decode cc pc = .ok (.invokevirtual idx, 3)) (hp : pc + 3 = q) (hm : xMv y b ml ry 4) (hl : Cond.methodLink own idx y ∈ xwd) (hf : xFit rm R ml k n) (hc : xcl[ci]? = some (y.cls, T, N)) (ht : h t = some (.inr (ci, fs))) (hroom : (rest.map fun v => v.category).sum ≤ 8) (kk : sp ad h [.ref (ad t), a1, a2, a3, a4] (fun v ad' h' => xExt ad h ad' h' → xX p l e R s m args below meth c G ad0 h0 nL Z q ls (v.toList ++ rest) ad' h' (k + rm.cells) (n + rm.slots))) : xX p l e R s m args below meth c G ad0 h0 nL Z pc ls (a4 :: a3 :: a2 :: a1 :: .ref (ad t) :: rest) ad h k n := x_callV (As := [a1, a2, a3, a4]) F t C hd hp hm hl hf rfl hc ht hroom kk
theorem x_callS4 (F : xF p s m args meth c G ad0 h0 own cc nL r nm) {a1 a2 a3 a4 : Value} (C : Ct y b ml ry rm sp) (hd : decode cc pc = .ok (.invokestatic idx, 3)) (hp : pc + 3 = q) (hm : xMs y b ml ry 4) (hl : Cond.methodLink own idx y ∈ xwd) (hf : xFit rm R ml k n) (hroom : (rest.map fun v => v.category).sum ≤ 8) (kk : sp ad h [a1, a2, a3, a4] (fun v ad' h' => xExt ad h ad' h' → xX p l e R s m args below meth c G ad0 h0 nL Z q ls (v.toList ++ rest) ad' h' (k + rm.cells) (n + rm.slots))) : xX p l e R s m args below meth c G ad0 h0 nL Z pc ls (a4 :: a3 :: a2 :: a1 :: rest) ad h k n := x_callS (As := [a1, a2, a3, a4]) F C hd hp hm hl hf rfl hroom kk
theorem x_callI4 (F : xF p s m args meth c G ad0 h0 own cc nL r nm) (t : Tg) {a1 a2 a3 a4 : Value} (C : Ct y b ml none rm sp) (hd : decode cc pc = .ok (.invokespecial idx, 3)) (hp : pc + 3 = q) (hm : xMi y b ml 4) (hl : Cond.methodLink own idx y ∈ xwd) (hf : xFit rm R ml k n) (hroom : (rest.map fun v => v.category).sum ≤ 8) (kk : sp ad h [.ref (ad t), a1, a2, a3, a4] (fun v ad' h' => xExt ad h ad' h' → xX p l e R s m args below meth c G ad0 h0 nL Z q ls (v.toList ++ rest) ad' h' (k + rm.cells) (n + rm.slots))) : xX p l e R s m args below meth c G ad0 h0 nL Z pc ls (a4 :: a3 :: a2 :: a1 :: .ref (ad t) :: rest) ad h k n := x_callI (As := [a1, a2, a3, a4]) F t C hd hp hm hl hf rfl hroom kk
theorem x_callN4 (F : xF p s m args meth c G ad0 h0 own cc nL r nm) (t : Tg) (host : String) {a1 a2 a3 a4 : Value} (C : Ct y b ml none rm sp) (hd : decode cc pc = .ok (.invokespecial idx, 3)) (hp : pc + 3 = q) (hm : xMi y b ml 4) (hl : Cond.methodLinkNest own idx y host ∈ xnw) (hf : xFit rm R ml k n) (hroom : (rest.map fun v => v.category).sum ≤ 8) (kk : sp ad h [.ref (ad t), a1, a2, a3, a4] (fun v ad' h' => xExt ad h ad' h' → xX p l e R s m args below meth c G ad0 h0 nL Z q ls (v.toList ++ rest) ad' h' (k + rm.cells) (n + rm.slots))) : xX p l e R s m args below meth c G ad0 h0 nL Z pc ls (a4 :: a3 :: a2 :: a1 :: .ref (ad t) :: rest) ad h k n := x_callIN (As := [a1, a2, a3, a4]) F t host C hd hp hm hl hf rfl hroom kk
theorem x_callV5 (F : xF p s m args meth c G ad0 h0 own cc nL r nm) (t : Tg) {ci : Nat} {fs : List Value} {T : u_T} {N : Nat} {a1 a2 a3 a4 a5 : Value} (C : Ct y b ml ry rm sp) (hd : decode cc pc = .ok (.invokevirtual idx, 3)) (hp : pc + 3 = q) (hm : xMv y b ml ry 5) (hl : Cond.methodLink own idx y ∈ xwd) (hf : xFit rm R ml k n) (hc : xcl[ci]? = some (y.cls, T, N)) (ht : h t = some (.inr (ci, fs))) (hroom : (rest.map fun v => v.category).sum ≤ 8) (kk : sp ad h [.ref (ad t), a1, a2, a3, a4, a5] (fun v ad' h' => xExt ad h ad' h' → xX p l e R s m args below meth c G ad0 h0 nL Z q ls (v.toList ++ rest) ad' h' (k + rm.cells) (n + rm.slots))) : xX p l e R s m args below meth c G ad0 h0 nL Z pc ls (a5 :: a4 :: a3 :: a2 :: a1 :: .ref (ad t) :: rest) ad h k n := x_callV (As := [a1, a2, a3, a4, a5]) F t C hd hp hm hl hf rfl hc ht hroom kk
theorem x_callS5 (F : xF p s m args meth c G ad0 h0 own cc nL r nm) {a1 a2 a3 a4 a5 : Value} (C : Ct y b ml ry rm sp) (hd : decode cc pc = .ok (.invokestatic idx, 3)) (hp : pc + 3 = q) (hm : xMs y b ml ry 5) (hl : Cond.methodLink own idx y ∈ xwd) (hf : xFit rm R ml k n) (hroom : (rest.map fun v => v.category).sum ≤ 8) (kk : sp ad h [a1, a2, a3, a4, a5] (fun v ad' h' => xExt ad h ad' h' → xX p l e R s m args below meth c G ad0 h0 nL Z q ls (v.toList ++ rest) ad' h' (k + rm.cells) (n + rm.slots))) : xX p l e R s m args below meth c G ad0 h0 nL Z pc ls (a5 :: a4 :: a3 :: a2 :: a1 :: rest) ad h k n := x_callS (As := [a1, a2, a3, a4, a5]) F C hd hp hm hl hf rfl hroom kk
theorem x_callI5 (F : xF p s m args meth c G ad0 h0 own cc nL r nm) (t : Tg) {a1 a2 a3 a4 a5 : Value} (C : Ct y b ml none rm sp) (hd : decode cc pc = .ok (.invokespecial idx, 3)) (hp : pc + 3 = q) (hm : xMi y b ml 5) (hl : Cond.methodLink own idx y ∈ xwd) (hf : xFit rm R ml k n) (hroom : (rest.map fun v => v.category).sum ≤ 8) (kk : sp ad h [.ref (ad t), a1, a2, a3, a4, a5] (fun v ad' h' => xExt ad h ad' h' → xX p l e R s m args below meth c G ad0 h0 nL Z q ls (v.toList ++ rest) ad' h' (k + rm.cells) (n + rm.slots))) : xX p l e R s m args below meth c G ad0 h0 nL Z pc ls (a5 :: a4 :: a3 :: a2 :: a1 :: .ref (ad t) :: rest) ad h k n := x_callI (As := [a1, a2, a3, a4, a5]) F t C hd hp hm hl hf rfl hroom kk
theorem x_callN5 (F : xF p s m args meth c G ad0 h0 own cc nL r nm) (t : Tg) (host : String) {a1 a2 a3 a4 a5 : Value} (C : Ct y b ml none rm sp) (hd : decode cc pc = .ok (.invokespecial idx, 3)) (hp : pc + 3 = q) (hm : xMi y b ml 5) (hl : Cond.methodLinkNest own idx y host ∈ xnw) (hf : xFit rm R ml k n) (hroom : (rest.map fun v => v.category).sum ≤ 8) (kk : sp ad h [.ref (ad t), a1, a2, a3, a4, a5] (fun v ad' h' => xExt ad h ad' h' → xX p l e R s m args below meth c G ad0 h0 nL Z q ls (v.toList ++ rest) ad' h' (k + rm.cells) (n + rm.slots))) : xX p l e R s m args below meth c G ad0 h0 nL Z pc ls (a5 :: a4 :: a3 :: a2 :: a1 :: .ref (ad t) :: rest) ad h k n := x_callIN (As := [a1, a2, a3, a4, a5]) F t host C hd hp hm hl hf rfl hroom kk
end XCALL
end
section
/-! ===== rows for System.arraycopy, clone() and checkcast of int arrays ===== -/
section XJDK
variable {p : Program} {l : Launch} {e : Env} {R : Room} {s : State} {m : MethodId} {args : Array Value} {below : List Frame} {meth : Method} {c : Code} {G : xG} {ad0 : xAd} {h0 : xH} {nL : Nat} {Z : State → Prop} {pc : Nat} {ls : List (Nat × Value)} {st : List Value} {ad : xAd} {h : xH} {k n : Nat} {own : String} {cc : ByteArray} {r : Option FieldType} {nm : String}
theorem x_arraycopy (F : xF p s m args meth c G ad0 h0 own cc nL r nm) {t u : Tg} {n0 n1 sp dp w idx : Nat} {x y z : Int32} {f g : Nat → Int32} {q : Nat} (hd : decode cc pc = .ok (.invokestatic idx, 3)) (hp : pc + 3 = q) (hw : Cond.methodLink own idx arraycopyName ∈ xwd ∧ Cond.native arraycopyName ∈ xwd ∧ Cond.static arraycopyName ∈ xwd ∧ Cond.initialized "java/lang/System" ∈ xwd) (ht : h t = some (.inl (0, n0, .inl f))) (hu : h u = some (.inl (0, n1, .inl g)))
    (hx : x = nI sp) (hy : y = nI dp) (hz : z = nI w) (h1 : sp + w ≤ n0) (h2 : dp + w ≤ n1) (h3 : n0 < 2 ^ 31) (h4 : n1 < 2 ^ 31) (hfr : 1 ≤ R.frames) (hlo : (st.map fun v => v.category).sum + (nativeFrameWords "java/lang/System" "arraycopy" 5 + 11) ≤ R.locals)
    (kk : xX p l e R s m args below meth c G ad0 h0 nL Z q ls st ad (xup h u (.inl (0, n1, .inl (va_cpy f g sp dp w)))) k n) : xX p l e R s m args below meth c G ad0 h0 nL Z pc ls (.int z :: .int y :: .ref (ad u) :: .int x :: .ref (ad t) :: st) ad h k n := by
  subst hp; subst hx; subst hy; subst hz
  intro H locs la hR hS hL hE
  have hts := F.2.2.2.2.1
  have hK := F.2.2.2.2.2.2.1.1
  intro T hT X
  have hc0 : H[ad t]? = some (vp_cell (G.2.1 0) (n0, .inl f)) := (hR.1 t _ ht).1
  have hc1 : H[ad u]? = some (vp_cell (G.2.1 0) (n1, .inl g)) := (hR.1 u _ hu).1
  obtain ⟨-, k0, hk0, cm0, hkk0⟩ := (hK.2 0 _ rfl).1 n0 (fun j => .int (f j))
  obtain ⟨-, k1, hk1, cm1, hkk1⟩ := (hK.2 0 _ rfl).1 n1 (fun j => .int (g j))
  have c1 : (nI sp).toNatClampNeg = sp := nI_clamp (by omega)
  have c2 : (nI dp).toNatClampNeg = dp := nI_clamp (by omega)
  have c3 : (nI w).toNatClampNeg = w := nI_clamp (by omega)
  have t1 : (nI sp).toInt = (sp : Int) := nI_toInt (by omega)
  have t2 : (nI dp).toInt = (dp : Int) := nI_toInt (by omega)
  have t3 : (nI w).toInt = (w : Int) := nI_toInt (by omega)
  obtain ⟨vm', X', step⟩ := X.arraycopy F.1 F.2.2.2.1 (hts _ hw.1) (hts _ hw.2.1) (hts _ hw.2.2.1) (hts _ hw.2.2.2) (src := ad t) (dst := ad u) (cs := vp_cell (G.2.1 0) (n0, .inl f)) (cd := vp_cell (G.2.1 0) (n1, .inl g)) (srcPos := nI sp) (destPos := nI dp) (n := nI w) (by rw [hT]; exact hc0) (by rw [hT]; exact hc1)
    (fun _ h => by cases h) (fun _ h => by cases h) (fun h => by cases h) (fun h => by cases h) hk0 hk1 hkk0 hkk1 rfl (nI_pos (by omega)) (nI_pos (by omega)) (nI_pos (by omega))
    (by rw [t1, t3]; show ¬ _ > ((arrV (G.2.1 0) n0 (fun j => .int (f j))).slots.size : Int); rw [arrV_size]; omega)
    (by rw [t2, t3]; show ¬ _ > ((arrV (G.2.1 0) n1 (fun j => .int (g j))).slots.size : Int); rw [arrV_size]; omega)
    (fun vm₁ _ i hi => by
      rw [c3] at hi
      rw [c1]
      have e : (vp_cell (G.2.1 0) (n0, .inl f)).slots.getD (sp + i) .null = .int (f (sp + i)) := by
        show (arrV (G.2.1 0) n0 (fun j => .int (f j))).slots.getD _ _ = _
        rw [Array.getD_eq_getD_getElem?, arrV_read _ _ (by omega)]
        rfl
      refine ⟨?_, ?_⟩
      · rw [e]
        rfl
      · rw [e]
        exact trivial)
    (g := F0 m pc la (.int (nI w) :: .int (nI dp) :: .ref (ad u) :: .int (nI sp) :: .ref (ad t) :: st)) rfl (by rw [F.2.2.1]; exact hL.1.1) (rest := st) rfl (by rw [F.2.1]; exact hd) hfr (by show 2 * 0 + _ + _ ≤ _; omega)
  have e1 : copied (vp_cell (G.2.1 0) (n0, .inl f)) (vp_cell (G.2.1 0) (n1, .inl g)) (nI sp) (nI dp) (nI w) = vp_cell (G.2.1 0) (n1, .inl (va_cpy f g sp dp w)) := by
    have := va_copied (fun z => .int z) (G.2.1 0) (G.2.1 0) (sp := (nI sp).toNatClampNeg) (dp := (nI dp).toNatClampNeg) (n := (nI w).toNatClampNeg) (n0 := n0) (n1 := n1) f g (by rw [c1, c3]; exact h1)
    rw [c1, c2, c3] at this
    unfold copied
    rw [c1, c2, c3]
    exact this
  rw [e1] at X' step
  have hl : ad u < H.size := (Array.getElem?_eq_some_iff.mp hc1).1
  have hheap : ((T.setVm vm').setCell (ad u) (vp_cell (G.2.1 0) (n1, .inl (va_cpy f g sp dp w)))).heap = H.setIfInBounds (ad u) (vp_cell (G.2.1 0) (n1, .inl (va_cpy f g sp dp w))) := by rw [← hT]; rfl
  have oq : ∀ q : Nat, q ≠ ad u → (H.setIfInBounds (ad u) (vp_cell (G.2.1 0) (n1, .inl (va_cpy f g sp dp w))))[q]? = H[q]? := fun q hq => by simp [Array.getElem?_setIfInBounds, Ne.symm hq]
  obtain ⟨t', a1, b1⟩ := kk _ _ la (hR.set hu (show (H.setIfInBounds (ad u) _)[ad u]? = some _ by simp [Array.getElem?_setIfInBounds, hl, xe]) oq) ⟨by simp; exact hS.1, fun q g1 g2 => by
      rw [oq q (fun e => g2 (by rw [e]; exact (hR.1 u _ hu).2))]
      exact hS.2.1 q g1 g2, fun q hq => by
      rcases List.mem_append.mp hq with h | h
      · exact hS.2.2 q h
      · obtain ⟨z, -, hz⟩ := List.mem_map.mp h
        rw [← hz]
        exact (hR.1 u _ hu).2⟩ hL (hE.tr xExt.up) _ hheap X'
  exact ⟨t', step t' a1, b1⟩
theorem x_clone (F : xF p s m args meth c G ad0 h0 own cc nL r nm) (u : Tg) {t : Tg} {N idx : Nat} {f : Nat → Int32} {q : Nat} (hd : decode cc pc = .ok (.invokevirtual idx, 3)) (hp : pc + 3 = q)
    (hw : Cond.methodLink own idx ⟨"[I", "clone", "()Ljava/lang/Object;"⟩ ∈ xwd ∧ Cond.sameMethod "[I" "java/lang/Object" "clone" "()Ljava/lang/Object;" ∈ xwd ∧ Cond.native ⟨"java/lang/Object", "clone", "()Ljava/lang/Object;"⟩ ∈ xwd ∧ Cond.instanceMethod ⟨"java/lang/Object", "clone", "()Ljava/lang/Object;"⟩ ∈ xwd ∧ Cond.selects "[I" ⟨"[I", "clone", "()Ljava/lang/Object;"⟩ ⟨"java/lang/Object", "clone", "()Ljava/lang/Object;"⟩ ∈ xwd) (hcl : Cond.castable "[I" "java/lang/Cloneable" ∈ xnw)
    (ht : h t = some (.inl (0, N, .inl f))) (hu : h u = none) (hfr : 1 ≤ R.frames) (hlo : (st.map fun v => v.category).sum + 14 ≤ R.locals) (h1 : k + 1 ≤ R.cells) (h2 : n + N ≤ R.slots)
    (kk : ∀ ad' : xAd, (∀ v, v ≠ u → ad' v = ad v) → xX p l e R s m args below meth c G ad0 h0 nL Z q ls (.ref (ad' u) :: st) ad' (xup h u (.inl (0, N, .inl f))) (k + 1) (n + N)) : xX p l e R s m args below meth c G ad0 h0 nL Z pc ls (.ref (ad t) :: st) ad h k n := by
  subst hp
  intro H locs la hR hS hL hE
  have hts := F.2.2.2.2.1
  have hK := F.2.2.2.2.2.2.1.1
  have hnm : s.vm.findClass "[I" = some (G.2.1 0) := (hK.2 0 _ rfl).2
  obtain ⟨c0, t0', f1, f2, f3⟩ := Cond.castable_spec (va_Nw.use (A := args) rfl (F.2.2.2.2.2.2.1.2.1 _ hcl))
  cases hnm.symm.trans f1
  intro T hT X
  have hcellT : T.heap[ad t]? = some (vp_cell (G.2.1 0) (N, .inl f)) := by rw [hT]; exact (hR.1 t _ ht).1
  obtain ⟨-, kA, hkA, comp, hkind⟩ := State.isArrayOf_alike X.warmed.alike ((hK.2 0 _ rfl).1 0 (fun _ => .null))
  obtain ⟨-, kS, hkS, compS, hkindS⟩ := (hK.2 0 _ rfl).1 0 (fun _ => .null)
  have hsz : (vp_cell (G.2.1 0) (N, .inl f)).slots.size = N := arrV_size _ _ _
  obtain ⟨vm', X', step⟩ := X.cloneArray F.1 F.2.2.2.1 (hts _ hw.1) (hts _ hw.2.1) (hts _ hw.2.2.1) (hts _ hw.2.2.2.1) (hts _ hw.2.2.2.2) (a := ad t) (cell := vp_cell (G.2.1 0) (N, .inl f)) hcellT (fun k h => by cases h) (fun h => by cases h) hnm f2 f3
    (fun i v hv => by
      have hk' : T.vm.classes[G.2.1 0]? = some kA := hkA
      have hi : i < N := by have := (Array.getElem?_eq_some_iff.mp hv).1; rw [hsz] at this; exact this
      have hv' : (arrV (G.2.1 0) N (fun j => .int (f j))).slots[i]? = some v := hv
      rw [arrV_read _ _ hi] at hv'
      cases hv'
      show T.fitsSlot (G.2.1 0) .none i (.int (f i)) = true
      simp [State.fitsSlot, State.slotType?, hk', hkind, fits])
    (g := F0 m pc la (.ref (ad t) :: st)) rfl (by rw [F.2.2.1]; exact hL.1.1) rfl (by rw [F.2.1]; exact hd) hfr (by show 2 * 0 + _ + 14 ≤ _; omega) h1 (by rw [hsz]; exact h2) (hloader := Vm.clonesLoader_of_array hkS hkindS)
  rw [hsz] at X'
  generalize hH1 : H.push (vp_cell (G.2.1 0) (N, .inl f)) = H1
  have z1 : H1.size = H.size + 1 := by rw [← hH1, Array.size_push]
  have e1 : H1[H.size]? = some (vp_cell (G.2.1 0) (N, .inl f)) := by rw [← hH1, Array.getElem?_push_size]
  have o1 : ∀ q : Nat, q < H.size → H1[q]? = H[q]? := fun q hq => by rw [← hH1, Array.getElem?_push, if_neg (Nat.ne_of_lt hq)]
  have hR' := hR.new (e := .inl (0, N, .inl f)) hu (show H1[H.size]? = some (vp_cell _ _) from e1) o1 (x_A hS)
  have hX := kk (aup ad u H.size) (fun v hv => aup_ne _ _ hv) H1 locs la hR' (x_Snew hS z1 o1) hL (hE.tr (xExt.new hu))
  rw [aup_self] at hX
  obtain ⟨t', b1, b2⟩ := hX ((T.setVm vm').pushCell (vp_cell (G.2.1 0) (N, .inl f))) (by rw [← hH1, ← hT]; rfl) X'
  refine ⟨t', step t' ?_, b2⟩
  rw [hT]
  exact b1
theorem x_castI (F : xF p s m args meth c G ad0 h0 own cc nL r nm) {t : Tg} {a : vp_A} {idx : Nat} {q : Nat} (hd : decode cc pc = .ok (.checkcast idx, 3)) (hp : pc + 3 = q) (hw : Cond.classLink own idx "[I" ∈ xwd) (ht : h t = some (.inl (0, a))) (kk : xX p l e R s m args below meth c G ad0 h0 nL Z q ls (.ref (ad t) :: st) ad h k n) : xX p l e R s m args below meth c G ad0 h0 nL Z pc ls (.ref (ad t) :: st) ad h k n := by
  subst hp
  intro H locs la hR hS hL hE
  exact va_castA F.1 F.2.1 F.2.2.2.1 (F.2.2.2.2.1 _ hw) (hR.one ht) 0 rfl (F.2.2.2.2.2.2.1.1.2 0 _ rfl).2 hd (kk H locs la hR hS hL hE)
theorem x_mmin (F : xF p s m args meth c G ad0 h0 own cc nL r nm) {x y : Int32} {idx q : Nat} (hd : decode cc pc = .ok (.invokestatic idx, 3)) (hp : pc + 3 = q) (hl : Cond.methodLink own idx Lib.Math.min.name ∈ xwd) (hw : Cond.static Lib.Math.min.name ∈ xwd ∧ Cond.initialized "java/lang/Math" ∈ xwd ∧ Cond.code Lib.Math.min.name Lib.Math.min.code 2 (some .int) ∈ xwd) (hfr : 1 ≤ R.frames) (hlo : (st.map fun v => v.category).sum + 13 ≤ R.locals) (h1 : k ≤ R.cells) (h2 : n ≤ R.slots) (kk : xX p l e R s m args below meth c G ad0 h0 nL Z q ls (.int (if y < x then y else x) :: st) ad h k n) : xX p l e R s m args below meth c G ad0 h0 nL Z pc ls (.int y :: .int x :: st) ad h k n := by
  subst hp
  intro H locs la hR hS hL hE
  exact va_mmin F.1 F.2.1 (F.2.2.1.trans hL.1.1.symm) F.2.2.2.1 (F.2.2.2.2.1 _ hl) (F.2.2.2.2.1 _ hw.1) (F.2.2.2.2.1 _ hw.2.1) (F.2.2.2.2.1 _ hw.2.2) hfr hlo h1 h2 hd (kk H locs la hR hS hL hE)
theorem x_mmax (F : xF p s m args meth c G ad0 h0 own cc nL r nm) {x y : Int32} {idx q : Nat} (hd : decode cc pc = .ok (.invokestatic idx, 3)) (hp : pc + 3 = q) (hl : Cond.methodLink own idx Lib.Math.max.name ∈ xwd) (hw : Cond.static Lib.Math.max.name ∈ xwd ∧ Cond.initialized "java/lang/Math" ∈ xwd ∧ Cond.code Lib.Math.max.name Lib.Math.max.code 2 (some .int) ∈ xwd) (hfr : 1 ≤ R.frames) (hlo : (st.map fun v => v.category).sum + 13 ≤ R.locals) (h1 : k ≤ R.cells) (h2 : n ≤ R.slots) (kk : xX p l e R s m args below meth c G ad0 h0 nL Z q ls (.int (if x < y then y else x) :: st) ad h k n) : xX p l e R s m args below meth c G ad0 h0 nL Z pc ls (.int y :: .int x :: st) ad h k n := by
  subst hp
  intro H locs la hR hS hL hE
  exact va_mmax F.1 F.2.1 (F.2.2.1.trans hL.1.1.symm) F.2.2.2.1 (F.2.2.2.2.1 _ hl) (F.2.2.2.2.1 _ hw.1) (F.2.2.2.2.1 _ hw.2.1) (F.2.2.2.2.1 _ hw.2.2) hfr hlo h1 h2 hd (kk H locs la hR hS hL hE)
end XJDK
theorem mw_min : Cond.static Lib.Math.min.name ∈ xwd ∧ Cond.initialized "java/lang/Math" ∈ xwd ∧ Cond.code Lib.Math.min.name Lib.Math.min.code 2 (some .int) ∈ xwd := ⟨xwd_in (xm1 (j := 77) rfl) rfl, xwd_in (xm1 (j := 5) rfl) rfl, xwd_in (xm1 (j := 78) rfl) rfl⟩
theorem mw_max : Cond.static Lib.Math.max.name ∈ xwd ∧ Cond.initialized "java/lang/Math" ∈ xwd ∧ Cond.code Lib.Math.max.name Lib.Math.max.code 2 (some .int) ∈ xwd := ⟨xwd_in (xm1 (j := 80) rfl) rfl, xwd_in (xm1 (j := 5) rfl) rfl, xwd_in (xm1 (j := 81) rfl) rfl⟩
end
section
/-! ===== Math.min, Math.max, Arrays.fill, Arrays.copyOf ===== -/
theorem x_ent {av : List Value} {n : Nat} (h1 : Nat.ble (lg_sl av).length n = true) (h2 : av.all (fun v => v.category == 1) = true) : (lg_sl av).length ≤ n ∧ ∀ q ∈ lv_args 0 av, q.2.category = 1 := by
  refine ⟨xle h1, ?_⟩
  have key : ∀ (av : List Value) (i : Nat), (∀ v ∈ av, v.category = 1) → ∀ q ∈ lv_args i av, q.2.category = 1 := by
    intro av
    induction av with
    | nil => intro i _ q hq; cases hq
    | cons v vs ih =>
      intro i hv q hq
      rcases List.mem_cons.mp hq with rfl | hq
      · exact hv _ List.mem_cons_self
      · exact ih _ (fun w hw => hv w (List.mem_cons_of_mem _ hw)) q hq
  exact key av 0 (fun v hv => by simpa using List.all_eq_true.mp h2 v hv)
abbrev cI (N : Nat) (f : Nat → Int32) : xE := .inl (0, N, .inl f)
/-- the first i places hold v, the others what they held -/
def filled (f : Nat → Int32) (v : Int32) (i : Nat) : Nat → Int32 := fun j => if j < i then v else f j
theorem filled_0 (f : Nat → Int32) (v : Int32) : filled f v 0 = f := by funext j; unfold filled; rw [if_neg (by omega)]
theorem filled_s (f : Nat → Int32) (v : Int32) (i : Nat) : upd (filled f v i) i v = filled f v (i + 1) := by
  funext j
  unfold upd filled
  by_cases q : j = i
  · rw [if_pos q, if_pos (by omega)]
  · rw [if_neg q]
    by_cases z : j < i
    · rw [if_pos z, if_pos (by omega)]
    · rw [if_neg z, if_neg (by omega)]
def s_fill : xSp := fun ad h av Q => ∃ (t : Tg) (N : Nat) (f : Nat → Int32) (v : Int32), av = [.ref (ad t), .int v] ∧ h t = some (cI N f) ∧ N ≤ 1000 ∧ Q none ad (xup h t (cI N (filled f v N)))
set_option maxRecDepth 100000 in
theorem c_J7_fill_53178 : Ct yJ7_fill_53178 cJ7_fill_53178 4 none (xrm 0 0 0) s_fill := by
  refine Ct.of (by decide) ?_
  intro p l e s m args below meth c G ad h av Q F hsp
  obtain ⟨t, N, f, v, rfl, e1, hN, hQ⟩ := hsp
  refine ⟨x_ent rfl rfl, ?_⟩
  have loop : ∀ i : Nat, i ≤ N → xX p l e (xrm 0 0 0) s m args below meth c G ad h 4 (xZ below G ad h Q args s (xrm 0 0 0)) 5 [(0, .ref (ad t)), (1, .int v), (2, .int (nI i)), (3, .int (nI N))] [] ad (xup h t (cI N (filled f v i))) 0 0 := by
    intro i
    induction hd : N - i using Nat.strongRecOn generalizing i with
    | ind d ih =>
      intro hi
      refine x_iload_n (q := 6) F dJ7_fill_53178_5 rfl rfl ?_
      refine x_iload_n (q := 7) F dJ7_fill_53178_6 rfl rfl ?_
      refine x_icmp_ge (q := 10) F 20 dJ7_fill_53178_7 (by decide) rfl (fun c7 => ?_) (fun c7 => ?_)
      · have : i = N := by have := (nI_leI (by omega) (by omega)).mp c7; omega
        subst this
        refine x_vret F dJ7_fill_53178_20 (xle rfl) (xle rfl) ?_
        exact hQ
      · have hlt : i < N := by
          rcases Nat.lt_or_ge i N with q | q
          · exact q
          · exact absurd ((nI_leI (by omega) (by omega)).mpr q) c7
        refine x_aload_n (q := 11) F dJ7_fill_53178_10 rfl rfl (by first | exact xref_r | exact xref_n | exact xref_f _ | assumption) ?_
        refine x_iload_n (q := 12) F dJ7_fill_53178_11 rfl rfl ?_
        refine x_iload_n (q := 13) F dJ7_fill_53178_12 rfl rfl ?_
        refine x_iast (q := 14) F dJ7_fill_53178_13 rfl (xup_self _ _ _) rfl (by omega) (by omega) ?_
        refine x_h (xup_xup _ _ _ _) ?_
        rw [filled_s]
        refine x_iinc (q := 17) F dJ7_fill_53178_14 rfl rfl (nI_1 i) (by decide) ?_
        refine x_goto F 5 dJ7_fill_53178_17 (by decide) ?_
        refine x_ls [(0, .ref (ad t)), (1, .int v), (2, .int (nI (i + 1))), (3, .int (nI N))] rfl ?_
        exact ih (N - (i + 1)) (by omega) (i + 1) rfl (by omega)
  refine x_iconst (q := 1) (v := 0) F dJ7_fill_53178_0 rfl (by decide) ?_
  refine x_istore_n (q := 2) F dJ7_fill_53178_1 rfl (by decide) ?_
  refine x_aload_n (q := 3) F dJ7_fill_53178_2 rfl rfl (by first | exact xref_r | exact xref_n | exact xref_f _ | assumption) ?_
  refine x_alen (q := 4) F dJ7_fill_53178_3 rfl e1 (by decide) ?_
  refine x_istore_n (q := 5) F dJ7_fill_53178_4 rfl (by decide) ?_
  refine x_ls [(0, .ref (ad t)), (1, .int v), (2, .int (nI 0)), (3, .int (nI N))] rfl ?_
  refine x_h (h2 := xup h t (cI N (filled f v 0))) (by rw [filled_0, xup_same h e1]) ?_
  exact loop 0 (Nat.zero_le _)
theorem xjw : Cond.methodLink RJ7 150 arraycopyName ∈ xwd ∧ Cond.native arraycopyName ∈ xwd ∧ Cond.static arraycopyName ∈ xwd ∧ Cond.initialized "java/lang/System" ∈ xwd := ⟨ml_J7_150, xwd_in (xm1 (j := 193) rfl) rfl, xwd_in (xm1 (j := 192) rfl) rfl, xwd_in (xm1 (j := 18) rfl) rfl⟩
theorem xjc : Cond.methodLink RJ7 316 ⟨"[I", "clone", "()Ljava/lang/Object;"⟩ ∈ xwd ∧ Cond.sameMethod "[I" "java/lang/Object" "clone" "()Ljava/lang/Object;" ∈ xwd ∧ Cond.native ⟨"java/lang/Object", "clone", "()Ljava/lang/Object;"⟩ ∈ xwd ∧ Cond.instanceMethod ⟨"java/lang/Object", "clone", "()Ljava/lang/Object;"⟩ ∈ xwd ∧ Cond.selects "[I" ⟨"[I", "clone", "()Ljava/lang/Object;"⟩ ⟨"java/lang/Object", "clone", "()Ljava/lang/Object;"⟩ ∈ xwd := ⟨ml_J7_316, xwd_in (xm1 (j := 184) rfl) rfl, xwd_in (xm1 (j := 185) rfl) rfl, xwd_in (xm1 (j := 186) rfl) rfl, xwd_in (xm1 (j := 187) rfl) rfl⟩
theorem xjd : Cond.castable "[I" "java/lang/Cloneable" ∈ xnw := List.mem_filter.mpr ⟨xm1 (j := 188) rfl, rfl⟩
/-- a copy of the first n places -/
def s_copyOf : xSp := fun ad h av Q => ∃ (t u : Tg) (N n : Nat) (f : Nat → Int32), av = [.ref (ad t), .int (nI n)] ∧ h t = some (cI N f) ∧ h u = none ∧ n ≤ N ∧ N ≤ 40 ∧
  ∀ (ad' : xAd) (g : Nat → Int32), (∀ v, v ≠ u → ad' v = ad v) → (∀ j, j < n → g j = f j) → Q (some (.ref (ad' u))) ad' (xup h u (cI n g))
set_option maxRecDepth 100000 in
theorem c_J7_copyOf_59c91 : Ct yJ7_copyOf_59c91 cJ7_copyOf_59c91 3 (some (.array .int)) (xrm 1 1 40) s_copyOf := by
  refine Ct.of (by decide) ?_
  intro p l e s m args below meth c G ad h av Q F hsp
  obtain ⟨t, u, N, n, f, rfl, e1, e2, hn, hN, hQ⟩ := hsp
  have htu : t ≠ u := fun z => by rw [z, e2] at e1; cases e1
  refine ⟨x_ent rfl rfl, ?_⟩
  refine x_ls [(0, .ref (ad t)), (1, .int (nI n))] rfl ?_
  refine x_iload_n (q := 1) F dJ7_copyOf_59c91_0 rfl rfl ?_
  refine x_aload_n (q := 2) F dJ7_copyOf_59c91_1 rfl rfl (by first | exact xref_r | exact xref_n | exact xref_f _ | assumption) ?_
  refine x_alen (q := 3) F dJ7_copyOf_59c91_2 rfl e1 (by decide) ?_
  refine x_icmp_ne (q := 6) F 14 dJ7_copyOf_59c91_3 (by decide) rfl (fun c3 => ?_) (fun c3 => ?_)
  · refine x_iload_n (q := 15) F dJ7_copyOf_59c91_14 rfl rfl ?_
    refine x_newaI (q := 17) (N := n) F u dJ7_copyOf_59c91_15 rfl ac_int rfl (by omega) e2 (xle rfl) (by show 0 + n ≤ 40; omega) (fun ad1 E1 => ?_)
    refine x_widen (k2 := 1) (n2 := 40) (by omega) (by omega) ?_
    rw [← E1 t htu]
    refine x_astore_n (q := 18) F dJ7_copyOf_59c91_17 rfl (by decide) (by first | exact xref_r | exact xref_n | exact xref_f _ | assumption) ?_
    refine x_aload_n (q := 19) F dJ7_copyOf_59c91_18 rfl rfl (by first | exact xref_r | exact xref_n | exact xref_f _ | assumption) ?_
    refine x_iconst (q := 20) (v := 0) F dJ7_copyOf_59c91_19 rfl (by decide) ?_
    refine x_aload_n (q := 21) F dJ7_copyOf_59c91_20 rfl rfl (by first | exact xref_r | exact xref_n | exact xref_f _ | assumption) ?_
    refine x_iconst (q := 22) (v := 0) F dJ7_copyOf_59c91_21 rfl (by decide) ?_
    refine x_aload_n (q := 23) F dJ7_copyOf_59c91_22 rfl rfl (by first | exact xref_r | exact xref_n | exact xref_f _ | assumption) ?_
    refine x_alen (q := 24) F dJ7_copyOf_59c91_23 rfl (by rw [xup_ne _ _ htu]; exact e1) (by decide) ?_
    refine x_iload_n (q := 25) F dJ7_copyOf_59c91_24 rfl rfl ?_
    refine x_mmin (q := 28) F dJ7_copyOf_59c91_25 rfl ml_J7_304 mw_min (xle rfl) (xle rfl) (xle rfl) (xle rfl) ?_
    have hmin : (if nI n < nI N then nI n else nI N) = nI n := by
      by_cases q : nI n < nI N
      · rw [if_pos q]
      · rw [if_neg q]
        have hz : ¬ n < N := fun z => q ((nI_ltI (by omega) (by omega)).mpr z)
        rw [show N = n by omega]
    refine x_arraycopy (q := 31) (sp := 0) (dp := 0) (w := n) F dJ7_copyOf_59c91_28 rfl xjw (by rw [xup_ne _ _ htu]; exact e1) (xup_self _ _ _) rfl rfl hmin (by omega) (by omega) (by omega) (by omega) (xle rfl) (xle rfl) ?_
    refine x_aload_n (q := 32) F dJ7_copyOf_59c91_31 rfl rfl (by first | exact xref_r | exact xref_n | exact xref_f _ | assumption) ?_
    refine x_aret F dJ7_copyOf_59c91_32 (xle rfl) (xle rfl) (Or.inr ⟨_, rfl⟩) (by first | exact xref_r | exact xref_n | exact xref_f _ | assumption) ?_
    rw [xup_xup]
    exact hQ ad1 _ E1 (fun j hj => by rw [pk_cpy_in (Nat.zero_le _) (by omega)]; simp)
  · have hNn : n = N := (nI_eq (by omega) (by omega)).mp c3
    subst hNn
    refine x_aload_n (q := 7) F dJ7_copyOf_59c91_6 rfl rfl (by first | exact xref_r | exact xref_n | exact xref_f _ | assumption) ?_
    refine x_clone (q := 10) F u dJ7_copyOf_59c91_7 rfl xjc xjd e1 e2 (xle rfl) (xle rfl) (xle rfl) (by show 0 + n ≤ 40; omega) (fun ad1 E1 => ?_)
    refine x_widen (k2 := 1) (n2 := 40) (by omega) (by omega) ?_
    refine x_castI (q := 13) F dJ7_copyOf_59c91_10 rfl cl_J7_317 (xup_self _ _ _) ?_
    refine x_aret F dJ7_copyOf_59c91_13 (xle rfl) (xle rfl) (Or.inr ⟨_, rfl⟩) (by first | exact xref_r | exact xref_n | exact xref_f _ | assumption) ?_
    exact hQ ad1 f E1 (fun _ _ => rfl)
end
section
/-! ===== ByteRow ===== -/
abbrev cRow (b : Nat) (sz : Int32) : xE := .inr (0, [.ref b, .int sz])
/-- byte x of a row of n bytes, or NONE -/
def rowAt (n : Nat) (f : Nat → Int32) (x : Int32) : Int32 := if x < 0 ∨ n ≤ x.toNatClampNeg then -1 else f x.toNatClampNeg
theorem rowAt_in {n : Nat} {f : Nat → Int32} {j : Nat} (h : j < n) (hn : n < 2 ^ 31) : rowAt n f (nI j) = f j := by
  unfold rowAt
  rw [if_neg (vp_in_nI h hn), nI_clamp (by omega)]
theorem rowAt_neg {n : Nat} {f : Nat → Int32} {x : Int32} (h : x < 0) : rowAt n f x = -1 := if_pos (Or.inl h)
theorem rowAt_ge {n : Nat} {f : Nat → Int32} {x : Int32} (hn : n < 2 ^ 31) (h : nI n ≤ x) : rowAt n f x = -1 := by
  unfold rowAt
  by_cases q : x < 0
  · rw [if_pos (Or.inl q)]
  · obtain ⟨j, hj, rfl⟩ := nI_of q
    rw [if_pos (Or.inr ?_)]
    rw [nI_clamp hj]
    exact (nI_leI hn hj).mp h
def s_init : xSp := fun ad h av Q => ∃ (t b : Tg) (z : Value) (x0 x : Int32), av = [.ref (ad t), .ref (ad b), .int x] ∧ h t = some (.inr (0, [z, .int x0])) ∧ Q none ad (xup h t (cRow (ad b) x))
set_option maxRecDepth 100000 in
theorem c_X0_init : Ct yX0_init cX0_init 3 none (xrm 1 0 0) s_init := by
  refine Ct.of (by decide) ?_
  intro p l e s m args below meth c G ad h av Q F hsp
  obtain ⟨t, b, z, x0, x, rfl, e1, hQ⟩ := hsp
  refine ⟨x_ent rfl rfl, ?_⟩
  refine x_ls [(0, .ref (ad t)), (1, .ref (ad b)), (2, .int x)] rfl ?_
  refine x_aload_n (q := 1) F dX0_init_0 rfl rfl (by first | exact xref_r | exact xref_n | exact xref_f _ | assumption) ?_
  refine x_objInit (q := 4) F dX0_init_1 rfl ml_X0_3 oi_i oi_c (xle rfl) (xle rfl) ?_
  refine x_aload_n (q := 5) F dX0_init_4 rfl rfl (by first | exact xref_r | exact xref_n | exact xref_f _ | assumption) ?_
  refine x_aload_n (q := 6) F dX0_init_5 rfl rfl (by first | exact xref_r | exact xref_n | exact xref_f _ | assumption) ?_
  refine x_putF (q := 9) F dX0_init_6 rfl fs_X0_9 rfl rfl e1 (xle rfl) rfl rfl ?_
  refine x_aload_n (q := 10) F dX0_init_9 rfl rfl (by first | exact xref_r | exact xref_n | exact xref_f _ | assumption) ?_
  refine x_iload_n (q := 11) F dX0_init_10 rfl rfl ?_
  refine x_put (q := 14) F dX0_init_11 rfl fs_X0_15 (xup_self _ _ _) (xle rfl) rfl rfl ?_
  refine x_vret F dX0_init_14 (xle rfl) (xle rfl) ?_
  rw [xup_xup]
  exact hQ
def s_add : xSp := fun ad h av Q => ∃ (t b : Tg) (n N : Nat) (f : Nat → Int32) (x : Int32), av = [.ref (ad t), .int x] ∧ h t = some (cRow (ad b) (nI n)) ∧ h b = some (cI N f) ∧ t ≠ b ∧ N ≤ 1000 ∧ n ≤ N ∧ (n = N → Q (some (.int 0)) ad h) ∧ (n < N → Q (some (.int 1)) ad (xup (xup h b (cI N (upd f n x))) t (cRow (ad b) (nI (n + 1)))))
set_option maxRecDepth 100000 in
theorem c_X0_add : Ct yX0_add cX0_add 2 (some .boolean) (xrm 0 0 0) s_add := by
  refine Ct.of (by decide) ?_
  intro p l e s m args below meth c G ad h av Q F hsp
  obtain ⟨t, b, n, N, f, x, rfl, e1, e2, htb, hN, hn, hQ0, hQ1⟩ := hsp
  refine ⟨x_ent rfl rfl, ?_⟩
  refine x_ls [(0, .ref (ad t)), (1, .int x)] rfl ?_
  refine x_aload_n (q := 1) F dX0_add_0 rfl rfl (by first | exact xref_r | exact xref_n | exact xref_f _ | assumption) ?_
  refine x_get (q := 4) F dX0_add_1 rfl fs_X0_15 e1 rfl ?_
  refine x_if_lt (q := 7) F 19 dX0_add_4 (by decide) rfl (fun c4 => ?_) (fun c4 => ?_)
  · exact absurd c4 (nI_pos (by omega))
  · refine x_aload_n (q := 8) F dX0_add_7 rfl rfl (by first | exact xref_r | exact xref_n | exact xref_f _ | assumption) ?_
    refine x_get (q := 11) F dX0_add_8 rfl fs_X0_15 e1 rfl ?_
    refine x_aload_n (q := 12) F dX0_add_11 rfl rfl (by first | exact xref_r | exact xref_n | exact xref_f _ | assumption) ?_
    refine x_get (q := 15) F dX0_add_12 rfl fs_X0_9 e1 rfl ?_
    refine x_alen (q := 16) F dX0_add_15 rfl e2 (by decide) ?_
    refine x_icmp_lt (q := 19) F 21 dX0_add_16 (by decide) rfl (fun c16 => ?_) (fun c16 => ?_)
    · have hlt : n < N := (nI_ltI (by omega) (by omega)).mp c16
      refine x_aload_n (q := 22) F dX0_add_21 rfl rfl (by first | exact xref_r | exact xref_n | exact xref_f _ | assumption) ?_
      refine x_get (q := 25) F dX0_add_22 rfl fs_X0_9 e1 rfl ?_
      refine x_aload_n (q := 26) F dX0_add_25 rfl rfl (by first | exact xref_r | exact xref_n | exact xref_f _ | assumption) ?_
      refine x_get (q := 29) F dX0_add_26 rfl fs_X0_15 e1 rfl ?_
      refine x_iload_n (q := 30) F dX0_add_29 rfl rfl ?_
      refine x_iast (q := 31) F dX0_add_30 rfl e2 rfl (by omega) (by omega) ?_
      refine x_aload_n (q := 32) F dX0_add_31 rfl rfl (by first | exact xref_r | exact xref_n | exact xref_f _ | assumption) ?_
      refine x_dup (q := 33) F dX0_add_32 rfl rfl ?_
      refine x_get (q := 36) F dX0_add_33 rfl fs_X0_15 (by rw [xup_ne _ _ htb]; exact e1) rfl ?_
      refine x_iconst (q := 37) (v := 1) F dX0_add_36 rfl (by decide) ?_
      refine x_iadd (q := 38) F dX0_add_37 rfl ?_
      refine x_put (q := 41) F dX0_add_38 rfl fs_X0_15 (by rw [xup_ne _ _ htb]; exact e1) (xle rfl) rfl rfl ?_
      refine x_iconst (q := 42) (v := 1) F dX0_add_41 rfl (by decide) ?_
      refine x_zret F dX0_add_42 (xle rfl) (xle rfl) (by first | exact Or.inl rfl | exact Or.inr rfl) ?_
      have := hQ1 hlt
      rw [← nI_1 n] at this
      exact this
    · have hge : n = N := by
        rcases Nat.lt_or_ge n N with q | q
        · exact absurd ((nI_ltI (by omega) (by omega)).mpr q) c16
        · omega
      refine x_iconst (q := 20) (v := 0) F dX0_add_19 rfl (by decide) ?_
      refine x_zret F dX0_add_20 (xle rfl) (xle rfl) (by first | exact Or.inl rfl | exact Or.inr rfl) ?_
      exact hQ0 hge
def s_clear : xSp := fun ad h av Q => ∃ (t : Tg) (z : Value) (x0 : Int32), av = [.ref (ad t)] ∧ h t = some (.inr (0, [z, .int x0])) ∧ Q none ad (xup h t (.inr (0, [z, .int 0])))
set_option maxRecDepth 100000 in
theorem c_X0_clear : Ct yX0_clear cX0_clear 1 none (xrm 0 0 0) s_clear := by
  refine Ct.of (by decide) ?_
  intro p l e s m args below meth c G ad h av Q F hsp
  obtain ⟨t, z, x0, rfl, e1, hQ⟩ := hsp
  refine ⟨x_ent rfl rfl, ?_⟩
  refine x_aload_n (q := 1) F dX0_clear_0 rfl rfl (by first | exact xref_r | exact xref_n | exact xref_f _ | assumption) ?_
  refine x_iconst (q := 2) (v := 0) F dX0_clear_1 rfl (by decide) ?_
  refine x_put (q := 5) F dX0_clear_2 rfl fs_X0_15 e1 (xle rfl) rfl rfl ?_
  refine x_vret F dX0_clear_5 (xle rfl) (xle rfl) ?_
  exact hQ
def s_byteAt : xSp := fun ad h av Q => ∃ (t b : Tg) (n N : Nat) (f : Nat → Int32) (x : Int32), av = [.ref (ad t), .int x] ∧ h t = some (cRow (ad b) (nI n)) ∧ h b = some (cI N f) ∧ n ≤ N ∧ N ≤ 1000 ∧ Q (some (.int (rowAt n f x))) ad h
set_option maxRecDepth 100000 in
theorem c_X0_byteAt : Ct yX0_byteAt cX0_byteAt 2 (some .int) (xrm 0 0 0) s_byteAt := by
  refine Ct.of (by decide) ?_
  intro p l e s m args below meth c G ad h av Q F hsp
  obtain ⟨t, b, n, N, f, x, rfl, e1, e2, hn, hN, hQ⟩ := hsp
  refine ⟨x_ent rfl rfl, ?_⟩
  refine x_ls [(0, .ref (ad t)), (1, .int x)] rfl ?_
  refine x_iload_n (q := 1) F dX0_byteAt_0 rfl rfl ?_
  refine x_if_lt (q := 4) F 30 dX0_byteAt_1 (by decide) rfl (fun c1 => ?_) (fun c1 => ?_)
  · refine x_iconst (q := 31) (v := -1) F dX0_byteAt_30 rfl (by decide) ?_
    refine x_iret F dX0_byteAt_31 (xle rfl) (xle rfl) ?_
    rw [rowAt_neg c1] at hQ
    exact hQ
  · refine x_iload_n (q := 5) F dX0_byteAt_4 rfl rfl ?_
    refine x_aload_n (q := 6) F dX0_byteAt_5 rfl rfl (by first | exact xref_r | exact xref_n | exact xref_f _ | assumption) ?_
    refine x_get (q := 9) F dX0_byteAt_6 rfl fs_X0_15 e1 rfl ?_
    refine x_icmp_ge (q := 12) F 30 dX0_byteAt_9 (by decide) rfl (fun c9 => ?_) (fun c9 => ?_)
    · refine x_iconst (q := 31) (v := -1) F dX0_byteAt_30 rfl (by decide) ?_
      refine x_iret F dX0_byteAt_31 (xle rfl) (xle rfl) ?_
      rw [rowAt_ge (by omega) c9] at hQ
      exact hQ
    · obtain ⟨j, hj, rfl⟩ := nI_of c1
      have hjn : j < n := by
        rcases Nat.lt_or_ge j n with q | q
        · exact q
        · exact absurd ((nI_leI (by omega) hj).mpr q) c9
      refine x_iload_n (q := 13) F dX0_byteAt_12 rfl rfl ?_
      refine x_aload_n (q := 14) F dX0_byteAt_13 rfl rfl (by first | exact xref_r | exact xref_n | exact xref_f _ | assumption) ?_
      refine x_get (q := 17) F dX0_byteAt_14 rfl fs_X0_9 e1 rfl ?_
      refine x_alen (q := 18) F dX0_byteAt_17 rfl e2 (by decide) ?_
      refine x_icmp_ge (q := 21) F 30 dX0_byteAt_18 (by decide) rfl (fun c18 => ?_) (fun c18 => ?_)
      · exact absurd ((nI_leI (by omega) hj).mp c18) (by show ¬ N ≤ j; omega)
      · refine x_aload_n (q := 22) F dX0_byteAt_21 rfl rfl (by first | exact xref_r | exact xref_n | exact xref_f _ | assumption) ?_
        refine x_get (q := 25) F dX0_byteAt_22 rfl fs_X0_9 e1 rfl ?_
        refine x_iload_n (q := 26) F dX0_byteAt_25 rfl rfl ?_
        refine x_iald (q := 27) F dX0_byteAt_26 rfl e2 rfl (by omega) (by omega) ?_
        refine x_goto F 31 dX0_byteAt_27 (by decide) ?_
        refine x_iret F dX0_byteAt_31 (xle rfl) (xle rfl) ?_
        rw [rowAt_in hjn (by omega)] at hQ
        exact hQ
def rsum (f : Nat → Int32) : Nat → Int32
  | 0 => 0
  | n + 1 => rsum f n + f n
def s_sum : xSp := fun ad h av Q => ∃ (t b : Tg) (n N : Nat) (f : Nat → Int32), av = [.ref (ad t)] ∧ h t = some (cRow (ad b) (nI n)) ∧ h b = some (cI N f) ∧ n ≤ N ∧ N ≤ 1000 ∧ Q (some (.int (rsum f n &&& 255))) ad h
set_option maxRecDepth 100000 in
theorem c_X0_sum : Ct yX0_sum cX0_sum 3 (some .int) (xrm 1 0 0) s_sum := by
  refine Ct.of (by decide) ?_
  intro p l e s m args below meth c G ad h av Q F hsp
  obtain ⟨t, b, n, N, f, rfl, e1, e2, hn, hN, hQ⟩ := hsp
  refine ⟨x_ent rfl rfl, ?_⟩
  have loop : ∀ i : Nat, i ≤ n → xX p l e (xrm 1 0 0) s m args below meth c G ad h 3 (xZ below G ad h Q args s (xrm 1 0 0)) 4 [(0, .ref (ad t)), (1, .int (rsum f i)), (2, .int (nI i))] [] ad h 0 0 := by
    intro i
    induction hd : n - i using Nat.strongRecOn generalizing i with
    | ind d ih =>
      intro hi
      refine x_iload_n (q := 5) F dX0_sum_4 rfl rfl ?_
      refine x_aload_n (q := 6) F dX0_sum_5 rfl rfl (by first | exact xref_r | exact xref_n | exact xref_f _ | assumption) ?_
      refine x_get (q := 9) F dX0_sum_6 rfl fs_X0_15 e1 rfl ?_
      refine x_icmp_ge (q := 12) F 26 dX0_sum_9 (by decide) rfl (fun c9 => ?_) (fun c9 => ?_)
      · have : i = n := by have := (nI_leI (by omega) (by omega)).mp c9; omega
        subst this
        refine x_iload_n (q := 27) F dX0_sum_26 rfl rfl ?_
        refine x_sipush (q := 30) (v := 255) F dX0_sum_27 rfl (by decide) ?_
        refine x_iand (q := 31) F dX0_sum_30 rfl ?_
        refine x_iret F dX0_sum_31 (xle rfl) (xle rfl) ?_
        exact hQ
      · have hlt : i < n := by
          rcases Nat.lt_or_ge i n with q | q
          · exact q
          · exact absurd ((nI_leI (by omega) (by omega)).mpr q) c9
        refine x_iload_n (q := 13) F dX0_sum_12 rfl rfl ?_
        refine x_aload_n (q := 14) F dX0_sum_13 rfl rfl (by first | exact xref_r | exact xref_n | exact xref_f _ | assumption) ?_
        refine x_iload_n (q := 15) F dX0_sum_14 rfl rfl ?_
        refine x_callV1 (q := 18) F t c_X0_byteAt dX0_sum_15 rfl mv_X0_byteAt ml_X0_19 ⟨⟨xle rfl, xle rfl⟩, xle rfl, xle rfl⟩ rfl e1 (xle rfl) ?_
        refine ⟨t, b, n, N, f, _, rfl, e1, e2, hn, hN, fun _ => ?_⟩
        rw [rowAt_in hlt (by omega)]
        refine x_iadd (q := 19) F dX0_sum_18 rfl ?_
        refine x_istore_n (q := 20) F dX0_sum_19 rfl (by decide) ?_
        refine x_iinc (q := 23) F dX0_sum_20 rfl rfl (nI_1 i) (by decide) ?_
        refine x_goto F 4 dX0_sum_23 (by decide) ?_
        refine x_ls [(0, .ref (ad t)), (1, .int (rsum f (i + 1))), (2, .int (nI (i + 1)))] rfl ?_
        exact ih (n - (i + 1)) (by omega) (i + 1) rfl (by omega)
  refine x_iconst (q := 1) (v := 0) F dX0_sum_0 rfl (by decide) ?_
  refine x_istore_n (q := 2) F dX0_sum_1 rfl (by decide) ?_
  refine x_iconst (q := 3) (v := 0) F dX0_sum_2 rfl (by decide) ?_
  refine x_istore_n (q := 4) F dX0_sum_3 rfl (by decide) ?_
  refine x_ls [(0, .ref (ad t)), (1, .int (rsum f 0)), (2, .int (nI 0))] rfl ?_
  exact loop 0 (Nat.zero_le _)
end
section
/-! ===== Checks, Item ===== -/
abbrev cChk (b1 b2 : Nat) (x : Int32) : xE := .inr (1, [.ref b1, .ref b2, .int x])
theorem upd_n (f : Nat → Nat) (j v : Nat) : upd (fun i => nI (f i)) j (nI v) = fun i => nI (if i = j then v else f i) := by
  funext i
  unfold upd
  by_cases q : i = j
  · rw [if_pos q, if_pos q]
  · rw [if_neg q, if_neg q]
def s_chkInit : xSp := fun ad h av Q => ∃ (t b1 b2 : Tg), av = [.ref (ad t)] ∧ h t = some (.inr (1, [.null, .null, .int 0])) ∧ h b1 = none ∧ h b2 = none ∧ b1 ≠ b2 ∧
  ∀ ad' : xAd, (∀ u, u ≠ b1 → u ≠ b2 → ad' u = ad u) → Q none ad' (xup (xup (xup h b1 (cI 4 (fun _ => 0))) b2 (cI 4 (fun _ => 0))) t (cChk (ad' b1) (ad' b2) 0))
set_option maxRecDepth 100000 in
theorem c_X1_init : Ct yX1_init cX1_init 1 none (xrm 1 2 8) s_chkInit := by
  refine Ct.of (by decide) ?_
  intro p l e s m args below meth c G ad h av Q F hsp
  obtain ⟨t, b1, b2, rfl, e1, e2, e3, h12, hQ⟩ := hsp
  have ht1 : t ≠ b1 := fun z => by rw [z, e2] at e1; cases e1
  have ht2 : t ≠ b2 := fun z => by rw [z, e3] at e1; cases e1
  refine ⟨x_ent rfl rfl, ?_⟩
  refine x_ls [(0, .ref (ad t))] rfl ?_
  refine x_aload_n (q := 1) F dX1_init_0 rfl rfl (by first | exact xref_r | exact xref_n | exact xref_f _ | assumption) ?_
  refine x_objInit (q := 4) F dX1_init_1 rfl ml_X1_3 oi_i oi_c (xle rfl) (xle rfl) ?_
  refine x_aload_n (q := 5) F dX1_init_4 rfl rfl (by first | exact xref_r | exact xref_n | exact xref_f _ | assumption) ?_
  refine x_iconst (q := 6) (v := 4) F dX1_init_5 rfl (by decide) ?_
  refine x_newaI (q := 8) (N := 4) F b1 dX1_init_6 rfl ac_int rfl (by omega) e2 (xle rfl) (xle rfl) (fun ad1 E1 => ?_)
  rw [← E1 t ht1]
  refine x_putF (q := 11) F dX1_init_8 rfl fs_X1_9 rfl rfl (by rw [xup_ne _ _ ht1]; exact e1) (xle rfl) rfl rfl ?_
  refine x_aload_n (q := 12) F dX1_init_11 rfl rfl (by first | exact xref_r | exact xref_n | exact xref_f _ | assumption) ?_
  refine x_iconst (q := 13) (v := 4) F dX1_init_12 rfl (by decide) ?_
  refine x_newaI (q := 15) (N := 4) F b2 dX1_init_13 rfl ac_int rfl (by omega) (by rw [xup_ne _ _ ht2.symm, xup_ne _ _ h12.symm]; exact e3) (xle rfl) (xle rfl) (fun ad2 E2 => ?_)
  rw [← E2 t ht2, ← E2 b1 h12]
  refine x_putF (q := 18) F dX1_init_15 rfl fs_X1_15 rfl rfl (by rw [xup_ne _ _ ht2]; exact xup_self _ _ _) (xle rfl) rfl rfl ?_
  refine x_aload_n (q := 19) F dX1_init_18 rfl rfl (by first | exact xref_r | exact xref_n | exact xref_f _ | assumption) ?_
  refine x_iconst (q := 20) (v := 0) F dX1_init_19 rfl (by decide) ?_
  refine x_put (q := 23) F dX1_init_20 rfl fs_X1_18 (xup_self _ _ _) (xle rfl) rfl rfl ?_
  refine x_vret F dX1_init_23 (xle rfl) (xle rfl) ?_
  have hh := hQ ad2 (fun u h1 h2 => (E2 u h2).trans (E1 u h1))
  rw [xup_xup, xup_comm _ _ _ ht2, xup_xup]
  exact hh
def s_chkAdd : xSp := fun ad h av Q => ∃ (t b1 b2 : Tg) (n : Nat) (f g : Nat → Int32) (x y : Int32), av = [.ref (ad t), .int x, .int y] ∧ h t = some (cChk (ad b1) (ad b2) (nI n)) ∧ h b1 = some (cI 4 f) ∧ h b2 = some (cI 4 g) ∧ b1 ≠ b2 ∧ t ≠ b1 ∧ t ≠ b2 ∧ n ≤ 4 ∧
  (n = 4 → Q (some (.int (-4))) ad h) ∧ (n < 4 → Q (some (.int (nI (n + 1)))) ad (xup (xup (xup h b1 (cI 4 (upd f n x))) b2 (cI 4 (upd g n y))) t (cChk (ad b1) (ad b2) (nI (n + 1)))))
set_option maxRecDepth 100000 in
theorem c_X1_add : Ct yX1_add cX1_add 3 (some .int) (xrm 0 0 0) s_chkAdd := by
  refine Ct.of (by decide) ?_
  intro p l e s m args below meth c G ad h av Q F hsp
  obtain ⟨t, b1, b2, n, f, g, x, y, rfl, e1, e2, e3, h12, ht1, ht2, hn, hQ4, hQ⟩ := hsp
  refine ⟨x_ent rfl rfl, ?_⟩
  refine x_ls [(0, .ref (ad t)), (1, .int x), (2, .int y)] rfl ?_
  refine x_aload_n (q := 1) F dX1_add_0 rfl rfl (by first | exact xref_r | exact xref_n | exact xref_f _ | assumption) ?_
  refine x_get (q := 4) F dX1_add_1 rfl fs_X1_18 e1 rfl ?_
  refine x_iconst (q := 5) (v := 4) F dX1_add_4 rfl (by decide) ?_
  refine x_icmp_lt (q := 8) F 11 dX1_add_5 (by decide) rfl (fun c5 => ?_) (fun c5 => ?_)
  · have hlt : n < 4 := (nI_ltI (b := 4) (by omega) (by omega)).mp c5
    refine x_aload_n (q := 12) F dX1_add_11 rfl rfl (by first | exact xref_r | exact xref_n | exact xref_f _ | assumption) ?_
    refine x_get (q := 15) F dX1_add_12 rfl fs_X1_9 e1 rfl ?_
    refine x_aload_n (q := 16) F dX1_add_15 rfl rfl (by first | exact xref_r | exact xref_n | exact xref_f _ | assumption) ?_
    refine x_get (q := 19) F dX1_add_16 rfl fs_X1_18 e1 rfl ?_
    refine x_iload_n (q := 20) F dX1_add_19 rfl rfl ?_
    refine x_iast (q := 21) F dX1_add_20 rfl e2 rfl (by omega) (by omega) ?_
    refine x_aload_n (q := 22) F dX1_add_21 rfl rfl (by first | exact xref_r | exact xref_n | exact xref_f _ | assumption) ?_
    refine x_get (q := 25) F dX1_add_22 rfl fs_X1_15 (by rw [xup_ne _ _ ht1]; exact e1) rfl ?_
    refine x_aload_n (q := 26) F dX1_add_25 rfl rfl (by first | exact xref_r | exact xref_n | exact xref_f _ | assumption) ?_
    refine x_get (q := 29) F dX1_add_26 rfl fs_X1_18 (by rw [xup_ne _ _ ht1]; exact e1) rfl ?_
    refine x_iload_n (q := 30) F dX1_add_29 rfl rfl ?_
    refine x_iast (q := 31) F dX1_add_30 rfl (by rw [xup_ne _ _ h12.symm]; exact e3) rfl (by omega) (by omega) ?_
    refine x_aload_n (q := 32) F dX1_add_31 rfl rfl (by first | exact xref_r | exact xref_n | exact xref_f _ | assumption) ?_
    refine x_dup (q := 33) F dX1_add_32 rfl rfl ?_
    refine x_get (q := 36) F dX1_add_33 rfl fs_X1_18 (by rw [xup_ne _ _ ht2, xup_ne _ _ ht1]; exact e1) rfl ?_
    refine x_iconst (q := 37) (v := 1) F dX1_add_36 rfl (by decide) ?_
    refine x_iadd (q := 38) F dX1_add_37 rfl ?_
    refine x_topi (nI_1 n) ?_
    refine x_put (q := 41) F dX1_add_38 rfl fs_X1_18 (by rw [xup_ne _ _ ht2, xup_ne _ _ ht1]; exact e1) (xle rfl) rfl rfl ?_
    refine x_aload_n (q := 42) F dX1_add_41 rfl rfl (by first | exact xref_r | exact xref_n | exact xref_f _ | assumption) ?_
    refine x_get (q := 45) F dX1_add_42 rfl fs_X1_18 (xup_self _ _ _) rfl ?_
    refine x_iret F dX1_add_45 (xle rfl) (xle rfl) ?_
    exact hQ hlt
  · have hge : n = 4 := by
      rcases Nat.lt_or_ge n 4 with q | q
      · exact absurd ((nI_ltI (b := 4) (by omega) (by omega)).mpr q) c5
      · omega
    refine x_bipush (q := 10) (v := -4) F dX1_add_8 rfl (by decide) ?_
    refine x_iret F dX1_add_10 (xle rfl) (xle rfl) ?_
    exact hQ4 hge
/-- does a check hold of a row -/
def holdV (kind value : Int32) (n : Nat) (f : Nat → Int32) : Bool := if kind = 0 then decide (value ≤ nI n) else if kind = 1 then decide (nI n ≤ value) else if kind = 2 then decide (rowAt n f 0 = value) else decide (rsum f n &&& 255 = value)
def bI (b : Bool) : Int32 := if b then 1 else 0
theorem bI_or (b : Bool) : bI b = 0 ∨ bI b = 1 := by cases b <;> decide
def s_holds : xSp := fun ad h av Q => ∃ (t b : Tg) (n N : Nat) (f : Nat → Int32) (x y : Int32), av = [.int x, .int y, .ref (ad t)] ∧ h t = some (cRow (ad b) (nI n)) ∧ h b = some (cI N f) ∧ n ≤ N ∧ N ≤ 1000 ∧ 0 ≤ x ∧ x ≤ 3 ∧ Q (some (.int (bI (holdV x y n f)))) ad h
set_option maxRecDepth 100000 in
theorem c_X1_holds : Ct yX1_holds cX1_holds 3 (some .boolean) (xrm 2 0 0) s_holds := by
  refine Ct.of (by decide) ?_
  intro p l e s m args below meth c G ad h av Q F hsp
  obtain ⟨t, b, n, N, f, x, y, rfl, e1, e2, hn, hN, hx0, hx3, hQ⟩ := hsp
  refine ⟨x_ent rfl rfl, ?_⟩
  refine x_ls [(0, .int x), (1, .int y), (2, .ref (ad t))] rfl ?_
  obtain ⟨j, hj, rfl⟩ := nI_of2 (x := x) (M := 3) (n := 3) rfl (by rw [Int32.not_lt]; exact hx0) hx3
  refine x_iload_n (q := 1) F dX1_holds_0 rfl rfl ?_
  rcases (show j = 0 ∨ j = 1 ∨ j = 2 ∨ j = 3 by omega) with rfl | rfl | rfl | rfl
  · refine x_tableIn F 28 dX1_holds_1 (by decide) (by decide) (off := 27) rfl (by decide) ?_
    refine x_aload_n (q := 29) F dX1_holds_28 rfl rfl (by first | exact xref_r | exact xref_n | exact xref_f _ | assumption) ?_
    refine x_getN (q := 32) F dX1_holds_29 rfl fn_X1_26 e1 rfl ?_
    refine x_iload_n (q := 33) F dX1_holds_32 rfl rfl ?_
    refine x_icmp_lt (q := 36) F 40 dX1_holds_33 (by decide) rfl (fun c33 => ?_) (fun c33 => ?_)
    · refine x_iconst (q := 41) (v := 0) F dX1_holds_40 rfl (by decide) ?_
      refine x_zret F dX1_holds_41 (xle rfl) (xle rfl) (by first | exact Or.inl rfl | exact Or.inr rfl) ?_
      have : holdV (nI 0) y n f = false := by unfold holdV; rw [if_pos (by decide)]; simpa using c33
      rw [this] at hQ
      exact hQ
    · refine x_iconst (q := 37) (v := 1) F dX1_holds_36 rfl (by decide) ?_
      refine x_goto F 41 dX1_holds_37 (by decide) ?_
      refine x_zret F dX1_holds_41 (xle rfl) (xle rfl) (by first | exact Or.inl rfl | exact Or.inr rfl) ?_
      have : holdV (nI 0) y n f = true := by unfold holdV; rw [if_pos (by decide)]; simpa using c33
      rw [this] at hQ
      exact hQ
  · refine x_tableIn F 42 dX1_holds_1 (by decide) (by decide) (off := 41) rfl (by decide) ?_
    refine x_aload_n (q := 43) F dX1_holds_42 rfl rfl (by first | exact xref_r | exact xref_n | exact xref_f _ | assumption) ?_
    refine x_getN (q := 46) F dX1_holds_43 rfl fn_X1_26 e1 rfl ?_
    refine x_iload_n (q := 47) F dX1_holds_46 rfl rfl ?_
    refine x_icmp_gt (q := 50) F 54 dX1_holds_47 (by decide) rfl (fun c47 => ?_) (fun c47 => ?_)
    · refine x_iconst (q := 55) (v := 0) F dX1_holds_54 rfl (by decide) ?_
      refine x_zret F dX1_holds_55 (xle rfl) (xle rfl) (by first | exact Or.inl rfl | exact Or.inr rfl) ?_
      have : holdV (nI 1) y n f = false := by unfold holdV; rw [if_neg (by decide), if_pos (by decide)]; simpa using c47
      rw [this] at hQ
      exact hQ
    · refine x_iconst (q := 51) (v := 1) F dX1_holds_50 rfl (by decide) ?_
      refine x_goto F 55 dX1_holds_51 (by decide) ?_
      refine x_zret F dX1_holds_55 (xle rfl) (xle rfl) (by first | exact Or.inl rfl | exact Or.inr rfl) ?_
      have : holdV (nI 1) y n f = true := by unfold holdV; rw [if_neg (by decide), if_pos (by decide)]; simpa using c47
      rw [this] at hQ
      exact hQ
  · refine x_tableIn F 56 dX1_holds_1 (by decide) (by decide) (off := 55) rfl (by decide) ?_
    refine x_aload_n (q := 57) F dX1_holds_56 rfl rfl (by first | exact xref_r | exact xref_n | exact xref_f _ | assumption) ?_
    refine x_iconst (q := 58) (v := 0) F dX1_holds_57 rfl (by decide) ?_
    refine x_callV1 (q := 61) F t c_X0_byteAt dX1_holds_58 rfl mv_X0_byteAt ml_X1_31 ⟨⟨xle rfl, xle rfl⟩, xle rfl, xle rfl⟩ rfl e1 (xle rfl) ?_
    refine ⟨t, b, n, N, f, _, rfl, e1, e2, hn, hN, fun _ => ?_⟩
    refine x_iload_n (q := 62) F dX1_holds_61 rfl rfl ?_
    refine x_icmp_ne (q := 65) F 69 dX1_holds_62 (by decide) rfl (fun c62 => ?_) (fun c62 => ?_)
    · refine x_iconst (q := 70) (v := 0) F dX1_holds_69 rfl (by decide) ?_
      refine x_zret F dX1_holds_70 (xle rfl) (xle rfl) (by first | exact Or.inl rfl | exact Or.inr rfl) ?_
      have : holdV (nI 2) y n f = false := by unfold holdV; rw [if_neg (by decide), if_neg (by decide), if_pos (by decide)]; simpa using c62
      rw [this] at hQ
      exact hQ
    · refine x_iconst (q := 66) (v := 1) F dX1_holds_65 rfl (by decide) ?_
      refine x_goto F 70 dX1_holds_66 (by decide) ?_
      refine x_zret F dX1_holds_70 (xle rfl) (xle rfl) (by first | exact Or.inl rfl | exact Or.inr rfl) ?_
      have : holdV (nI 2) y n f = true := by unfold holdV; rw [if_neg (by decide), if_neg (by decide), if_pos (by decide)]; simpa using c62
      rw [this] at hQ
      exact hQ
  · refine x_tableOut F 71 dX1_holds_1 (by decide) (by decide) ?_
    refine x_aload_n (q := 72) F dX1_holds_71 rfl rfl (by first | exact xref_r | exact xref_n | exact xref_f _ | assumption) ?_
    refine x_callV0 (q := 75) F t c_X0_sum dX1_holds_72 rfl mv_X0_sum ml_X1_35 ⟨⟨xle rfl, xle rfl⟩, xle rfl, xle rfl⟩ rfl e1 (xle rfl) ?_
    refine ⟨t, b, n, N, f, rfl, e1, e2, hn, hN, fun _ => ?_⟩
    refine x_iload_n (q := 76) F dX1_holds_75 rfl rfl ?_
    refine x_icmp_ne (q := 79) F 83 dX1_holds_76 (by decide) rfl (fun c76 => ?_) (fun c76 => ?_)
    · refine x_iconst (q := 84) (v := 0) F dX1_holds_83 rfl (by decide) ?_
      refine x_zret F dX1_holds_84 (xle rfl) (xle rfl) (by first | exact Or.inl rfl | exact Or.inr rfl) ?_
      have : holdV (nI 3) y n f = false := by unfold holdV; rw [if_neg (by decide), if_neg (by decide), if_neg (by decide)]; simpa using c76
      rw [this] at hQ
      exact hQ
    · refine x_iconst (q := 80) (v := 1) F dX1_holds_79 rfl (by decide) ?_
      refine x_goto F 84 dX1_holds_80 (by decide) ?_
      refine x_zret F dX1_holds_84 (xle rfl) (xle rfl) (by first | exact Or.inl rfl | exact Or.inr rfl) ?_
      have : holdV (nI 3) y n f = true := by unfold holdV; rw [if_neg (by decide), if_neg (by decide), if_neg (by decide)]; simpa using c76
      rw [this] at hQ
      exact hQ
/-- the first k checks all hold -/
def holdA (kd vl : Nat → Int32) (n : Nat) (f : Nat → Int32) : Nat → Bool
  | 0 => true
  | k + 1 => holdA kd vl n f k && holdV (kd k) (vl k) n f
theorem holdA_cut {kd vl : Nat → Int32} {n : Nat} {f : Nat → Int32} {i : Nat} (h : holdV (kd i) (vl i) n f = false) : ∀ k, i < k → holdA kd vl n f k = false := by
  intro k
  induction k with
  | zero => intro q; omega
  | succ k ih =>
    intro q
    show (holdA kd vl n f k && holdV (kd k) (vl k) n f) = false
    by_cases z : i = k
    · subst z; rw [h, Bool.and_false]
    · rw [ih (by omega), Bool.false_and]
def s_hold : xSp := fun ad h av Q => ∃ (t b1 b2 t2 b : Tg) (cn : Nat) (kd vl : Nat → Int32) (n N : Nat) (f : Nat → Int32), av = [.ref (ad t), .ref (ad t2)] ∧ h t = some (cChk (ad b1) (ad b2) (nI cn)) ∧ h b1 = some (cI 4 kd) ∧ h b2 = some (cI 4 vl) ∧ cn ≤ 4 ∧ (∀ i, i < cn → 0 ≤ kd i ∧ kd i ≤ 3) ∧ h t2 = some (cRow (ad b) (nI n)) ∧ h b = some (cI N f) ∧ n ≤ N ∧ N ≤ 1000 ∧ Q (some (.int (bI (holdA kd vl n f cn)))) ad h
set_option maxRecDepth 100000 in
theorem c_X1_hold : Ct yX1_hold cX1_hold 3 (some .boolean) (xrm 3 0 0) s_hold := by
  refine Ct.of (by decide) ?_
  intro p l e s m args below meth c G ad h av Q F hsp
  obtain ⟨t, b1, b2, t2, b, cn, kd, vl, n, N, f, rfl, e1, e2, e3, hcn, hkd, e4, e5, hn, hN, hQ⟩ := hsp
  refine ⟨x_ent rfl rfl, ?_⟩
  have loop : ∀ i : Nat, i ≤ cn → holdA kd vl n f i = true → xX p l e (xrm 3 0 0) s m args below meth c G ad h 3 (xZ below G ad h Q args s (xrm 3 0 0)) 2 [(0, .ref (ad t)), (1, .ref (ad t2)), (2, .int (nI i))] [] ad h 0 0 := by
    intro i
    induction hd : cn - i using Nat.strongRecOn generalizing i with
    | ind d ih =>
      intro hi hall
      refine x_iload_n (q := 3) F dX1_hold_2 rfl rfl ?_
      refine x_aload_n (q := 4) F dX1_hold_3 rfl rfl (by first | exact xref_r | exact xref_n | exact xref_f _ | assumption) ?_
      refine x_get (q := 7) F dX1_hold_4 rfl fs_X1_18 e1 rfl ?_
      refine x_icmp_ge (q := 10) F 42 dX1_hold_7 (by decide) rfl (fun c7 => ?_) (fun c7 => ?_)
      · have : i = cn := by have := (nI_leI (by omega) (by omega)).mp c7; omega
        subst this
        refine x_iconst (q := 43) (v := 1) F dX1_hold_42 rfl (by decide) ?_
        refine x_zret F dX1_hold_43 (xle rfl) (xle rfl) (by first | exact Or.inl rfl | exact Or.inr rfl) ?_
        rw [hall] at hQ
        exact hQ
      · have hlt : i < cn := by
          rcases Nat.lt_or_ge i cn with q | q
          · exact q
          · exact absurd ((nI_leI (by omega) (by omega)).mpr q) c7
        refine x_iload_n (q := 11) F dX1_hold_10 rfl rfl ?_
        refine x_iconst (q := 12) (v := 4) F dX1_hold_11 rfl (by decide) ?_
        refine x_icmp_ge (q := 15) F 42 dX1_hold_12 (by decide) rfl (fun c12 => ?_) (fun c12 => ?_)
        · exact absurd ((nI_leI (a := 4) (by omega) (by omega)).mp c12) (by omega)
        · refine x_aload_n (q := 16) F dX1_hold_15 rfl rfl (by first | exact xref_r | exact xref_n | exact xref_f _ | assumption) ?_
          refine x_get (q := 19) F dX1_hold_16 rfl fs_X1_9 e1 rfl ?_
          refine x_iload_n (q := 20) F dX1_hold_19 rfl rfl ?_
          refine x_iald (q := 21) F dX1_hold_20 rfl e2 rfl (by omega) (by omega) ?_
          refine x_aload_n (q := 22) F dX1_hold_21 rfl rfl (by first | exact xref_r | exact xref_n | exact xref_f _ | assumption) ?_
          refine x_get (q := 25) F dX1_hold_22 rfl fs_X1_15 e1 rfl ?_
          refine x_iload_n (q := 26) F dX1_hold_25 rfl rfl ?_
          refine x_iald (q := 27) F dX1_hold_26 rfl e3 rfl (by omega) (by omega) ?_
          refine x_aload_n (q := 28) F dX1_hold_27 rfl rfl (by first | exact xref_r | exact xref_n | exact xref_f _ | assumption) ?_
          refine x_callS3 (q := 31) F c_X1_holds dX1_hold_28 rfl ms_X1_holds ml_X1_22 ⟨⟨xle rfl, xle rfl⟩, xle rfl, xle rfl⟩ (xle rfl) ?_
          refine ⟨t2, b, n, N, f, _, _, rfl, e4, e5, hn, hN, (hkd i hlt).1, (hkd i hlt).2, fun _ => ?_⟩
          cases hv : holdV (kd i) (vl i) n f with
          | false =>
            refine x_if_ne (q := 34) F 36 dX1_hold_31 (by decide) rfl (fun c31 => ?_) (fun c31 => ?_)
            · exact absurd rfl c31
            · refine x_iconst (q := 35) (v := 0) F dX1_hold_34 rfl (by decide) ?_
              refine x_zret F dX1_hold_35 (xle rfl) (xle rfl) (by first | exact Or.inl rfl | exact Or.inr rfl) ?_
              rw [holdA_cut hv cn hlt] at hQ
              exact hQ
          | true =>
            refine x_if_ne (q := 34) F 36 dX1_hold_31 (by decide) rfl (fun c31 => ?_) (fun c31 => ?_)
            · refine x_iinc (q := 39) F dX1_hold_36 rfl rfl (nI_1 i) (by decide) ?_
              refine x_goto F 2 dX1_hold_39 (by decide) ?_
              refine x_ls [(0, .ref (ad t)), (1, .ref (ad t2)), (2, .int (nI (i + 1)))] rfl ?_
              refine ih (cn - (i + 1)) (by omega) (i + 1) rfl (by omega) ?_
              show (holdA kd vl n f i && holdV (kd i) (vl i) n f) = true
              rw [hall, hv]; rfl
            · exact absurd c31 (by decide)
  refine x_iconst (q := 1) (v := 0) F dX1_hold_0 rfl (by decide) ?_
  refine x_istore_n (q := 2) F dX1_hold_1 rfl (by decide) ?_
  refine x_ls [(0, .ref (ad t)), (1, .ref (ad t2)), (2, .int (nI 0))] rfl ?_
  exact loop 0 (Nat.zero_le _) rfl
abbrev cItem (r : Nat) (fr by_ rt bt : Int32) (gn : Bool) : xE := .inr (2, [.ref r, .int fr, .int by_, .int rt, .int bt, .int (bI gn)])
def s_itemInit : xSp := fun ad h av Q => ∃ (t r : Tg) (x y z : Int32), av = [.ref (ad t), .ref (ad r), .int x, .int y, .int z] ∧ h t = some (.inr (2, [.null, .int 0, .int 0, .int 0, .int 0, .int 0])) ∧ Q none ad (xup h t (cItem (ad r) x y z (-1) false))
set_option maxRecDepth 100000 in
theorem c_X2_init : Ct yX2_init cX2_init 5 none (xrm 1 0 0) s_itemInit := by
  refine Ct.of (by decide) ?_
  intro p l e s m args below meth c G ad h av Q F hsp
  obtain ⟨t, r, x, y, z, rfl, e1, hQ⟩ := hsp
  refine ⟨x_ent rfl rfl, ?_⟩
  refine x_ls [(0, .ref (ad t)), (1, .ref (ad r)), (2, .int x), (3, .int y), (4, .int z)] rfl ?_
  refine x_aload_n (q := 1) F dX2_init_0 rfl rfl (by first | exact xref_r | exact xref_n | exact xref_f _ | assumption) ?_
  refine x_objInit (q := 4) F dX2_init_1 rfl ml_X2_3 oi_i oi_c (xle rfl) (xle rfl) ?_
  refine x_aload_n (q := 5) F dX2_init_4 rfl rfl (by first | exact xref_r | exact xref_n | exact xref_f _ | assumption) ?_
  refine x_iconst (q := 6) (v := -1) F dX2_init_5 rfl (by decide) ?_
  refine x_put (q := 9) F dX2_init_6 rfl fs_X2_9 e1 (xle rfl) rfl rfl ?_
  refine x_h (h2 := xup h t (.inr (2, [.null, .int 0, .int 0, .int 0, .int (-1), .int 0]))) rfl ?_
  refine x_aload_n (q := 10) F dX2_init_9 rfl rfl (by first | exact xref_r | exact xref_n | exact xref_f _ | assumption) ?_
  refine x_iconst (q := 11) (v := 0) F dX2_init_10 rfl (by decide) ?_
  refine x_put (q := 14) F dX2_init_11 rfl fs_X2_15 (xup_self _ _ _) (xle rfl) rfl rfl ?_
  refine x_aload_n (q := 15) F dX2_init_14 rfl rfl (by first | exact xref_r | exact xref_n | exact xref_f _ | assumption) ?_
  refine x_aload_n (q := 16) F dX2_init_15 rfl rfl (by first | exact xref_r | exact xref_n | exact xref_f _ | assumption) ?_
  refine x_h (xup_xup _ _ _ _) ?_
  refine x_putF (q := 19) F dX2_init_16 rfl fs_X2_19 rfl rfl (xup_self _ _ _) (xle rfl) rfl rfl ?_
  refine x_h (xup_xup _ _ _ _) ?_
  refine x_aload_n (q := 20) F dX2_init_19 rfl rfl (by first | exact xref_r | exact xref_n | exact xref_f _ | assumption) ?_
  refine x_iload_n (q := 21) F dX2_init_20 rfl rfl ?_
  refine x_putF (q := 24) F dX2_init_21 rfl fs_X2_23 rfl rfl (xup_self _ _ _) (xle rfl) rfl rfl ?_
  refine x_h (xup_xup _ _ _ _) ?_
  refine x_aload_n (q := 25) F dX2_init_24 rfl rfl (by first | exact xref_r | exact xref_n | exact xref_f _ | assumption) ?_
  refine x_iload_n (q := 26) F dX2_init_25 rfl rfl ?_
  refine x_putF (q := 29) F dX2_init_26 rfl fs_X2_26 rfl rfl (xup_self _ _ _) (xle rfl) rfl rfl ?_
  refine x_h (xup_xup _ _ _ _) ?_
  refine x_aload_n (q := 30) F dX2_init_29 rfl rfl (by first | exact xref_r | exact xref_n | exact xref_f _ | assumption) ?_
  refine x_iload (q := 32) F dX2_init_30 rfl rfl ?_
  refine x_putF (q := 35) F dX2_init_32 rfl fs_X2_29 rfl rfl (xup_self _ _ _) (xle rfl) rfl rfl ?_
  refine x_h (xup_xup _ _ _ _) ?_
  refine x_vret F dX2_init_35 (xle rfl) (xle rfl) ?_
  exact hQ
end
section
/-! ===== the Runner: its world, its small methods ===== -/
abbrev cN (N : Nat) (f : Nat → Nat) : xE := cI N (fun j => nI (f j))
def updN (f : Nat → Nat) (j v : Nat) : Nat → Nat := fun i => if i = j then v else f i
/-- memory, how many are put out, what, A, I, the next command, by what it failed -/
abbrev RS : Type := (Nat → Nat) × Nat × (Nat → Nat) × Nat × Nat × Nat × Nat
def wR (g : xH) (ad : xAd) (st nc : Nat) (q : RS) (fa : Int32) (all : Int64) : xH := match q with
  | (mem, no, out, a, i, p, fl) => xup (xup (xup (xup g (11, 0) (cN nc mem)) (13, 0) (cN 40 out)) (12, 0) (cRow (ad (13, 0)) (nI no))) (10, 0) (.inr (3, [.int (nI st), .ref (ad (11, 0)), .ref (ad (12, 0)), .int (nI a), .int (nI i), .int (nI p), .int (nI fl), .int fa, .long all]))
theorem wR_mem (g : xH) (ad : xAd) (st nc : Nat) (mem : Nat → Nat) (no : Nat) (out : Nat → Nat) (a i p fl : Nat) (fa : Int32) (all : Int64) (mem' : Nat → Nat) : xup (wR g ad st nc (mem, no, out, a, i, p, fl) fa all) (11, 0) (cN nc mem') = wR g ad st nc (mem', no, out, a, i, p, fl) fa all := by
  unfold wR
  dsimp only
  rw [xup_comm _ _ _ (show ((10, 0) : Tg) ≠ (11, 0) by decide), xup_comm _ _ _ (show ((12, 0) : Tg) ≠ (11, 0) by decide), xup_comm _ _ _ (show ((13, 0) : Tg) ≠ (11, 0) by decide), xup_xup]
theorem wR_out (g : xH) (ad : xAd) (st nc : Nat) (mem : Nat → Nat) (no : Nat) (out : Nat → Nat) (a i p fl : Nat) (fa : Int32) (all : Int64) (no' : Nat) (out' : Nat → Nat) : xup (xup (wR g ad st nc (mem, no, out, a, i, p, fl) fa all) (13, 0) (cN 40 out')) (12, 0) (cRow (ad (13, 0)) (nI no')) = wR g ad st nc (mem, no', out', a, i, p, fl) fa all := by
  unfold wR
  dsimp only
  rw [xup_comm _ _ _ (show ((10, 0) : Tg) ≠ (13, 0) by decide), xup_comm _ _ _ (show ((12, 0) : Tg) ≠ (13, 0) by decide), xup_xup, xup_comm _ _ _ (show ((10, 0) : Tg) ≠ (12, 0) by decide), xup_xup]
theorem wR_size (g : xH) (ad : xAd) (st nc : Nat) (mem : Nat → Nat) (no : Nat) (out : Nat → Nat) (a i p fl : Nat) (fa : Int32) (all : Int64) (no' : Nat) : xup (wR g ad st nc (mem, no, out, a, i, p, fl) fa all) (12, 0) (cRow (ad (13, 0)) (nI no')) = wR g ad st nc (mem, no', out, a, i, p, fl) fa all := by
  unfold wR
  dsimp only
  rw [xup_comm _ _ _ (show ((10, 0) : Tg) ≠ (12, 0) by decide), xup_xup]
def s_jumpIf : xSp := fun ad h av Q => ∃ g st nc mem no out a i p fl fa all b v, h = wR g ad st nc (mem, no, out, a, i, p, fl) fa all ∧ av = [.ref (ad (10, 0)), .int (bI b), .int (nI v)] ∧ Q none ad (wR g ad st nc (mem, no, out, a, i, (if b = true then v else p), fl) fa all)
set_option maxRecDepth 100000 in
theorem c_X3_jumpIf : Ct yX3_jumpIf cX3_jumpIf 3 none (xrm 0 0 0) s_jumpIf := by
  refine Ct.of (by decide) ?_
  intro p0 l e s m args below meth c G ad h av Q F hsp
  obtain ⟨g, st, nc, mem, no, out, a, i, p, fl, fa, all, b, v, rfl, rfl, hQ⟩ := hsp
  refine ⟨x_ent rfl rfl, ?_⟩
  refine x_ls [(0, .ref (ad (10, 0))), (1, .int (bI b)), (2, .int (nI v))] rfl ?_
  refine x_iload_n (q := 1) F dX3_jumpIf_0 rfl rfl ?_
  cases b with
  | false =>
    refine x_if_eq (q := 4) F 9 dX3_jumpIf_1 (by decide) rfl (fun c1 => ?_) (fun c1 => ?_)
    · refine x_vret F dX3_jumpIf_9 (xle rfl) (xle rfl) ?_
      exact hQ
    · exact absurd rfl c1
  | true =>
    refine x_if_eq (q := 4) F 9 dX3_jumpIf_1 (by decide) rfl (fun c1 => ?_) (fun c1 => ?_)
    · exact absurd c1 (by decide)
    · refine x_aload_n (q := 5) F dX3_jumpIf_4 rfl rfl (by first | exact xref_r | exact xref_n | exact xref_f _ | assumption) ?_
      refine x_iload_n (q := 6) F dX3_jumpIf_5 rfl rfl ?_
      refine x_put (q := 9) F dX3_jumpIf_6 rfl fs_X3_27 rfl (xle rfl) rfl rfl ?_
      refine x_vret F dX3_jumpIf_9 (xle rfl) (xle rfl) ?_
      rw [wR, xup_xup]
      exact hQ
def s_failIf : xSp := fun ad h av Q => ∃ g st nc mem no out a i p fl fa all b v, h = wR g ad st nc (mem, no, out, a, i, p, fl) fa all ∧ av = [.ref (ad (10, 0)), .int (bI b), .int (nI v)] ∧ Q none ad (wR g ad st nc (mem, no, out, a, i, p, (if b = true then v else fl)) fa all)
set_option maxRecDepth 100000 in
theorem c_X3_failIf : Ct yX3_failIf cX3_failIf 3 none (xrm 0 0 0) s_failIf := by
  refine Ct.of (by decide) ?_
  intro p0 l e s m args below meth c G ad h av Q F hsp
  obtain ⟨g, st, nc, mem, no, out, a, i, p, fl, fa, all, b, v, rfl, rfl, hQ⟩ := hsp
  refine ⟨x_ent rfl rfl, ?_⟩
  refine x_ls [(0, .ref (ad (10, 0))), (1, .int (bI b)), (2, .int (nI v))] rfl ?_
  refine x_iload_n (q := 1) F dX3_failIf_0 rfl rfl ?_
  cases b with
  | false =>
    refine x_if_eq (q := 4) F 9 dX3_failIf_1 (by decide) rfl (fun c1 => ?_) (fun c1 => ?_)
    · refine x_vret F dX3_failIf_9 (xle rfl) (xle rfl) ?_
      exact hQ
    · exact absurd rfl c1
  | true =>
    refine x_if_eq (q := 4) F 9 dX3_failIf_1 (by decide) rfl (fun c1 => ?_) (fun c1 => ?_)
    · exact absurd c1 (by decide)
    · refine x_aload_n (q := 5) F dX3_failIf_4 rfl rfl (by first | exact xref_r | exact xref_n | exact xref_f _ | assumption) ?_
      refine x_iload_n (q := 6) F dX3_failIf_5 rfl rfl ?_
      refine x_put (q := 9) F dX3_failIf_6 rfl fs_X3_30 rfl (xle rfl) rfl rfl ?_
      refine x_vret F dX3_failIf_9 (xle rfl) (xle rfl) ?_
      rw [wR, xup_xup]
      exact hQ
theorem nI_neg1 {j : Nat} (h : j < 2 ^ 31) : nI j ≠ -1 := fun z => by
  have := nI_toInt h
  rw [z] at this
  have h2 : (-1 : Int32).toInt = -1 := by decide
  omega
/-- a value that is NONE or a byte -/
def optI (o : Option Nat) : Int32 := match o with
  | none => -1
  | some v => nI v
def s_fetch : xSp := fun ad h av Q => ∃ g st nc mem no out a i p fl fa all o, h = wR g ad st nc (mem, no, out, a, i, p, fl) fa all ∧ av = [.ref (ad (10, 0)), .int (optI o)] ∧ (∀ v, o = some v → v < 256) ∧ Q none ad (match o with | none => wR g ad st nc (mem, no, out, a, i, p, 2) fa all | some v => wR g ad st nc (mem, no, out, v, i, p, fl) fa all)
set_option maxRecDepth 100000 in
theorem c_X3_fetch : Ct yX3_fetch cX3_fetch 2 none (xrm 0 0 0) s_fetch := by
  refine Ct.of (by decide) ?_
  intro p0 l e s m args below meth c G ad h av Q F hsp
  obtain ⟨g, st, nc, mem, no, out, a, i, p, fl, fa, all, o, rfl, rfl, ho, hQ⟩ := hsp
  refine ⟨x_ent rfl rfl, ?_⟩
  refine x_ls [(0, .ref (ad (10, 0))), (1, .int (optI o))] rfl ?_
  refine x_iload_n (q := 1) F dX3_fetch_0 rfl rfl ?_
  refine x_iconst (q := 2) (v := -1) F dX3_fetch_1 rfl (by decide) ?_
  cases o with
  | none =>
    refine x_icmp_ne (q := 5) F 13 dX3_fetch_2 (by decide) rfl (fun c2 => ?_) (fun c2 => ?_)
    · exact absurd rfl c2
    · refine x_aload_n (q := 6) F dX3_fetch_5 rfl rfl (by first | exact xref_r | exact xref_n | exact xref_f _ | assumption) ?_
      refine x_iconst (q := 7) (v := 2) F dX3_fetch_6 rfl (by decide) ?_
      refine x_put (q := 10) F dX3_fetch_7 rfl fs_X3_30 rfl (xle rfl) rfl rfl ?_
      refine x_goto F 18 dX3_fetch_10 (by decide) ?_
      refine x_vret F dX3_fetch_18 (xle rfl) (xle rfl) ?_
      rw [wR, xup_xup]
      exact hQ
  | some v =>
    refine x_icmp_ne (q := 5) F 13 dX3_fetch_2 (by decide) rfl (fun c2 => ?_) (fun c2 => ?_)
    · refine x_aload_n (q := 14) F dX3_fetch_13 rfl rfl (by first | exact xref_r | exact xref_n | exact xref_f _ | assumption) ?_
      refine x_iload_n (q := 15) F dX3_fetch_14 rfl rfl ?_
      refine x_put (q := 18) F dX3_fetch_15 rfl fs_X3_20 rfl (xle rfl) rfl rfl ?_
      refine x_vret F dX3_fetch_18 (xle rfl) (xle rfl) ?_
      rw [wR, xup_xup]
      exact hQ
    · exact absurd c2 (nI_neg1 (by have := ho v rfl; omega))
def s_store : xSp := fun ad h av Q => ∃ g st nc mem no out a i p fl fa all v, h = wR g ad st nc (mem, no, out, a, i, p, fl) fa all ∧ av = [.ref (ad (10, 0)), .int (nI v)] ∧ v < 256 ∧ nc ≤ 32 ∧ Q none ad (if v < nc then wR g ad st nc (updN mem v a, no, out, a, i, p, fl) fa all else wR g ad st nc (mem, no, out, a, i, p, 3) fa all)
theorem upd_N (f : Nat → Nat) (j v : Nat) : upd (fun i => nI (f i)) j (nI v) = fun i => nI (updN f j v i) := upd_n f j v
set_option maxRecDepth 100000 in
theorem c_X3_store : Ct yX3_store cX3_store 2 none (xrm 0 0 0) s_store := by
  refine Ct.of (by decide) ?_
  intro p0 l e s m args below meth c G ad h av Q F hsp
  obtain ⟨g, st, nc, mem, no, out, a, i, p, fl, fa, all, v, rfl, rfl, hv, hnc, hQ⟩ := hsp
  refine ⟨x_ent rfl rfl, ?_⟩
  refine x_ls [(0, .ref (ad (10, 0))), (1, .int (nI v))] rfl ?_
  refine x_iload_n (q := 1) F dX3_store_0 rfl rfl ?_
  refine x_if_lt (q := 4) F 13 dX3_store_1 (by decide) rfl (fun c1 => ?_) (fun c1 => ?_)
  · exact absurd c1 (nI_pos (by omega))
  · refine x_iload_n (q := 5) F dX3_store_4 rfl rfl ?_
    refine x_aload_n (q := 6) F dX3_store_5 rfl rfl (by first | exact xref_r | exact xref_n | exact xref_f _ | assumption) ?_
    refine x_get (q := 9) F dX3_store_6 rfl fs_X3_43 rfl rfl ?_
    refine x_alen (q := 10) F dX3_store_9 rfl rfl (by decide) ?_
    refine x_icmp_lt (q := 13) F 21 dX3_store_10 (by decide) rfl (fun c10 => ?_) (fun c10 => ?_)
    · have hlt : v < nc := (nI_ltI (by omega) (by omega)).mp c10
      rw [if_pos hlt] at hQ
      refine x_aload_n (q := 22) F dX3_store_21 rfl rfl (by first | exact xref_r | exact xref_n | exact xref_f _ | assumption) ?_
      refine x_get (q := 25) F dX3_store_22 rfl fs_X3_43 rfl rfl ?_
      refine x_iload_n (q := 26) F dX3_store_25 rfl rfl ?_
      refine x_aload_n (q := 27) F dX3_store_26 rfl rfl (by first | exact xref_r | exact xref_n | exact xref_f _ | assumption) ?_
      refine x_get (q := 30) F dX3_store_27 rfl fs_X3_20 rfl rfl ?_
      refine x_iast (q := 31) F dX3_store_30 rfl rfl rfl (by omega) (by omega) ?_
      rw [upd_N]
      refine x_h (wR_mem _ _ _ _ _ _ _ _ _ _ _ _ _ _) ?_
      refine x_vret F dX3_store_31 (xle rfl) (xle rfl) ?_
      exact hQ
    · have hge : ¬ v < nc := fun z => c10 ((nI_ltI (by omega) (by omega)).mpr z)
      rw [if_neg hge] at hQ
      refine x_aload_n (q := 14) F dX3_store_13 rfl rfl (by first | exact xref_r | exact xref_n | exact xref_f _ | assumption) ?_
      refine x_iconst (q := 15) (v := 3) F dX3_store_14 rfl (by decide) ?_
      refine x_put (q := 18) F dX3_store_15 rfl fs_X3_30 rfl (xle rfl) rfl rfl ?_
      refine x_goto F 31 dX3_store_18 (by decide) ?_
      refine x_vret F dX3_store_31 (xle rfl) (xle rfl) ?_
      rw [wR, xup_xup]
      exact hQ
def s_recall : xSp := fun ad h av Q => ∃ g st nc mem no out a i p fl fa all v, h = wR g ad st nc (mem, no, out, a, i, p, fl) fa all ∧ av = [.ref (ad (10, 0)), .int (nI v)] ∧ v < 256 ∧ nc ≤ 32 ∧ Q none ad (if v < nc then wR g ad st nc (mem, no, out, mem v, i, p, fl) fa all else wR g ad st nc (mem, no, out, a, i, p, 3) fa all)
set_option maxRecDepth 100000 in
theorem c_X3_recall : Ct yX3_recall cX3_recall 2 none (xrm 0 0 0) s_recall := by
  refine Ct.of (by decide) ?_
  intro p0 l e s m args below meth c G ad h av Q F hsp
  obtain ⟨g, st, nc, mem, no, out, a, i, p, fl, fa, all, v, rfl, rfl, hv, hnc, hQ⟩ := hsp
  refine ⟨x_ent rfl rfl, ?_⟩
  refine x_ls [(0, .ref (ad (10, 0))), (1, .int (nI v))] rfl ?_
  refine x_iload_n (q := 1) F dX3_recall_0 rfl rfl ?_
  refine x_if_lt (q := 4) F 13 dX3_recall_1 (by decide) rfl (fun c1 => ?_) (fun c1 => ?_)
  · exact absurd c1 (nI_pos (by omega))
  · refine x_iload_n (q := 5) F dX3_recall_4 rfl rfl ?_
    refine x_aload_n (q := 6) F dX3_recall_5 rfl rfl (by first | exact xref_r | exact xref_n | exact xref_f _ | assumption) ?_
    refine x_get (q := 9) F dX3_recall_6 rfl fs_X3_43 rfl rfl ?_
    refine x_alen (q := 10) F dX3_recall_9 rfl rfl (by decide) ?_
    refine x_icmp_lt (q := 13) F 21 dX3_recall_10 (by decide) rfl (fun c10 => ?_) (fun c10 => ?_)
    · have hlt : v < nc := (nI_ltI (by omega) (by omega)).mp c10
      rw [if_pos hlt] at hQ
      refine x_aload_n (q := 22) F dX3_recall_21 rfl rfl (by first | exact xref_r | exact xref_n | exact xref_f _ | assumption) ?_
      refine x_aload_n (q := 23) F dX3_recall_22 rfl rfl (by first | exact xref_r | exact xref_n | exact xref_f _ | assumption) ?_
      refine x_get (q := 26) F dX3_recall_23 rfl fs_X3_43 rfl rfl ?_
      refine x_iload_n (q := 27) F dX3_recall_26 rfl rfl ?_
      refine x_iald (q := 28) F dX3_recall_27 rfl rfl rfl (by omega) (by omega) ?_
      refine x_put (q := 31) F dX3_recall_28 rfl fs_X3_20 rfl (xle rfl) rfl rfl ?_
      refine x_vret F dX3_recall_31 (xle rfl) (xle rfl) ?_
      rw [wR, xup_xup]
      exact hQ
    · have hge : ¬ v < nc := fun z => c10 ((nI_ltI (by omega) (by omega)).mpr z)
      rw [if_neg hge] at hQ
      refine x_aload_n (q := 14) F dX3_recall_13 rfl rfl (by first | exact xref_r | exact xref_n | exact xref_f _ | assumption) ?_
      refine x_iconst (q := 15) (v := 3) F dX3_recall_14 rfl (by decide) ?_
      refine x_put (q := 18) F dX3_recall_15 rfl fs_X3_30 rfl (xle rfl) rfl rfl ?_
      refine x_goto F 31 dX3_recall_18 (by decide) ?_
      refine x_vret F dX3_recall_31 (xle rfl) (xle rfl) ?_
      rw [wR, xup_xup]
      exact hQ
/-- v times A put out, as far as there is room -/
def pushF (no : Nat) (out : Nat → Nat) (a v : Nat) : Nat → Nat := fun j => if no ≤ j ∧ j < min (no + v) 40 then a else out j
theorem pushF_0 (no : Nat) (out : Nat → Nat) (a : Nat) : pushF no out a 0 = out := by
  funext j
  unfold pushF
  rw [if_neg (by omega)]
theorem pushF_s {no : Nat} (out : Nat → Nat) (a : Nat) {v : Nat} (h : no + v < 40) : updN (pushF no out a v) (no + v) a = pushF no out a (v + 1) := by
  funext j
  unfold updN pushF
  by_cases q : j = no + v
  · rw [if_pos q, if_pos (by omega)]
  · rw [if_neg q]
    by_cases z : no ≤ j ∧ j < min (no + v) 40
    · rw [if_pos z, if_pos (by omega)]
    · rw [if_neg z, if_neg (by omega)]
theorem pushF_full {no : Nat} (out : Nat → Nat) (a : Nat) {v w : Nat} (h : no + v = 40) (hw : v ≤ w) : pushF no out a w = pushF no out a v := by
  funext j
  unfold pushF
  by_cases z : no ≤ j ∧ j < min (no + v) 40
  · rw [if_pos z, if_pos (by omega)]
  · rw [if_neg z, if_neg (by omega)]
def s_putOut : xSp := fun ad h av Q => ∃ g st nc mem no out a i p fl fa all v, h = wR g ad st nc (mem, no, out, a, i, p, fl) fa all ∧ av = [.ref (ad (10, 0)), .int (nI v)] ∧ v < 256 ∧ no ≤ 40 ∧ Q none ad (wR g ad st nc (mem, min (no + v) 40, pushF no out a v, a, i, p, (if no + v ≤ 40 then fl else 3)) fa all)
set_option maxRecDepth 100000 in
set_option maxHeartbeats 1000000 in
theorem c_X3_putOut : Ct yX3_putOut cX3_putOut 4 none (xrm 1 0 0) s_putOut := by
  refine Ct.of (by decide) ?_
  intro p0 l e s m args below meth c G ad h av Q F hsp
  obtain ⟨g, st, nc, mem, no, out, a, i, p, fl, fa, all, v, rfl, rfl, hv, hno, hQ⟩ := hsp
  refine ⟨x_ent rfl rfl, ?_⟩
  have fin : ∀ (b : Bool) (n : Int32) (q : RS), Q none ad (wR g ad st nc (q.1, q.2.1, q.2.2.1, q.2.2.2.1, q.2.2.2.2.1, q.2.2.2.2.2.1, (if b = true then q.2.2.2.2.2.2 else 3)) fa all) →
      xX p0 l e (xrm 1 0 0) s m args below meth c G ad (wR g ad st nc (mem, no, out, a, i, p, fl) fa all) 4 (xZ below G ad (wR g ad st nc (mem, no, out, a, i, p, fl) fa all) Q args s (xrm 1 0 0)) 31 [(0, .ref (ad (10, 0))), (1, .int (nI v)), (2, .int (bI b)), (3, .int n)] [] ad (wR g ad st nc q fa all) 0 0 := by
    intro b n q hq
    obtain ⟨mem, no, out, a, i, p, fl⟩ := q
    refine x_aload_n (q := 32) F dX3_putOut_31 rfl rfl (by first | exact xref_r | exact xref_n | exact xref_f _ | assumption) ?_
    refine x_iload_n (q := 33) F dX3_putOut_32 rfl rfl ?_
    cases b with
    | true =>
      refine x_if_ne (q := 36) F 40 dX3_putOut_33 (by decide) rfl (fun c33 => ?_) (fun c33 => ?_)
      · refine x_iconst (q := 41) (v := 0) F dX3_putOut_40 rfl (by decide) ?_
        refine x_iconst (q := 42) (v := 3) F dX3_putOut_41 rfl (by decide) ?_
        refine x_callV2 (q := 45) F (10, 0) c_X3_failIf dX3_putOut_42 rfl mv_X3_failIf ml_X3_108 ⟨⟨xle rfl, xle rfl⟩, xle rfl, xle rfl⟩ rfl rfl (xle rfl) ?_
        refine ⟨g, st, nc, mem, no, out, a, i, p, fl, fa, all, false, 3, rfl, rfl, fun _ => ?_⟩
        refine x_vret F dX3_putOut_45 (xle rfl) (xle rfl) ?_
        exact hq
      · exact absurd c33 (by decide)
    | false =>
      refine x_if_ne (q := 36) F 40 dX3_putOut_33 (by decide) rfl (fun c33 => ?_) (fun c33 => ?_)
      · exact absurd rfl c33
      · refine x_iconst (q := 37) (v := 1) F dX3_putOut_36 rfl (by decide) ?_
        refine x_goto F 41 dX3_putOut_37 (by decide) ?_
        refine x_iconst (q := 42) (v := 3) F dX3_putOut_41 rfl (by decide) ?_
        refine x_callV2 (q := 45) F (10, 0) c_X3_failIf dX3_putOut_42 rfl mv_X3_failIf ml_X3_108 ⟨⟨xle rfl, xle rfl⟩, xle rfl, xle rfl⟩ rfl rfl (xle rfl) ?_
        refine ⟨g, st, nc, mem, no, out, a, i, p, fl, fa, all, true, 3, rfl, rfl, fun _ => ?_⟩
        refine x_vret F dX3_putOut_45 (xle rfl) (xle rfl) ?_
        exact hq
  have loop : ∀ n : Nat, n ≤ v → no + n ≤ 40 → xX p0 l e (xrm 1 0 0) s m args below meth c G ad (wR g ad st nc (mem, no, out, a, i, p, fl) fa all) 4 (xZ below G ad (wR g ad st nc (mem, no, out, a, i, p, fl) fa all) Q args s (xrm 1 0 0)) 4 [(0, .ref (ad (10, 0))), (1, .int (nI v)), (2, .int 1), (3, .int (nI n))] [] ad (wR g ad st nc (mem, no + n, pushF no out a n, a, i, p, fl) fa all) 0 0 := by
    intro n
    induction hd : v - n using Nat.strongRecOn generalizing n with
    | ind d ih =>
      intro hn h40
      refine x_iload_n (q := 5) F dX3_putOut_4 rfl rfl ?_
      refine x_iload_n (q := 6) F dX3_putOut_5 rfl rfl ?_
      refine x_icmp_ge (q := 9) F 31 dX3_putOut_6 (by decide) rfl (fun c6 => ?_) (fun c6 => ?_)
      · have : n = v := by have := (nI_leI (by omega) (by omega)).mp c6; omega
        subst this
        refine fin true (nI n) (mem, no + n, pushF no out a n, a, i, p, fl) ?_
        rw [if_pos h40, Nat.min_eq_left h40] at hQ
        exact hQ
      · have hlt : n < v := by
          rcases Nat.lt_or_ge n v with q | q
          · exact q
          · exact absurd ((nI_leI (by omega) (by omega)).mpr q) c6
        refine x_iload_n (q := 10) F dX3_putOut_9 rfl rfl ?_
        refine x_if_eq (q := 13) F 31 dX3_putOut_10 (by decide) rfl (fun c10 => ?_) (fun c10 => ?_)
        · exact absurd c10 (by decide)
        · refine x_aload_n (q := 14) F dX3_putOut_13 rfl rfl (by first | exact xref_r | exact xref_n | exact xref_f _ | assumption) ?_
          refine x_get (q := 17) F dX3_putOut_14 rfl fs_X3_14 rfl rfl ?_
          refine x_aload_n (q := 18) F dX3_putOut_17 rfl rfl (by first | exact xref_r | exact xref_n | exact xref_f _ | assumption) ?_
          refine x_get (q := 21) F dX3_putOut_18 rfl fs_X3_20 rfl rfl ?_
          refine x_callV1 (q := 24) F (12, 0) c_X0_add dX3_putOut_21 rfl mv_X0_add ml_X3_111 ⟨⟨xle rfl, xle rfl⟩, xle rfl, xle rfl⟩ rfl rfl (xle rfl) ?_
          refine ⟨(12, 0), (13, 0), no + n, 40, _, _, rfl, rfl, rfl, by decide, by omega, h40, fun hz _ => ?_, fun hz _ => ?_⟩
          · refine x_istore_n (q := 25) F dX3_putOut_24 rfl (by decide) ?_
            refine x_iinc (q := 28) F dX3_putOut_25 rfl rfl rfl (by decide) ?_
            refine x_goto F 4 dX3_putOut_28 (by decide) ?_
            refine x_ls [(0, .ref (ad (10, 0))), (1, .int (nI v)), (2, .int 0), (3, .int (nI n + 1))] rfl ?_
            have hfull : Q none ad (wR g ad st nc (mem, no + n, pushF no out a n, a, i, p, 3) fa all) := by
              rw [if_neg (by omega), pushF_full out a hz (by omega : n ≤ v), Nat.min_eq_right (by omega)] at hQ
              rw [hz]
              exact hQ
            refine x_iload_n (q := 5) F dX3_putOut_4 rfl rfl ?_
            refine x_iload_n (q := 6) F dX3_putOut_5 rfl rfl ?_
            refine x_icmp_ge (q := 9) F 31 dX3_putOut_6 (by decide) rfl (fun c6b => ?_) (fun c6b => ?_)
            · exact fin false _ (mem, no + n, pushF no out a n, a, i, p, fl) hfull
            · refine x_iload_n (q := 10) F dX3_putOut_9 rfl rfl ?_
              refine x_if_eq (q := 13) F 31 dX3_putOut_10 (by decide) rfl (fun c10b => ?_) (fun c10b => ?_)
              · exact fin false _ (mem, no + n, pushF no out a n, a, i, p, fl) hfull
              · exact absurd rfl c10b
          · rw [upd_N, pushF_s out a hz]
            refine x_h (wR_out _ _ _ _ _ _ _ _ _ _ _ _ _ _ _) ?_
            refine x_istore_n (q := 25) F dX3_putOut_24 rfl (by decide) ?_
            refine x_iinc (q := 28) F dX3_putOut_25 rfl rfl (nI_1 n) (by decide) ?_
            refine x_goto F 4 dX3_putOut_28 (by decide) ?_
            refine x_ls [(0, .ref (ad (10, 0))), (1, .int (nI v)), (2, .int 1), (3, .int (nI (n + 1)))] rfl ?_
            exact ih (v - (n + 1)) (by omega) (n + 1) rfl (by omega) (by omega)
  refine x_ls [(0, .ref (ad (10, 0))), (1, .int (nI v))] rfl ?_
  refine x_iconst (q := 1) (v := 1) F dX3_putOut_0 rfl (by decide) ?_
  refine x_istore_n (q := 2) F dX3_putOut_1 rfl (by decide) ?_
  refine x_iconst (q := 3) (v := 0) F dX3_putOut_2 rfl (by decide) ?_
  refine x_istore_n (q := 4) F dX3_putOut_3 rfl (by decide) ?_
  refine x_ls [(0, .ref (ad (10, 0))), (1, .int (nI v)), (2, .int 1), (3, .int (nI 0))] rfl ?_
  refine x_h (h2 := wR g ad st nc (mem, no + 0, pushF no out a 0, a, i, p, fl) fa all) (by rw [pushF_0]; rfl) ?_
  exact loop 0 (Nat.zero_le _) (by omega)
end
section
/-! ===== one command: stepWithin, step ===== -/
theorem nI_xor (a b : Nat) : nI a ^^^ nI b = nI (a ^^^ b) := by
  apply Int32.toBitVec_inj.mp
  show (BitVec.ofNat 32 a) ^^^ (BitVec.ofNat 32 b) = BitVec.ofNat 32 (a ^^^ b)
  apply BitVec.eq_of_toNat_eq
  simp [BitVec.toNat_xor, Nat.xor_mod_two_pow]
theorem xor_256 {a b : Nat} (ha : a < 256) (hb : b < 256) : a ^^^ b < 256 := Nat.xor_lt_two_pow (n := 8) ha hb
def L14 : List Nat := [114, 119, 97, 120, 115, 103, 105, 107, 106, 122, 101, 98, 102, 104]
def stepF (nc sz : Nat) (f : Nat → Nat) (c v : Nat) (q : RS) : RS := match q with
  | (mem, no, out, a, i, p, fl) =>
    if c = 114 then (if i + v < sz then (mem, no, out, f (i + v), i, p, fl) else (mem, no, out, a, i, p, 2))
    else if c = 119 then (mem, min (no + v) 40, pushF no out a v, a, i, p, if no + v ≤ 40 then fl else 3)
    else if c = 115 then (if v < nc then (updN mem v a, no, out, a, i, p, fl) else (mem, no, out, a, i, p, 3))
    else if c = 103 then (if v < nc then (mem, no, out, mem v, i, p, fl) else (mem, no, out, a, i, p, 3))
    else if c = 101 then (mem, no, out, a, i, (if sz ≤ i then v else p), fl)
    else if c = 97 then (mem, no, out, (a + v) % 256, i, p, fl)
    else if c = 120 then (mem, no, out, a ^^^ v, i, p, fl)
    else if c = 105 then (mem, no, out, a, min (i + v) 1000000, p, fl)
    else if c = 107 then (mem, no, out, a, v, p, fl)
    else if c = 106 then (mem, no, out, a, i, (if a = 0 then p else v), fl)
    else if c = 122 then (mem, no, out, a, i, (if a = 0 then v else p), fl)
    else if c = 98 then (mem, no, out, a, i, v, fl)
    else if c = 102 then (mem, no, out, a, i, p, if a = v then fl else 1)
    else (mem, no, out, a, i, 40, fl)
def L9 : List Nat := [97, 120, 105, 107, 106, 122, 98, 102, 104]
def s_stepW : xSp := fun ad h av Q => ∃ g st nc mem no out a i p fl fa all c v sz f, h = wR g ad st nc (mem, no, out, a, i, p, fl) fa all ∧ av = [.ref (ad (10, 0)), .int (nI c), .int (nI v)] ∧ c ∈ L9 ∧ v < 256 ∧ a < 256 ∧ i ≤ 1000000 ∧ Q none ad (wR g ad st nc (stepF nc sz f c v (mem, no, out, a, i, p, fl)) fa all)
set_option maxRecDepth 100000 in
set_option maxHeartbeats 2000000 in
theorem c_X3_stepWithin : Ct yX3_stepWithin cX3_stepWithin 3 none (xrm 1 0 0) s_stepW := by
  refine Ct.of (by decide) ?_
  intro p0 l e s m args below meth c0 G ad h av Q F hsp
  obtain ⟨g, st, nc, mem, no, out, a, i, p, fl, fa, all, c, v, sz, f, rfl, rfl, hc, hv, ha, hi, hQ⟩ := hsp
  refine ⟨x_ent rfl rfl, ?_⟩
  refine x_ls [(0, .ref (ad (10, 0))), (1, .int (nI c)), (2, .int (nI v))] rfl ?_
  refine x_iload_n (q := 1) F dX3_stepWithin_0 rfl rfl ?_
  simp only [L9, List.mem_cons, List.not_mem_nil, or_false] at hc
  rcases hc with rfl | rfl | rfl | rfl | rfl | rfl | rfl | rfl | rfl
  · refine x_tableIn F 120 dX3_stepWithin_1 (by decide) (by decide) (off := 119) (by decide) (by decide) ?_
    refine x_aload_n (q := 121) F dX3_stepWithin_120 rfl rfl (by first | exact xref_r | exact xref_n | exact xref_f _ | assumption) ?_
    refine x_aload_n (q := 122) F dX3_stepWithin_121 rfl rfl (by first | exact xref_r | exact xref_n | exact xref_f _ | assumption) ?_
    refine x_get (q := 125) F dX3_stepWithin_122 rfl fs_X3_20 rfl rfl ?_
    refine x_iload_n (q := 126) F dX3_stepWithin_125 rfl rfl ?_
    refine x_iadd (q := 127) F dX3_stepWithin_126 rfl ?_
    refine x_sipush (q := 130) (v := 255) F dX3_stepWithin_127 rfl (by decide) ?_
    refine x_iand (q := 131) F dX3_stepWithin_130 rfl ?_
    refine x_topi (y := nI ((a + v) % 256)) (by rw [nI_add]; exact pk_andN (by omega) 8 (by decide)) ?_
    refine x_put (q := 134) F dX3_stepWithin_131 rfl fs_X3_20 rfl (xle rfl) rfl rfl ?_
    refine x_goto F 253 dX3_stepWithin_134 (by decide) ?_
    refine x_vret F dX3_stepWithin_253 (xle rfl) (xle rfl) ?_
    rw [wR, xup_xup]
    exact hQ
  · refine x_tableIn F 137 dX3_stepWithin_1 (by decide) (by decide) (off := 136) (by decide) (by decide) ?_
    refine x_aload_n (q := 138) F dX3_stepWithin_137 rfl rfl (by first | exact xref_r | exact xref_n | exact xref_f _ | assumption) ?_
    refine x_aload_n (q := 139) F dX3_stepWithin_138 rfl rfl (by first | exact xref_r | exact xref_n | exact xref_f _ | assumption) ?_
    refine x_get (q := 142) F dX3_stepWithin_139 rfl fs_X3_20 rfl rfl ?_
    refine x_iload_n (q := 143) F dX3_stepWithin_142 rfl rfl ?_
    refine x_ixor (q := 144) F dX3_stepWithin_143 rfl ?_
    refine x_topi (nI_xor a v) ?_
    refine x_put (q := 147) F dX3_stepWithin_144 rfl fs_X3_20 rfl (xle rfl) rfl rfl ?_
    refine x_goto F 253 dX3_stepWithin_147 (by decide) ?_
    refine x_vret F dX3_stepWithin_253 (xle rfl) (xle rfl) ?_
    rw [wR, xup_xup]
    exact hQ
  · refine x_tableIn F 150 dX3_stepWithin_1 (by decide) (by decide) (off := 149) (by decide) (by decide) ?_
    refine x_aload_n (q := 151) F dX3_stepWithin_150 rfl rfl (by first | exact xref_r | exact xref_n | exact xref_f _ | assumption) ?_
    refine x_aload_n (q := 152) F dX3_stepWithin_151 rfl rfl (by first | exact xref_r | exact xref_n | exact xref_f _ | assumption) ?_
    refine x_get (q := 155) F dX3_stepWithin_152 rfl fs_X3_24 rfl rfl ?_
    refine x_iload_n (q := 156) F dX3_stepWithin_155 rfl rfl ?_
    refine x_iadd (q := 157) F dX3_stepWithin_156 rfl ?_
    refine x_ldc (q := 159) F dX3_stepWithin_157 rfl ct_X3_101 ?_
    refine x_mmin (q := 162) F dX3_stepWithin_159 rfl ml_X3_102 mw_min (xle rfl) (xle rfl) (xle rfl) (xle rfl) ?_
    refine x_topi (y := nI (min (i + v) 1000000)) ?_ ?_
    · rw [nI_add, show (1000000 : Int32) = nI 1000000 from rfl]
      by_cases q : i + v ≤ 1000000
      · rw [if_neg (fun z => absurd ((nI_ltI (a := 1000000) (b := i + v) (by omega) (by omega)).mp z) (by omega)), Nat.min_eq_left q]
      · rw [if_pos ((nI_ltI (a := 1000000) (b := i + v) (by omega) (by omega)).mpr (by omega)), Nat.min_eq_right (by omega)]
    refine x_put (q := 165) F dX3_stepWithin_162 rfl fs_X3_24 rfl (xle rfl) rfl rfl ?_
    refine x_goto F 253 dX3_stepWithin_165 (by decide) ?_
    refine x_vret F dX3_stepWithin_253 (xle rfl) (xle rfl) ?_
    rw [wR, xup_xup]
    exact hQ
  · refine x_tableIn F 168 dX3_stepWithin_1 (by decide) (by decide) (off := 167) (by decide) (by decide) ?_
    refine x_aload_n (q := 169) F dX3_stepWithin_168 rfl rfl (by first | exact xref_r | exact xref_n | exact xref_f _ | assumption) ?_
    refine x_iload_n (q := 170) F dX3_stepWithin_169 rfl rfl ?_
    refine x_put (q := 173) F dX3_stepWithin_170 rfl fs_X3_24 rfl (xle rfl) rfl rfl ?_
    refine x_goto F 253 dX3_stepWithin_173 (by decide) ?_
    refine x_vret F dX3_stepWithin_253 (xle rfl) (xle rfl) ?_
    rw [wR, xup_xup]
    exact hQ
  · refine x_tableIn F 176 dX3_stepWithin_1 (by decide) (by decide) (off := 175) (by decide) (by decide) ?_
    refine x_aload_n (q := 177) F dX3_stepWithin_176 rfl rfl (by first | exact xref_r | exact xref_n | exact xref_f _ | assumption) ?_
    refine x_aload_n (q := 178) F dX3_stepWithin_177 rfl rfl (by first | exact xref_r | exact xref_n | exact xref_f _ | assumption) ?_
    refine x_get (q := 181) F dX3_stepWithin_178 rfl fs_X3_20 rfl rfl ?_
    refine x_if_eq (q := 184) F 188 dX3_stepWithin_181 (by decide) rfl (fun c181 => ?_) (fun c181 => ?_)
    · have hz : a = 0 := (nI_eq (b := 0) (by omega) (by omega)).mp c181
      refine x_iconst (q := 189) (v := 0) F dX3_stepWithin_188 rfl (by decide) ?_
      refine x_iload_n (q := 190) F dX3_stepWithin_189 rfl rfl ?_
      refine x_callV2 (q := 193) F (10, 0) c_X3_jumpIf dX3_stepWithin_190 rfl mv_X3_jumpIf ml_X3_93 ⟨⟨xle rfl, xle rfl⟩, xle rfl, xle rfl⟩ rfl rfl (xle rfl) ?_
      refine ⟨g, st, nc, mem, no, out, a, i, p, fl, fa, all, false, v, rfl, rfl, fun _ => ?_⟩
      refine x_goto F 253 dX3_stepWithin_193 (by decide) ?_
      refine x_vret F dX3_stepWithin_253 (xle rfl) (xle rfl) ?_
      subst hz
      exact hQ
    · have hz : ¬ a = 0 := fun z => c181 (by rw [z]; rfl)
      refine x_iconst (q := 185) (v := 1) F dX3_stepWithin_184 rfl (by decide) ?_
      refine x_goto F 189 dX3_stepWithin_185 (by decide) ?_
      refine x_iload_n (q := 190) F dX3_stepWithin_189 rfl rfl ?_
      refine x_callV2 (q := 193) F (10, 0) c_X3_jumpIf dX3_stepWithin_190 rfl mv_X3_jumpIf ml_X3_93 ⟨⟨xle rfl, xle rfl⟩, xle rfl, xle rfl⟩ rfl rfl (xle rfl) ?_
      refine ⟨g, st, nc, mem, no, out, a, i, p, fl, fa, all, true, v, rfl, rfl, fun _ => ?_⟩
      refine x_goto F 253 dX3_stepWithin_193 (by decide) ?_
      refine x_vret F dX3_stepWithin_253 (xle rfl) (xle rfl) ?_
      have : stepF nc sz f 106 v (mem, no, out, a, i, p, fl) = (mem, no, out, a, i, v, fl) := by show (mem, no, out, a, i, (if a = 0 then p else v), fl) = _; rw [if_neg hz]
      rw [this] at hQ
      exact hQ
  · refine x_tableIn F 196 dX3_stepWithin_1 (by decide) (by decide) (off := 195) (by decide) (by decide) ?_
    refine x_aload_n (q := 197) F dX3_stepWithin_196 rfl rfl (by first | exact xref_r | exact xref_n | exact xref_f _ | assumption) ?_
    refine x_aload_n (q := 198) F dX3_stepWithin_197 rfl rfl (by first | exact xref_r | exact xref_n | exact xref_f _ | assumption) ?_
    refine x_get (q := 201) F dX3_stepWithin_198 rfl fs_X3_20 rfl rfl ?_
    refine x_if_ne (q := 204) F 208 dX3_stepWithin_201 (by decide) rfl (fun c201 => ?_) (fun c201 => ?_)
    · have hz : ¬ a = 0 := fun z => c201 (by rw [z]; rfl)
      refine x_iconst (q := 209) (v := 0) F dX3_stepWithin_208 rfl (by decide) ?_
      refine x_iload_n (q := 210) F dX3_stepWithin_209 rfl rfl ?_
      refine x_callV2 (q := 213) F (10, 0) c_X3_jumpIf dX3_stepWithin_210 rfl mv_X3_jumpIf ml_X3_93 ⟨⟨xle rfl, xle rfl⟩, xle rfl, xle rfl⟩ rfl rfl (xle rfl) ?_
      refine ⟨g, st, nc, mem, no, out, a, i, p, fl, fa, all, false, v, rfl, rfl, fun _ => ?_⟩
      refine x_goto F 253 dX3_stepWithin_213 (by decide) ?_
      refine x_vret F dX3_stepWithin_253 (xle rfl) (xle rfl) ?_
      have : stepF nc sz f 122 v (mem, no, out, a, i, p, fl) = (mem, no, out, a, i, p, fl) := by show (mem, no, out, a, i, (if a = 0 then v else p), fl) = _; rw [if_neg hz]
      rw [this] at hQ
      exact hQ
    · have hz : a = 0 := (nI_eq (b := 0) (by omega) (by omega)).mp c201
      refine x_iconst (q := 205) (v := 1) F dX3_stepWithin_204 rfl (by decide) ?_
      refine x_goto F 209 dX3_stepWithin_205 (by decide) ?_
      refine x_iload_n (q := 210) F dX3_stepWithin_209 rfl rfl ?_
      refine x_callV2 (q := 213) F (10, 0) c_X3_jumpIf dX3_stepWithin_210 rfl mv_X3_jumpIf ml_X3_93 ⟨⟨xle rfl, xle rfl⟩, xle rfl, xle rfl⟩ rfl rfl (xle rfl) ?_
      refine ⟨g, st, nc, mem, no, out, a, i, p, fl, fa, all, true, v, rfl, rfl, fun _ => ?_⟩
      refine x_goto F 253 dX3_stepWithin_213 (by decide) ?_
      refine x_vret F dX3_stepWithin_253 (xle rfl) (xle rfl) ?_
      subst hz
      exact hQ
  · refine x_tableIn F 216 dX3_stepWithin_1 (by decide) (by decide) (off := 215) (by decide) (by decide) ?_
    refine x_aload_n (q := 217) F dX3_stepWithin_216 rfl rfl (by first | exact xref_r | exact xref_n | exact xref_f _ | assumption) ?_
    refine x_iconst (q := 218) (v := 1) F dX3_stepWithin_217 rfl (by decide) ?_
    refine x_iload_n (q := 219) F dX3_stepWithin_218 rfl rfl ?_
    refine x_callV2 (q := 222) F (10, 0) c_X3_jumpIf dX3_stepWithin_219 rfl mv_X3_jumpIf ml_X3_93 ⟨⟨xle rfl, xle rfl⟩, xle rfl, xle rfl⟩ rfl rfl (xle rfl) ?_
    refine ⟨g, st, nc, mem, no, out, a, i, p, fl, fa, all, true, v, rfl, rfl, fun _ => ?_⟩
    refine x_goto F 253 dX3_stepWithin_222 (by decide) ?_
    refine x_vret F dX3_stepWithin_253 (xle rfl) (xle rfl) ?_
    exact hQ
  · refine x_tableIn F 225 dX3_stepWithin_1 (by decide) (by decide) (off := 224) (by decide) (by decide) ?_
    refine x_aload_n (q := 226) F dX3_stepWithin_225 rfl rfl (by first | exact xref_r | exact xref_n | exact xref_f _ | assumption) ?_
    refine x_aload_n (q := 227) F dX3_stepWithin_226 rfl rfl (by first | exact xref_r | exact xref_n | exact xref_f _ | assumption) ?_
    refine x_get (q := 230) F dX3_stepWithin_227 rfl fs_X3_20 rfl rfl ?_
    refine x_iload_n (q := 231) F dX3_stepWithin_230 rfl rfl ?_
    refine x_icmp_eq (q := 234) F 238 dX3_stepWithin_231 (by decide) rfl (fun c231 => ?_) (fun c231 => ?_)
    · have hz : a = v := (nI_eq (by omega) (by omega)).mp c231
      refine x_iconst (q := 239) (v := 0) F dX3_stepWithin_238 rfl (by decide) ?_
      refine x_iconst (q := 240) (v := 1) F dX3_stepWithin_239 rfl (by decide) ?_
      refine x_callV2 (q := 243) F (10, 0) c_X3_failIf dX3_stepWithin_240 rfl mv_X3_failIf ml_X3_108 ⟨⟨xle rfl, xle rfl⟩, xle rfl, xle rfl⟩ rfl rfl (xle rfl) ?_
      refine ⟨g, st, nc, mem, no, out, a, i, p, fl, fa, all, false, 1, rfl, rfl, fun _ => ?_⟩
      refine x_goto F 253 dX3_stepWithin_243 (by decide) ?_
      refine x_vret F dX3_stepWithin_253 (xle rfl) (xle rfl) ?_
      have : stepF nc sz f 102 v (mem, no, out, a, i, p, fl) = (mem, no, out, a, i, p, fl) := by show (mem, no, out, a, i, p, (if a = v then fl else 1)) = _; rw [if_pos hz]
      rw [this] at hQ
      exact hQ
    · have hz : ¬ a = v := fun z => c231 (by rw [z])
      refine x_iconst (q := 235) (v := 1) F dX3_stepWithin_234 rfl (by decide) ?_
      refine x_goto F 239 dX3_stepWithin_235 (by decide) ?_
      refine x_iconst (q := 240) (v := 1) F dX3_stepWithin_239 rfl (by decide) ?_
      refine x_callV2 (q := 243) F (10, 0) c_X3_failIf dX3_stepWithin_240 rfl mv_X3_failIf ml_X3_108 ⟨⟨xle rfl, xle rfl⟩, xle rfl, xle rfl⟩ rfl rfl (xle rfl) ?_
      refine ⟨g, st, nc, mem, no, out, a, i, p, fl, fa, all, true, 1, rfl, rfl, fun _ => ?_⟩
      refine x_goto F 253 dX3_stepWithin_243 (by decide) ?_
      refine x_vret F dX3_stepWithin_253 (xle rfl) (xle rfl) ?_
      have : stepF nc sz f 102 v (mem, no, out, a, i, p, fl) = (mem, no, out, a, i, p, 1) := by show (mem, no, out, a, i, p, (if a = v then fl else 1)) = _; rw [if_neg hz]
      rw [this] at hQ
      exact hQ
  · refine x_tableIn F 246 dX3_stepWithin_1 (by decide) (by decide) (off := 245) (by decide) (by decide) ?_
    refine x_aload_n (q := 247) F dX3_stepWithin_246 rfl rfl (by first | exact xref_r | exact xref_n | exact xref_f _ | assumption) ?_
    refine x_iconst (q := 248) (v := 1) F dX3_stepWithin_247 rfl (by decide) ?_
    refine x_bipush (q := 250) (v := 40) F dX3_stepWithin_248 rfl (by decide) ?_
    refine x_callV2 (q := 253) F (10, 0) c_X3_jumpIf dX3_stepWithin_250 rfl mv_X3_jumpIf ml_X3_93 ⟨⟨xle rfl, xle rfl⟩, xle rfl, xle rfl⟩ rfl rfl (xle rfl) ?_
    refine ⟨g, st, nc, mem, no, out, a, i, p, fl, fa, all, true, 40, rfl, rfl, fun _ => ?_⟩
    refine x_vret F dX3_stepWithin_253 (xle rfl) (xle rfl) ?_
    exact hQ
theorem rowAt_opt {n : Nat} (f : Nat → Nat) (hn : n < 2 ^ 30) {j : Nat} (hj : j < 2 ^ 30) : rowAt n (fun i => nI (f i)) (nI j) = optI (if j < n then some (f j) else none) := by
  by_cases q : j < n
  · rw [if_pos q, rowAt_in q (by omega)]; rfl
  · rw [if_neg q, rowAt_ge (by omega) ((nI_leI (by omega) (by omega)).mpr (by omega))]; rfl
def s_step : xSp := fun ad h av Q => ∃ g st nc mem no out a i p fl fa all c v io n N f, h = wR g ad st nc (mem, no, out, a, i, p, fl) fa all ∧ av = [.ref (ad (10, 0)), .int (nI c), .int (nI v), .ref (ad (31, io))] ∧ g (31, io) = some (cRow (ad (32, io)) (nI n)) ∧ g (32, io) = some (cN N f) ∧ n ≤ N ∧ N ≤ 1000 ∧ (∀ j, j < n → f j < 256) ∧ c ∈ L14 ∧ v < 256 ∧ a < 256 ∧ i ≤ 1000000 ∧ nc ≤ 32 ∧ no ≤ 40 ∧ Q none ad (wR g ad st nc (stepF nc n f c v (mem, no, out, a, i, p, fl)) fa all)
set_option maxRecDepth 100000 in
set_option maxHeartbeats 2000000 in
theorem c_X3_step : Ct yX3_step cX3_step 4 none (xrm 2 0 0) s_step := by
  refine Ct.of (by decide) ?_
  intro p0 l e s m args below meth c0 G ad h av Q F hsp
  obtain ⟨g, st, nc, mem, no, out, a, i, p, fl, fa, all, c, v, io, n, N, f, rfl, rfl, e1, e2, hn, hN, hf, hc, hv, ha, hi, hnc, hno, hQ⟩ := hsp
  refine ⟨x_ent rfl rfl, ?_⟩
  refine x_ls [(0, .ref (ad (10, 0))), (1, .int (nI c)), (2, .int (nI v)), (3, .ref (ad (31, io)))] rfl ?_
  refine x_iload_n (q := 1) F dX3_step_0 rfl rfl ?_
  by_cases h9 : c ∈ L9
  · refine x_lookup F 117 dX3_step_1 (by decide) (off := 116) ?_ (by decide) ?_
    · simp only [L9, List.mem_cons, List.not_mem_nil, or_false] at h9
      rcases h9 with rfl | rfl | rfl | rfl | rfl | rfl | rfl | rfl | rfl <;> decide
    refine x_aload_n (q := 118) F dX3_step_117 rfl rfl (by first | exact xref_r | exact xref_n | exact xref_f _ | assumption) ?_
    refine x_iload_n (q := 119) F dX3_step_118 rfl rfl ?_
    refine x_iload_n (q := 120) F dX3_step_119 rfl rfl ?_
    refine x_callV2 (q := 123) F (10, 0) c_X3_stepWithin dX3_step_120 rfl mv_X3_stepWithin ml_X3_97 ⟨⟨xle rfl, xle rfl⟩, xle rfl, xle rfl⟩ rfl rfl (xle rfl) ?_
    refine ⟨g, st, nc, mem, no, out, a, i, p, fl, fa, all, c, v, n, f, rfl, rfl, h9, hv, ha, hi, fun _ => ?_⟩
    refine x_vret F dX3_step_123 (xle rfl) (xle rfl) ?_
    exact hQ
  · have h5 : c = 101 ∨ c = 103 ∨ c = 114 ∨ c = 115 ∨ c = 119 := by
      simp only [L14, L9, List.mem_cons, List.not_mem_nil, or_false, not_or] at hc h9
      omega
    rcases h5 with rfl | rfl | rfl | rfl | rfl
    · refine x_lookup F 93 dX3_step_1 (by decide) (off := 92) (by decide) (by decide) ?_
      refine x_aload_n (q := 94) F dX3_step_93 rfl rfl (by first | exact xref_r | exact xref_n | exact xref_f _ | assumption) ?_
      refine x_aload_n (q := 95) F dX3_step_94 rfl rfl (by first | exact xref_r | exact xref_n | exact xref_f _ | assumption) ?_
      refine x_get (q := 98) F dX3_step_95 rfl fs_X3_24 rfl rfl ?_
      refine x_aload_n (q := 99) F dX3_step_98 rfl rfl (by first | exact xref_r | exact xref_n | exact xref_f _ | assumption) ?_
      refine x_getN (q := 102) F dX3_step_99 rfl fn_X3_91 e1 rfl ?_
      refine x_icmp_lt (q := 105) F 109 dX3_step_102 (by decide) rfl (fun c102 => ?_) (fun c102 => ?_)
      · have hz : ¬ n ≤ i := by have := (nI_ltI (by omega) (by omega)).mp c102; omega
        refine x_iconst (q := 110) (v := 0) F dX3_step_109 rfl (by decide) ?_
        refine x_iload_n (q := 111) F dX3_step_110 rfl rfl ?_
        refine x_callV2 (q := 114) F (10, 0) c_X3_jumpIf dX3_step_111 rfl mv_X3_jumpIf ml_X3_93 ⟨⟨xle rfl, xle rfl⟩, xle rfl, xle rfl⟩ rfl rfl (xle rfl) ?_
        refine ⟨g, st, nc, mem, no, out, a, i, p, fl, fa, all, false, v, rfl, rfl, fun _ => ?_⟩
        refine x_goto F 123 dX3_step_114 (by decide) ?_
        refine x_vret F dX3_step_123 (xle rfl) (xle rfl) ?_
        have : stepF nc n f 101 v (mem, no, out, a, i, p, fl) = (mem, no, out, a, i, p, fl) := by show (mem, no, out, a, i, (if n ≤ i then v else p), fl) = _; rw [if_neg hz]
        rw [this] at hQ
        exact hQ
      · have hz : n ≤ i := by
          rcases Nat.lt_or_ge i n with q | q
          · exact absurd ((nI_ltI (by omega) (by omega)).mpr q) c102
          · exact q
        refine x_iconst (q := 106) (v := 1) F dX3_step_105 rfl (by decide) ?_
        refine x_goto F 110 dX3_step_106 (by decide) ?_
        refine x_iload_n (q := 111) F dX3_step_110 rfl rfl ?_
        refine x_callV2 (q := 114) F (10, 0) c_X3_jumpIf dX3_step_111 rfl mv_X3_jumpIf ml_X3_93 ⟨⟨xle rfl, xle rfl⟩, xle rfl, xle rfl⟩ rfl rfl (xle rfl) ?_
        refine ⟨g, st, nc, mem, no, out, a, i, p, fl, fa, all, true, v, rfl, rfl, fun _ => ?_⟩
        refine x_goto F 123 dX3_step_114 (by decide) ?_
        refine x_vret F dX3_step_123 (xle rfl) (xle rfl) ?_
        have : stepF nc n f 101 v (mem, no, out, a, i, p, fl) = (mem, no, out, a, i, v, fl) := by show (mem, no, out, a, i, (if n ≤ i then v else p), fl) = _; rw [if_pos hz]
        rw [this] at hQ
        exact hQ
    · refine x_lookup F 85 dX3_step_1 (by decide) (off := 84) (by decide) (by decide) ?_
      refine x_aload_n (q := 86) F dX3_step_85 rfl rfl (by first | exact xref_r | exact xref_n | exact xref_f _ | assumption) ?_
      refine x_iload_n (q := 87) F dX3_step_86 rfl rfl ?_
      refine x_callV1 (q := 90) F (10, 0) c_X3_recall dX3_step_87 rfl mv_X3_recall ml_X3_88 ⟨⟨xle rfl, xle rfl⟩, xle rfl, xle rfl⟩ rfl rfl (xle rfl) ?_
      refine ⟨g, st, nc, mem, no, out, a, i, p, fl, fa, all, v, rfl, rfl, hv, hnc, fun _ => ?_⟩
      refine x_goto F 123 dX3_step_90 (by decide) ?_
      refine x_vret F dX3_step_123 (xle rfl) (xle rfl) ?_
      have : stepF nc n f 103 v (mem, no, out, a, i, p, fl) = if v < nc then (mem, no, out, mem v, i, p, fl) else (mem, no, out, a, i, p, 3) := rfl
      rw [this] at hQ
      by_cases z : v < nc
      · rw [if_pos z] at hQ ⊢; exact hQ
      · rw [if_neg z] at hQ ⊢; exact hQ
    · refine x_lookup F 52 dX3_step_1 (by decide) (off := 51) (by decide) (by decide) ?_
      refine x_aload_n (q := 53) F dX3_step_52 rfl rfl (by first | exact xref_r | exact xref_n | exact xref_f _ | assumption) ?_
      refine x_aload_n (q := 54) F dX3_step_53 rfl rfl (by first | exact xref_r | exact xref_n | exact xref_f _ | assumption) ?_
      refine x_aload_n (q := 55) F dX3_step_54 rfl rfl (by first | exact xref_r | exact xref_n | exact xref_f _ | assumption) ?_
      refine x_get (q := 58) F dX3_step_55 rfl fs_X3_24 rfl rfl ?_
      refine x_iload_n (q := 59) F dX3_step_58 rfl rfl ?_
      refine x_iadd (q := 60) F dX3_step_59 rfl ?_
      rw [nI_add]
      refine x_callV1 (q := 63) F (31, io) c_X0_byteAt dX3_step_60 rfl mv_X0_byteAt ml_X3_74 ⟨⟨xle rfl, xle rfl⟩, xle rfl, xle rfl⟩ rfl e1 (xle rfl) ?_
      refine ⟨(31, io), (32, io), n, N, _, _, rfl, e1, e2, hn, hN, fun _ => ?_⟩
      rw [rowAt_opt f (by omega) (by omega)]
      refine x_callV1 (q := 66) F (10, 0) c_X3_fetch dX3_step_63 rfl mv_X3_fetch ml_X3_78 ⟨⟨xle rfl, xle rfl⟩, xle rfl, xle rfl⟩ rfl rfl (xle rfl) ?_
      refine ⟨g, st, nc, mem, no, out, a, i, p, fl, fa, all, _, rfl, rfl, fun w hw => ?_, fun _ => ?_⟩
      · by_cases z : i + v < n
        · rw [if_pos z] at hw; cases hw; exact hf _ z
        · rw [if_neg z] at hw; cases hw
      refine x_goto F 123 dX3_step_66 (by decide) ?_
      refine x_vret F dX3_step_123 (xle rfl) (xle rfl) ?_
      have : stepF nc n f 114 v (mem, no, out, a, i, p, fl) = if i + v < n then (mem, no, out, f (i + v), i, p, fl) else (mem, no, out, a, i, p, 2) := rfl
      rw [this] at hQ
      by_cases z : i + v < n
      · rw [if_pos z] at hQ ⊢; exact hQ
      · rw [if_neg z] at hQ ⊢; exact hQ
    · refine x_lookup F 77 dX3_step_1 (by decide) (off := 76) (by decide) (by decide) ?_
      refine x_aload_n (q := 78) F dX3_step_77 rfl rfl (by first | exact xref_r | exact xref_n | exact xref_f _ | assumption) ?_
      refine x_iload_n (q := 79) F dX3_step_78 rfl rfl ?_
      refine x_callV1 (q := 82) F (10, 0) c_X3_store dX3_step_79 rfl mv_X3_store ml_X3_85 ⟨⟨xle rfl, xle rfl⟩, xle rfl, xle rfl⟩ rfl rfl (xle rfl) ?_
      refine ⟨g, st, nc, mem, no, out, a, i, p, fl, fa, all, v, rfl, rfl, hv, hnc, fun _ => ?_⟩
      refine x_goto F 123 dX3_step_82 (by decide) ?_
      refine x_vret F dX3_step_123 (xle rfl) (xle rfl) ?_
      have : stepF nc n f 115 v (mem, no, out, a, i, p, fl) = if v < nc then (updN mem v a, no, out, a, i, p, fl) else (mem, no, out, a, i, p, 3) := rfl
      rw [this] at hQ
      by_cases z : v < nc
      · rw [if_pos z] at hQ ⊢; exact hQ
      · rw [if_neg z] at hQ ⊢; exact hQ
    · refine x_lookup F 69 dX3_step_1 (by decide) (off := 68) (by decide) (by decide) ?_
      refine x_aload_n (q := 70) F dX3_step_69 rfl rfl (by first | exact xref_r | exact xref_n | exact xref_f _ | assumption) ?_
      refine x_iload_n (q := 71) F dX3_step_70 rfl rfl ?_
      refine x_callV1 (q := 74) F (10, 0) c_X3_putOut dX3_step_71 rfl mv_X3_putOut ml_X3_82 ⟨⟨xle rfl, xle rfl⟩, xle rfl, xle rfl⟩ rfl rfl (xle rfl) ?_
      refine ⟨g, st, nc, mem, no, out, a, i, p, fl, fa, all, v, rfl, rfl, hv, hno, fun _ => ?_⟩
      refine x_goto F 123 dX3_step_74 (by decide) ?_
      refine x_vret F dX3_step_123 (xle rfl) (xle rfl) ?_
      exact hQ
end
section
/-! ===== a run: begin, Script.size, run ===== -/
section XCELL
variable {p : Program} {l : Launch} {e : Env} {R : Room} {s : State} {m : MethodId} {args : Array Value} {below : List Frame} {meth : Method} {c : Code} {G : xG} {ad0 : xAd} {h0 : xH} {nL : Nat} {Z : State → Prop} {pc : Nat} {ls : List (Nat × Value)} {st : List Value} {ad : xAd} {h : xH} {k n : Nat}
/-- an array's places behind its end are nobody's -/
theorem x_cell {t : Tg} {ti N : Nat} {f g : Nat → Int32} (hfg : ∀ j, j < N → f j = g j) (kk : xX p l e R s m args below meth c G ad0 h0 nL Z pc ls st ad (xup h t (.inl (ti, N, .inl g))) k n) : xX p l e R s m args below meth c G ad0 h0 nL Z pc ls st ad (xup h t (.inl (ti, N, .inl f))) k n := by
  intro H locs la hR hS hL hE
  have hc : ∀ cA, vp_cell cA (N, .inl f) = vp_cell cA (N, .inl g) := by
    intro cA
    rw [vp_cell_i, vp_cell_i]
    unfold arrV
    congr 1
    apply Array.ext
    · simp
    · intro i h1 h2
      simp at h1
      simp [hfg i h1]
  have hlive : ∀ u, xup h t (.inl (ti, N, .inl f)) u ≠ none ↔ xup h t (.inl (ti, N, .inl g)) u ≠ none := by
    intro u
    unfold xup
    by_cases z : u = t
    · rw [if_pos z, if_pos z]
      constructor <;> (intro _ q; cases q)
    · rw [if_neg z, if_neg z]
  refine kk H locs la ⟨fun u e he => ?_, fun u v hu hv => hR.2 u v ((hlive u).mpr hu) ((hlive v).mpr hv)⟩ hS hL (fun u hu => ⟨(hlive u).mp (hE u hu).1, (hE u hu).2⟩)
  by_cases z : u = t
  · subst z
    rw [xup_self] at he
    cases he
    have := hR.1 u _ (xup_self _ _ _)
    refine ⟨?_, this.2⟩
    have h1 : H[ad u]? = some (vp_cell (G.2.1 ti) (N, .inl f)) := this.1
    show H[ad u]? = some (vp_cell (G.2.1 ti) (N, .inl g))
    rw [← hc]; exact h1
  · rw [xup_ne _ _ z] at he
    exact hR.1 u e (by rw [xup_ne _ _ z]; exact he)
end XCELL
def s_begin : xSp := fun ad h av Q => ∃ g st nc mem no out a i p fl fa all, h = wR g ad st nc (mem, no, out, a, i, p, fl) fa all ∧ av = [.ref (ad (10, 0))] ∧ nc ≤ 32 ∧ Q none ad (wR g ad st nc (fun _ => 0, 0, out, 0, 0, 0, 0) (-1) all)
set_option maxRecDepth 100000 in
set_option maxHeartbeats 1000000 in
theorem c_X3_begin : Ct yX3_begin cX3_begin 1 none (xrm 1 0 0) s_begin := by
  refine Ct.of (by decide) ?_
  intro p0 l e s m args below meth c0 G ad h av Q F hsp
  obtain ⟨g, st, nc, mem, no, out, a, i, p, fl, fa, all, rfl, rfl, hnc, hQ⟩ := hsp
  refine ⟨x_ent rfl rfl, ?_⟩
  refine x_ls [(0, .ref (ad (10, 0)))] rfl ?_
  refine x_aload_n (q := 1) F dX3_begin_0 rfl rfl (by first | exact xref_r | exact xref_n | exact xref_f _ | assumption) ?_
  refine x_get (q := 4) F dX3_begin_1 rfl fs_X3_43 rfl rfl ?_
  refine x_iconst (q := 5) (v := 0) F dX3_begin_4 rfl (by decide) ?_
  refine x_callS2 (q := 8) F c_J7_fill_53178 dX3_begin_5 rfl ms_J7_fill_53178 ml_X3_66 ⟨⟨xle rfl, xle rfl⟩, xle rfl, xle rfl⟩ (xle rfl) ?_
  refine ⟨(11, 0), nc, _, _, rfl, rfl, by omega, fun _ => ?_⟩
  refine x_cell (g := fun j => nI ((fun _ => 0) j)) (fun j hj => by show filled _ _ _ j = nI 0; unfold filled; rw [if_pos hj]; rfl) ?_
  refine x_h (wR_mem _ _ _ _ _ _ _ _ _ _ _ _ _ _) ?_
  refine x_aload_n (q := 9) F dX3_begin_8 rfl rfl (by first | exact xref_r | exact xref_n | exact xref_f _ | assumption) ?_
  refine x_get (q := 12) F dX3_begin_9 rfl fs_X3_14 rfl rfl ?_
  refine x_callV0 (q := 15) F (12, 0) c_X0_clear dX3_begin_12 rfl mv_X0_clear ml_X3_71 ⟨⟨xle rfl, xle rfl⟩, xle rfl, xle rfl⟩ rfl rfl (xle rfl) ?_
  refine ⟨(12, 0), _, _, rfl, rfl, fun _ => ?_⟩
  refine x_h (wR_size _ _ _ _ _ _ _ _ _ _ _ _ _ 0) ?_
  refine x_aload_n (q := 16) F dX3_begin_15 rfl rfl (by first | exact xref_r | exact xref_n | exact xref_f _ | assumption) ?_
  refine x_iconst (q := 17) (v := 0) F dX3_begin_16 rfl (by decide) ?_
  refine x_put (q := 20) F dX3_begin_17 rfl fs_X3_20 rfl (xle rfl) rfl rfl ?_
  refine x_h (h2 := wR g ad st nc (fun _ => 0, 0, out, 0, i, p, fl) fa all) (xup_xup _ _ _ _) ?_
  refine x_aload_n (q := 21) F dX3_begin_20 rfl rfl (by first | exact xref_r | exact xref_n | exact xref_f _ | assumption) ?_
  refine x_iconst (q := 22) (v := 0) F dX3_begin_21 rfl (by decide) ?_
  refine x_put (q := 25) F dX3_begin_22 rfl fs_X3_24 rfl (xle rfl) rfl rfl ?_
  refine x_h (h2 := wR g ad st nc (fun _ => 0, 0, out, 0, 0, p, fl) fa all) (xup_xup _ _ _ _) ?_
  refine x_aload_n (q := 26) F dX3_begin_25 rfl rfl (by first | exact xref_r | exact xref_n | exact xref_f _ | assumption) ?_
  refine x_iconst (q := 27) (v := 0) F dX3_begin_26 rfl (by decide) ?_
  refine x_put (q := 30) F dX3_begin_27 rfl fs_X3_27 rfl (xle rfl) rfl rfl ?_
  refine x_h (h2 := wR g ad st nc (fun _ => 0, 0, out, 0, 0, 0, fl) fa all) (xup_xup _ _ _ _) ?_
  refine x_aload_n (q := 31) F dX3_begin_30 rfl rfl (by first | exact xref_r | exact xref_n | exact xref_f _ | assumption) ?_
  refine x_iconst (q := 32) (v := 0) F dX3_begin_31 rfl (by decide) ?_
  refine x_put (q := 35) F dX3_begin_32 rfl fs_X3_30 rfl (xle rfl) rfl rfl ?_
  refine x_h (h2 := wR g ad st nc (fun _ => 0, 0, out, 0, 0, 0, 0) fa all) (xup_xup _ _ _ _) ?_
  refine x_aload_n (q := 36) F dX3_begin_35 rfl rfl (by first | exact xref_r | exact xref_n | exact xref_f _ | assumption) ?_
  refine x_iconst (q := 37) (v := -1) F dX3_begin_36 rfl (by decide) ?_
  refine x_put (q := 40) F dX3_begin_37 rfl fs_X3_33 rfl (xle rfl) rfl rfl ?_
  refine x_h (h2 := wR g ad st nc (fun _ => 0, 0, out, 0, 0, 0, 0) (-1) all) (xup_xup _ _ _ _) ?_
  refine x_vret F dX3_begin_40 (xle rfl) (xle rfl) ?_
  exact hQ
abbrev cScr (a b d f : Nat) (nx : Int32) : xE := .inr (4, [.ref a, .ref b, .ref d, .ref f, .int nx])
def s_scrSize : xSp := fun ad h av Q => ∃ (t b1 b2 : Tg) (d f : Nat) (nx : Int32) (N : Nat) (u v : Nat → Int32), av = [.ref (ad t)] ∧ h t = some (cScr (ad b1) (ad b2) d f nx) ∧ h b1 = some (cI N u) ∧ h b2 = some (cI N v) ∧ N ≤ 1000 ∧ Q (some (.int (nI N))) ad h
set_option maxRecDepth 100000 in
theorem c_X4_size : Ct yX4_size cX4_size 1 (some .int) (xrm 1 0 0) s_scrSize := by
  refine Ct.of (by decide) ?_
  intro p0 l e s m args below meth c0 G ad h av Q F hsp
  obtain ⟨t, b1, b2, d, f, nx, N, u, v, rfl, e1, e2, e3, hN, hQ⟩ := hsp
  refine ⟨x_ent rfl rfl, ?_⟩
  refine x_ls [(0, .ref (ad t))] rfl ?_
  refine x_aload_n (q := 1) F dX4_size_0 rfl rfl (by first | exact xref_r | exact xref_n | exact xref_f _ | assumption) ?_
  refine x_get (q := 4) F dX4_size_1 rfl fs_X4_25 e1 rfl ?_
  refine x_alen (q := 5) F dX4_size_4 rfl e2 (by decide) ?_
  refine x_aload_n (q := 6) F dX4_size_5 rfl rfl (by first | exact xref_r | exact xref_n | exact xref_f _ | assumption) ?_
  refine x_get (q := 9) F dX4_size_6 rfl fs_X4_29 e1 rfl ?_
  refine x_alen (q := 10) F dX4_size_9 rfl e3 (by decide) ?_
  refine x_mmin (q := 13) F dX4_size_10 rfl ml_X4_32 mw_min (xle rfl) (xle rfl) (xle rfl) (xle rfl) ?_
  refine x_topi (y := nI N) (by split <;> rfl) ?_
  refine x_iret F dX4_size_13 (xle rfl) (xle rfl) ?_
  exact hQ
def rP (q : RS) : Nat := q.2.2.2.2.2.1
def rF (q : RS) : Nat := q.2.2.2.2.2.2
def rA (q : RS) : Nat := q.2.2.2.1
def rI (q : RS) : Nat := q.2.2.2.2.1
def rNo (q : RS) : Nat := q.2.1
def rOut (q : RS) : Nat → Nat := q.2.2.1
def rMem (q : RS) : Nat → Nat := q.1
def setP (q : RS) (v : Nat) : RS := (q.1, q.2.1, q.2.2.1, q.2.2.2.1, q.2.2.2.2.1, v, q.2.2.2.2.2.2)
def setF (q : RS) (v : Nat) : RS := (q.1, q.2.1, q.2.2.1, q.2.2.2.1, q.2.2.2.2.1, q.2.2.2.2.2.1, v)
/-- numbers in their ranges -/
def RSok (q : RS) : Prop := rA q < 256 ∧ rI q ≤ 1000000 ∧ rNo q ≤ 40 ∧ (∀ j, rMem q j < 256) ∧ rP q ≤ 255 ∧ rF q ≤ 4 ∧ ∀ j, j < rNo q → rOut q j < 256
theorem stepF_ok {nc sz : Nat} {f : Nat → Nat} {c v : Nat} {q : RS} (h : RSok q) (hv : v < 256) (hf : ∀ j, j < sz → f j < 256) : RSok (stepF nc sz f c v q) := by
  obtain ⟨mem, no, out, a, i, p, fl⟩ := q
  obtain ⟨h1, h2, h3, h4, h5, h6, h7⟩ := h
  have h1 : a < 256 := h1
  have h2 : i ≤ 1000000 := h2
  have h3 : no ≤ 40 := h3
  have h4 : ∀ j, mem j < 256 := h4
  have h5 : p ≤ 255 := h5
  have h6 : fl ≤ 4 := h6
  have h7 : ∀ j, j < no → out j < 256 := h7
  unfold stepF
  dsimp only
  by_cases c1 : c = 114
  · rw [if_pos c1]
    by_cases hz : i + v < sz
    · rw [if_pos hz]; exact ⟨hf _ hz, h2, h3, h4, h5, h6, h7⟩
    · rw [if_neg hz]; exact ⟨h1, h2, h3, h4, h5, (by show 2 ≤ 4; omega), h7⟩
  rw [if_neg c1]
  by_cases c1 : c = 119
  · rw [if_pos c1]
    refine ⟨h1, h2, by show min (no + v) 40 ≤ 40; omega, h4, h5, ?_, fun j hj => ?_⟩
    · show (if no + v ≤ 40 then fl else 3) ≤ 4
      by_cases hz : no + v ≤ 40
      · rw [if_pos hz]; exact h6
      · rw [if_neg hz]; omega
    have hj : j < min (no + v) 40 := hj
    show pushF no out a v j < 256
    unfold pushF
    by_cases hz : no ≤ j ∧ j < min (no + v) 40
    · rw [if_pos hz]; exact h1
    · rw [if_neg hz]; exact h7 j (by omega)
  rw [if_neg c1]
  by_cases c1 : c = 115
  · rw [if_pos c1]
    by_cases hz : v < nc
    · rw [if_pos hz]
      refine ⟨h1, h2, h3, fun j => ?_, h5, h6, h7⟩
      show updN mem v a j < 256
      unfold updN
      by_cases hy : j = v
      · rw [if_pos hy]; exact h1
      · rw [if_neg hy]; exact h4 j
    · rw [if_neg hz]; exact ⟨h1, h2, h3, h4, h5, (by show 3 ≤ 4; omega), h7⟩
  rw [if_neg c1]
  by_cases c1 : c = 103
  · rw [if_pos c1]
    by_cases hz : v < nc
    · rw [if_pos hz]; exact ⟨h4 _, h2, h3, h4, h5, h6, h7⟩
    · rw [if_neg hz]; exact ⟨h1, h2, h3, h4, h5, (by show 3 ≤ 4; omega), h7⟩
  rw [if_neg c1]
  by_cases c1 : c = 101
  · rw [if_pos c1]
    refine ⟨h1, h2, h3, h4, ?_, h6, h7⟩
    show (if sz ≤ i then v else p) ≤ 255
    by_cases hz : sz ≤ i
    · rw [if_pos hz]; omega
    · rw [if_neg hz]; exact h5
  rw [if_neg c1]
  by_cases c1 : c = 97
  · rw [if_pos c1]; exact ⟨by show (a + v) % 256 < 256; omega, h2, h3, h4, h5, h6, h7⟩
  rw [if_neg c1]
  by_cases c1 : c = 120
  · rw [if_pos c1]; exact ⟨xor_256 h1 hv, h2, h3, h4, h5, h6, h7⟩
  rw [if_neg c1]
  by_cases c1 : c = 105
  · rw [if_pos c1]; exact ⟨h1, by show min (i + v) 1000000 ≤ 1000000; omega, h3, h4, h5, h6, h7⟩
  rw [if_neg c1]
  by_cases c1 : c = 107
  · rw [if_pos c1]; exact ⟨h1, by show v ≤ 1000000; omega, h3, h4, h5, h6, h7⟩
  rw [if_neg c1]
  by_cases c1 : c = 106
  · rw [if_pos c1]
    refine ⟨h1, h2, h3, h4, ?_, h6, h7⟩
    show (if a = 0 then p else v) ≤ 255
    by_cases hz : a = 0
    · rw [if_pos hz]; exact h5
    · rw [if_neg hz]; omega
  rw [if_neg c1]
  by_cases c1 : c = 122
  · rw [if_pos c1]
    refine ⟨h1, h2, h3, h4, ?_, h6, h7⟩
    show (if a = 0 then v else p) ≤ 255
    by_cases hz : a = 0
    · rw [if_pos hz]; omega
    · rw [if_neg hz]; exact h5
  rw [if_neg c1]
  by_cases c1 : c = 98
  · rw [if_pos c1]; exact ⟨h1, h2, h3, h4, by show v ≤ 255; omega, h6, h7⟩
  rw [if_neg c1]
  by_cases c1 : c = 102
  · rw [if_pos c1]
    refine ⟨h1, h2, h3, h4, h5, ?_, h7⟩
    show (if a = v then fl else 1) ≤ 4
    by_cases hz : a = v
    · rw [if_pos hz]; exact h6
    · rw [if_neg hz]; omega
  rw [if_neg c1]
  exact ⟨h1, h2, h3, h4, by show 40 ≤ 255; omega, h6, h7⟩
/-- at most so many commands more: the state, where it failed, how many were done -/
def loopF (nc sz : Nat) (f L V : Nat → Nat) (nk : Nat) : Nat → RS → Option Nat → Nat → RS × Option Nat × Nat
  | 0, q, fa, d => (q, fa, d)
  | k + 1, q, fa, d => if rP q < nk ∧ rF q = 0 then
      loopF nc sz f L V nk k (stepF nc sz f (L (rP q)) (V (rP q)) (setP q (rP q + 1))) (if rF (stepF nc sz f (L (rP q)) (V (rP q)) (setP q (rP q + 1))) = 0 then fa else some (rP q)) (d + 1)
    else (q, fa, d)
/-- behind the loop: one command more than the steps would be done -/
def endF (nk : Nat) (z : RS × Option Nat × Nat) : RS × Option Nat × Nat := if rF z.1 = 0 ∧ rP z.1 < nk then (setF z.1 4, some (rP z.1), z.2.2) else z
def runF (nc sz : Nat) (f L V : Nat → Nat) (nk st : Nat) (out : Nat → Nat) : RS × Option Nat × Nat := endF nk (loopF nc sz f L V nk st (fun _ => 0, 0, out, 0, 0, 0, 0) none 0)
theorem loopF_ok {nc sz : Nat} {f L V : Nat → Nat} {nk : Nat} (hV : ∀ j, j < nk → V j < 256) (hf : ∀ j, j < sz → f j < 256) (hk : nk ≤ 40) : ∀ (k : Nat) (q : RS) (fa : Option Nat) (d : Nat), RSok q → RSok (loopF nc sz f L V nk k q fa d).1 := by
  intro k
  induction k with
  | zero => intro q fa d h; exact h
  | succ k ih =>
    intro q fa d h
    unfold loopF
    split
    · rename_i hz
      refine ih _ _ _ (stepF_ok ?_ (hV _ hz.1) hf)
      obtain ⟨h1, h2, h3, h4, h5, h6, h7⟩ := h
      exact ⟨h1, h2, h3, h4, by show rP q + 1 ≤ 255; omega, h6, h7⟩
    · exact h
theorem rs0_ok (out : Nat → Nat) : RSok (fun _ => 0, 0, out, 0, 0, 0, 0) := ⟨(by show 0 < 256; omega), (by show 0 ≤ 1000000; omega), (by show 0 ≤ 40; omega), fun _ => (by show 0 < 256; omega), (by show 0 ≤ 255; omega), (by show 0 ≤ 4; omega), fun j hj => absurd hj (Nat.not_lt_zero j)⟩
theorem runF_ok {nc sz : Nat} {f L V : Nat → Nat} {nk st : Nat} {out : Nat → Nat} (hV : ∀ j, j < nk → V j < 256) (hf : ∀ j, j < sz → f j < 256) (hk : nk ≤ 40) : RSok (runF nc sz f L V nk st out).1 := by
  have h := loopF_ok (nc := nc) (L := L) hV hf hk st (fun _ => 0, 0, out, 0, 0, 0, 0) none 0 (rs0_ok out)
  unfold runF endF
  split
  · obtain ⟨h1, h2, h3, h4, h5, h6, h7⟩ := h
    exact ⟨h1, h2, h3, h4, h5, by show 4 ≤ 4; omega, h7⟩
  · exact h
theorem loopF_d {nc sz : Nat} {f L V : Nat → Nat} {nk : Nat} : ∀ (k : Nat) (q : RS) (fa : Option Nat) (d : Nat), (loopF nc sz f L V nk k q fa d).2.2 ≤ d + k := by
  intro k
  induction k with
  | zero => intro q fa d; exact Nat.le_refl _
  | succ k ih =>
    intro q fa d
    unfold loopF
    split
    · have := ih (stepF nc sz f (L (rP q)) (V (rP q)) (setP q (rP q + 1))) (if rF (stepF nc sz f (L (rP q)) (V (rP q)) (setP q (rP q + 1))) = 0 then fa else some (rP q)) (d + 1)
      omega
    · exact Nat.le_add_right _ _
/-- the loop, once it stands, stays -/
theorem loopF_stop {nc sz : Nat} {f L V : Nat → Nat} {nk : Nat} {q : RS} (h : ¬ (rP q < nk ∧ rF q = 0)) (k : Nat) (fa : Option Nat) (d : Nat) : loopF nc sz f L V nk k q fa d = (q, fa, d) := by
  cases k with
  | zero => rfl
  | succ k => unfold loopF; rw [if_neg h]
def s_run : xSp := fun ad h av Q => ∃ g st nc q fa all sc io n N f nk L V d3 d4 nx, h = wR g ad st nc q fa all ∧ av = [.ref (ad (10, 0)), .ref (ad (20, sc)), .ref (ad (31, io))] ∧
  g (20, sc) = some (cScr (ad (21, sc)) (ad (22, sc)) d3 d4 nx) ∧ g (21, sc) = some (cN nk L) ∧ g (22, sc) = some (cN nk V) ∧ nk ≤ 40 ∧ (∀ j, j < nk → L j ∈ L14) ∧ (∀ j, j < nk → V j < 256) ∧
  g (31, io) = some (cRow (ad (32, io)) (nI n)) ∧ g (32, io) = some (cN N f) ∧ n ≤ N ∧ N ≤ 1000 ∧ (∀ j, j < n → f j < 256) ∧ nc ≤ 32 ∧ st ≤ 2000 ∧
  Q (some (.int (nI (rF (runF nc n f L V nk st (rOut q)).1)))) ad (wR g ad st nc (runF nc n f L V nk st (rOut q)).1 (optI (runF nc n f L V nk st (rOut q)).2.1) (all + (nI (runF nc n f L V nk st (rOut q)).2.2).toInt64))
set_option maxRecDepth 100000 in
set_option maxHeartbeats 4000000 in
theorem c_X3_run : Ct yX3_run cX3_run 6 (some .int) (xrm 3 0 0) s_run := by
  refine Ct.of (by decide) ?_
  intro p0 l e s m args below meth c0 G ad h av Q F hsp
  obtain ⟨g, st, nc, q, fa, all, sc, io, n, N, f, nk, L, V, d3, d4, nx, rfl, rfl, e1, e2, e3, hnk, hL, hV, e4, e5, hn, hN, hf, hnc, hst, hQ⟩ := hsp
  refine ⟨x_ent rfl rfl, ?_⟩
  refine x_ls [(0, .ref (ad (10, 0))), (1, .ref (ad (20, sc))), (2, .ref (ad (31, io)))] rfl ?_
  obtain ⟨mem, no, out, a, i, p, fl⟩ := q
  generalize hh0 : wR g ad st nc (mem, no, out, a, i, p, fl) fa all = h0 at F ⊢
  -- behind the loop
  have fin : ∀ (q : RS) (fb : Option Nat) (d : Nat), RSok q → d ≤ 2000 → endF nk (q, fb, d) = runF nc n f L V nk st out →
      xX p0 l e (xrm 3 0 0) s m args below meth c0 G ad h0 6 (xZ below G ad h0 Q args s (xrm 3 0 0)) 97 [(0, .ref (ad (10, 0))), (1, .ref (ad (20, sc))), (2, .ref (ad (31, io))), (3, .int (nI nk)), (4, .int (nI d))] [] ad (wR g ad st nc q (optI fb) all) 0 0 := by
    intro q fb d hok hd2 hend
    rw [show rOut (mem, no, out, a, i, p, fl) = out from rfl, ← hend] at hQ
    obtain ⟨mem, no, out2, a, i, p, fl⟩ := q
    obtain ⟨-, -, -, -, hp, hfl, -⟩ := hok
    have hp : p ≤ 255 := hp
    have hfl : fl ≤ 4 := hfl
    refine x_aload_n (q := 98) F dX3_run_97 rfl rfl (by first | exact xref_r | exact xref_n | exact xref_f _ | assumption) ?_
    refine x_dup (q := 99) F dX3_run_98 rfl rfl ?_
    refine x_get (q := 102) F dX3_run_99 rfl fs_X3_36 rfl rfl ?_
    refine x_iload (q := 104) F dX3_run_102 rfl rfl ?_
    refine x_i2l (q := 105) F dX3_run_104 rfl ?_
    refine x_ladd (q := 106) F dX3_run_105 rfl ?_
    refine x_put (q := 109) F dX3_run_106 rfl fs_X3_36 rfl (xle rfl) rfl rfl ?_
    refine x_h (h2 := wR g ad st nc (mem, no, out2, a, i, p, fl) (optI fb) (all + (nI d).toInt64)) (xup_xup _ _ _ _) ?_
    refine x_aload_n (q := 110) F dX3_run_109 rfl rfl (by first | exact xref_r | exact xref_n | exact xref_f _ | assumption) ?_
    refine x_get (q := 113) F dX3_run_110 rfl fs_X3_30 rfl rfl ?_
    refine x_if_ne (q := 116) F 137 dX3_run_113 (by decide) rfl (fun c113 => ?_) (fun c113 => ?_)
    · have hz : ¬ fl = 0 := fun z => c113 (by rw [z]; rfl)
      have he : endF nk ((mem, no, out2, a, i, p, fl), fb, d) = ((mem, no, out2, a, i, p, fl), fb, d) := if_neg (fun z => hz z.1)
      rw [he] at hQ
      refine x_aload_n (q := 138) F dX3_run_137 rfl rfl (by first | exact xref_r | exact xref_n | exact xref_f _ | assumption) ?_
      refine x_get (q := 141) F dX3_run_138 rfl fs_X3_30 rfl rfl ?_
      refine x_iret F dX3_run_141 (xle rfl) (xle rfl) ?_
      exact hQ
    · have hz : fl = 0 := (nI_eq (b := 0) (by omega) (by omega)).mp c113
      refine x_aload_n (q := 117) F dX3_run_116 rfl rfl (by first | exact xref_r | exact xref_n | exact xref_f _ | assumption) ?_
      refine x_get (q := 120) F dX3_run_117 rfl fs_X3_27 rfl rfl ?_
      refine x_iload_n (q := 121) F dX3_run_120 rfl rfl ?_
      refine x_icmp_ge (q := 124) F 137 dX3_run_121 (by decide) rfl (fun c121 => ?_) (fun c121 => ?_)
      · have hge : ¬ p < nk := by have := (nI_leI (by omega) (by omega)).mp c121; omega
        have he : endF nk ((mem, no, out2, a, i, p, fl), fb, d) = ((mem, no, out2, a, i, p, fl), fb, d) := if_neg (fun z => hge z.2)
        rw [he] at hQ
        refine x_aload_n (q := 138) F dX3_run_137 rfl rfl (by first | exact xref_r | exact xref_n | exact xref_f _ | assumption) ?_
        refine x_get (q := 141) F dX3_run_138 rfl fs_X3_30 rfl rfl ?_
        refine x_iret F dX3_run_141 (xle rfl) (xle rfl) ?_
        exact hQ
      · have hlt : p < nk := by
          rcases Nat.lt_or_ge p nk with q | q
          · exact q
          · exact absurd ((nI_leI (by omega) (by omega)).mpr q) c121
        have he : endF nk ((mem, no, out2, a, i, p, fl), fb, d) = ((mem, no, out2, a, i, p, 4), some p, d) := if_pos ⟨hz, hlt⟩
        rw [he] at hQ
        refine x_aload_n (q := 125) F dX3_run_124 rfl rfl (by first | exact xref_r | exact xref_n | exact xref_f _ | assumption) ?_
        refine x_iconst (q := 126) (v := 4) F dX3_run_125 rfl (by decide) ?_
        refine x_put (q := 129) F dX3_run_126 rfl fs_X3_30 rfl (xle rfl) rfl rfl ?_
        refine x_h (h2 := wR g ad st nc (mem, no, out2, a, i, p, 4) (optI fb) (all + (nI d).toInt64)) (xup_xup _ _ _ _) ?_
        refine x_aload_n (q := 130) F dX3_run_129 rfl rfl (by first | exact xref_r | exact xref_n | exact xref_f _ | assumption) ?_
        refine x_aload_n (q := 131) F dX3_run_130 rfl rfl (by first | exact xref_r | exact xref_n | exact xref_f _ | assumption) ?_
        refine x_get (q := 134) F dX3_run_131 rfl fs_X3_27 rfl rfl ?_
        refine x_put (q := 137) F dX3_run_134 rfl fs_X3_33 rfl (xle rfl) rfl rfl ?_
        refine x_h (h2 := wR g ad st nc (mem, no, out2, a, i, p, 4) (optI (some p)) (all + (nI d).toInt64)) (xup_xup _ _ _ _) ?_
        refine x_aload_n (q := 138) F dX3_run_137 rfl rfl (by first | exact xref_r | exact xref_n | exact xref_f _ | assumption) ?_
        refine x_get (q := 141) F dX3_run_138 rfl fs_X3_30 rfl rfl ?_
        refine x_iret F dX3_run_141 (xle rfl) (xle rfl) ?_
        exact hQ
  have loop : ∀ (k : Nat) (q : RS) (fb : Option Nat) (d : Nat), d + k = st → RSok q → endF nk (loopF nc n f L V nk k q fb d) = runF nc n f L V nk st out →
      xX p0 l e (xrm 3 0 0) s m args below meth c0 G ad h0 6 (xZ below G ad h0 Q args s (xrm 3 0 0)) 12 [(0, .ref (ad (10, 0))), (1, .ref (ad (20, sc))), (2, .ref (ad (31, io))), (3, .int (nI nk)), (4, .int (nI d))] [] ad (wR g ad st nc q (optI fb) all) 0 0 := by
    intro k
    induction k with
    | zero =>
      intro q fb d hd hok hend
      have hfin := fin q fb d hok (by omega) hend
      obtain ⟨mem, no, out2, a, i, p, fl⟩ := q
      refine x_iload (q := 14) F dX3_run_12 rfl rfl ?_
      refine x_aload_n (q := 15) F dX3_run_14 rfl rfl (by first | exact xref_r | exact xref_n | exact xref_f _ | assumption) ?_
      refine x_get (q := 18) F dX3_run_15 rfl fs_X3_40 rfl rfl ?_
      refine x_icmp_ge (q := 21) F 97 dX3_run_18 (by decide) rfl (fun c18 => ?_) (fun c18 => ?_)
      · exact hfin
      · exact absurd ((nI_leI (by omega) (by omega)).mpr (by omega)) c18
    | succ k ih =>
      intro q fb d hd hok hend
      have hstop : ¬ (rP q < nk ∧ rF q = 0) → xX p0 l e (xrm 3 0 0) s m args below meth c0 G ad h0 6 (xZ below G ad h0 Q args s (xrm 3 0 0)) 97 [(0, .ref (ad (10, 0))), (1, .ref (ad (20, sc))), (2, .ref (ad (31, io))), (3, .int (nI nk)), (4, .int (nI d))] [] ad (wR g ad st nc q (optI fb) all) 0 0 := fun hz => fin q fb d hok (by omega) (by rw [loopF_stop hz] at hend; exact hend)
      obtain ⟨mem, no, out2, a, i, p, fl⟩ := q
      obtain ⟨ha, hi, hno, hmem, hp, hfl, hout⟩ := id hok
      have ha : a < 256 := ha
      have hi : i ≤ 1000000 := hi
      have hno : no ≤ 40 := hno
      have hp : p ≤ 255 := hp
      have hfl : fl ≤ 4 := hfl
      refine x_iload (q := 14) F dX3_run_12 rfl rfl ?_
      refine x_aload_n (q := 15) F dX3_run_14 rfl rfl (by first | exact xref_r | exact xref_n | exact xref_f _ | assumption) ?_
      refine x_get (q := 18) F dX3_run_15 rfl fs_X3_40 rfl rfl ?_
      refine x_icmp_ge (q := 21) F 97 dX3_run_18 (by decide) rfl (fun c18 => ?_) (fun c18 => ?_)
      · exact absurd ((nI_leI (by omega) (by omega)).mp c18) (by omega)
      · refine x_aload_n (q := 22) F dX3_run_21 rfl rfl (by first | exact xref_r | exact xref_n | exact xref_f _ | assumption) ?_
        refine x_get (q := 25) F dX3_run_22 rfl fs_X3_27 rfl rfl ?_
        refine x_if_lt (q := 28) F 97 dX3_run_25 (by decide) rfl (fun c25 => ?_) (fun c25 => ?_)
        · exact absurd c25 (nI_pos (by omega))
        · refine x_aload_n (q := 29) F dX3_run_28 rfl rfl (by first | exact xref_r | exact xref_n | exact xref_f _ | assumption) ?_
          refine x_get (q := 32) F dX3_run_29 rfl fs_X3_27 rfl rfl ?_
          refine x_iload_n (q := 33) F dX3_run_32 rfl rfl ?_
          refine x_icmp_ge (q := 36) F 97 dX3_run_33 (by decide) rfl (fun c33 => ?_) (fun c33 => ?_)
          · refine hstop (fun z => ?_)
            have h1 : p < nk := z.1
            exact absurd ((nI_leI (by omega) (by omega)).mp c33) (by omega)
          · have hlt : p < nk := by
              rcases Nat.lt_or_ge p nk with q | q
              · exact q
              · exact absurd ((nI_leI (by omega) (by omega)).mpr q) c33
            refine x_aload_n (q := 37) F dX3_run_36 rfl rfl (by first | exact xref_r | exact xref_n | exact xref_f _ | assumption) ?_
            refine x_get (q := 40) F dX3_run_37 rfl fs_X3_30 rfl rfl ?_
            refine x_if_ne (q := 43) F 97 dX3_run_40 (by decide) rfl (fun c40 => ?_) (fun c40 => ?_)
            · exact hstop (fun z => c40 (by rw [show fl = 0 from z.2]; rfl))
            · have hz : fl = 0 := (nI_eq (b := 0) (by omega) (by omega)).mp c40
              refine x_aload_n (q := 44) F dX3_run_43 rfl rfl (by first | exact xref_r | exact xref_n | exact xref_f _ | assumption) ?_
              refine x_get (q := 47) F dX3_run_44 rfl fs_X3_27 rfl rfl ?_
              refine x_istore (q := 49) F dX3_run_47 rfl (by decide) ?_
              refine x_aload_n (q := 50) F dX3_run_49 rfl rfl (by first | exact xref_r | exact xref_n | exact xref_f _ | assumption) ?_
              refine x_dup (q := 51) F dX3_run_50 rfl rfl ?_
              refine x_get (q := 54) F dX3_run_51 rfl fs_X3_27 rfl rfl ?_
              refine x_iconst (q := 55) (v := 1) F dX3_run_54 rfl (by decide) ?_
              refine x_iadd (q := 56) F dX3_run_55 rfl ?_
              refine x_topi (nI_1 p) ?_
              refine x_put (q := 59) F dX3_run_56 rfl fs_X3_27 rfl (xle rfl) rfl rfl ?_
              refine x_h (h2 := wR g ad st nc (mem, no, out2, a, i, p + 1, fl) (optI fb) all) (xup_xup _ _ _ _) ?_
              refine x_iinc (q := 62) F dX3_run_59 rfl rfl (nI_1 d) (by decide) ?_
              refine x_aload_n (q := 63) F dX3_run_62 rfl rfl (by first | exact xref_r | exact xref_n | exact xref_f _ | assumption) ?_
              refine x_aload_n (q := 64) F dX3_run_63 rfl rfl (by first | exact xref_r | exact xref_n | exact xref_f _ | assumption) ?_
              refine x_getN (q := 67) F dX3_run_64 rfl fn_X3_56 e1 rfl ?_
              refine x_iload (q := 69) F dX3_run_67 rfl rfl ?_
              refine x_iald (q := 70) F dX3_run_69 rfl e2 rfl (by omega) (by omega) ?_
              refine x_aload_n (q := 71) F dX3_run_70 rfl rfl (by first | exact xref_r | exact xref_n | exact xref_f _ | assumption) ?_
              refine x_getN (q := 74) F dX3_run_71 rfl fn_X3_59 e1 rfl ?_
              refine x_iload (q := 76) F dX3_run_74 rfl rfl ?_
              refine x_iald (q := 77) F dX3_run_76 rfl e3 rfl (by omega) (by omega) ?_
              refine x_aload_n (q := 78) F dX3_run_77 rfl rfl (by first | exact xref_r | exact xref_n | exact xref_f _ | assumption) ?_
              refine x_callV3 (q := 81) F (10, 0) c_X3_step dX3_run_78 rfl mv_X3_step ml_X3_62 ⟨⟨xle rfl, xle rfl⟩, xle rfl, xle rfl⟩ rfl rfl (xle rfl) ?_
              refine ⟨g, st, nc, mem, no, out2, a, i, p + 1, fl, optI fb, all, L p, V p, io, n, N, f, rfl, rfl, e4, e5, hn, hN, hf, hL p hlt, hV p hlt, ha, hi, hnc, hno, fun _ => ?_⟩
              have hok' : RSok (stepF nc n f (L p) (V p) (mem, no, out2, a, i, p + 1, fl)) := stepF_ok ⟨ha, hi, hno, hmem, by show p + 1 ≤ 255; omega, hfl, hout⟩ (hV p hlt) hf
              have hstep : loopF nc n f L V nk (k + 1) (mem, no, out2, a, i, p, fl) fb d = loopF nc n f L V nk k (stepF nc n f (L p) (V p) (mem, no, out2, a, i, p + 1, fl)) (if rF (stepF nc n f (L p) (V p) (mem, no, out2, a, i, p + 1, fl)) = 0 then fb else some p) (d + 1) := by
                rw [loopF, if_pos ⟨hlt, hz⟩]
                rfl
              rw [hstep] at hend
              have hih := ih (stepF nc n f (L p) (V p) (mem, no, out2, a, i, p + 1, fl)) _ (d + 1) (by omega) hok' hend
              generalize stepF nc n f (L p) (V p) (mem, no, out2, a, i, p + 1, fl) = q2 at hok' hih ⊢
              obtain ⟨mem2, no2, out3, a2, i2, p2, fl2⟩ := q2
              obtain ⟨-, -, -, -, -, hfl2, -⟩ := hok'
              have hfl2 : fl2 ≤ 4 := hfl2
              refine x_aload_n (q := 82) F dX3_run_81 rfl rfl (by first | exact xref_r | exact xref_n | exact xref_f _ | assumption) ?_
              refine x_get (q := 85) F dX3_run_82 rfl fs_X3_30 rfl rfl ?_
              refine x_if_eq (q := 88) F 94 dX3_run_85 (by decide) rfl (fun c85 => ?_) (fun c85 => ?_)
              · have hz2 : fl2 = 0 := (nI_eq (b := 0) (by omega) (by omega)).mp c85
                rw [if_pos (show rF (mem2, no2, out3, a2, i2, p2, fl2) = 0 from hz2)] at hih
                refine x_goto F 12 dX3_run_94 (by decide) ?_
                refine x_ls [(0, .ref (ad (10, 0))), (1, .ref (ad (20, sc))), (2, .ref (ad (31, io))), (3, .int (nI nk)), (4, .int (nI (d + 1)))] rfl ?_
                exact hih
              · have hz2 : ¬ fl2 = 0 := fun z => c85 (by rw [z]; rfl)
                rw [if_neg (show ¬ rF (mem2, no2, out3, a2, i2, p2, fl2) = 0 from hz2)] at hih
                refine x_aload_n (q := 89) F dX3_run_88 rfl rfl (by first | exact xref_r | exact xref_n | exact xref_f _ | assumption) ?_
                refine x_iload (q := 91) F dX3_run_89 rfl rfl ?_
                refine x_put (q := 94) F dX3_run_91 rfl fs_X3_33 rfl (xle rfl) rfl rfl ?_
                refine x_h (h2 := wR g ad st nc (mem2, no2, out3, a2, i2, p2, fl2) (optI (some p)) all) (xup_xup _ _ _ _) ?_
                refine x_goto F 12 dX3_run_94 (by decide) ?_
                refine x_ls [(0, .ref (ad (10, 0))), (1, .ref (ad (20, sc))), (2, .ref (ad (31, io))), (3, .int (nI nk)), (4, .int (nI (d + 1)))] rfl ?_
                exact hih
  refine x_h hh0.symm ?_
  refine x_aload_n (q := 1) F dX3_run_0 rfl rfl (by first | exact xref_r | exact xref_n | exact xref_f _ | assumption) ?_
  refine x_callV0 (q := 4) F (10, 0) c_X3_begin dX3_run_1 rfl mv_X3_begin ml_X3_47 ⟨⟨xle rfl, xle rfl⟩, xle rfl, xle rfl⟩ rfl rfl (xle rfl) ?_
  refine ⟨g, st, nc, mem, no, out, a, i, p, fl, fa, all, rfl, rfl, hnc, fun _ => ?_⟩
  refine x_aload_n (q := 5) F dX3_run_4 rfl rfl (by first | exact xref_r | exact xref_n | exact xref_f _ | assumption) ?_
  refine x_callV0 (q := 8) F (20, sc) c_X4_size dX3_run_5 rfl mv_X4_size ml_X3_50 ⟨⟨xle rfl, xle rfl⟩, xle rfl, xle rfl⟩ rfl e1 (xle rfl) ?_
  refine ⟨(20, sc), (21, sc), (22, sc), d3, d4, nx, nk, _, _, rfl, e1, e2, e3, by omega, fun _ => ?_⟩
  refine x_istore_n (q := 9) F dX3_run_8 rfl (by decide) ?_
  refine x_iconst (q := 10) (v := 0) F dX3_run_9 rfl (by decide) ?_
  refine x_istore (q := 12) F dX3_run_10 rfl (by decide) ?_
  refine x_ls [(0, .ref (ad (10, 0))), (1, .ref (ad (20, sc))), (2, .ref (ad (31, io))), (3, .int (nI nk)), (4, .int (nI 0))] rfl ?_
  exact loop st (fun _ => 0, 0, out, 0, 0, 0, 0) none 0 (by omega) (rs0_ok out) rfl
end
section
/-! ===== String constants: rows and the members that are reached ===== -/
def CtG (y : MethodName) (b : ByteArray) (n : Nat) (r : Option FieldType) (rm : Room) (sp : xG → xSp) : Prop :=
  ∀ (l : Launch) (G : xG) (ad : xAd) (h : xH) (av : List Value) (Q : xPq) (sz : Nat), sp G ad h av Q → Met l y (xw y b n r) rm (xPre G ad h sz av) (xPost G ad h sz Q) rm.cells rm.slots (xFr ad h sz)
theorem CtG.of {y : MethodName} {b : ByteArray} {n : Nat} {r : Option FieldType} {rm : Room} {sp : xG → xSp} (hy : plainFor y = true)
    (body : ∀ (p : Program) (l : Launch) (e : Env) (s : State) (m : MethodId) (args : Array Value) (below : List Frame) (meth : Method) (c : Code) (G : xG) (ad : xAd) (h : xH) (av : List Value) (Q : xPq), xF p s m args meth c G ad h y.cls b n r y.name → sp G ad h av Q →
      ((lg_sl av).length ≤ n ∧ ∀ q ∈ lv_args 0 av, q.2.category = 1) ∧ xX p l e rm s m args below meth c G ad h n (xZ below G ad h Q args s rm) 0 (lv_args 0 av) [] ad h 0 0) : CtG y b n r rm sp := by
  intro l G ad h av Q sz hsp
  refine va_MetF (cc := b) (maxL := n) (ret := r) hy rfl ?_
  intro p e s m args below meth c s₁ B hml hv
  obtain ⟨rfl, hsz, hR, hK, hO⟩ := hv
  subst hsz
  have hts := atoms_spec (ws := xw y b n r) B.pre
  have hF : xF p s m av.toArray meth c G ad h y.cls b n r y.name := ⟨B.exec, B.bytes, hml, findClass_of_methodNamed B.named, fun w hw => hts w (List.mem_cons_of_mem _ hw), B.notSynchronized, hK, B.returns, (name_of_methodNamed B.named B.method).1, hO⟩
  obtain ⟨⟨h1, h2⟩, hX⟩ := body p l e s m av.toArray below meth c G ad h av Q hF hsp
  rw [lg_entry_eq]
  exact hX s.heap [] _ (hR.any fun t ht => Or.inl ⟨t, ht, rfl⟩) va_S.rf ⟨lv_entry av h1, h2⟩ xExt.rf
/-- the place of the letters' String, and of its bytes -/
abbrev kS (G : xG) : Nat := G.2.2.1.1 0
abbrev kV (G : xG) : Nat := G.2.2.1.2 0
section XSTR
variable {p : Program} {l : Launch} {e : Env} {R : Room} {s : State} {m : MethodId} {args : Array Value} {below : List Frame} {meth : Method} {c : Code} {G : xG} {ad0 : xAd} {h0 : xH} {nL : Nat} {Z : State → Prop} {pc : Nat} {ls : List (Nat × Value)} {st : List Value} {ad : xAd} {h : xH} {k n : Nat} {own : String} {cc : ByteArray} {r : Option FieldType} {nm : String}
theorem x_ldcS (F : xF p s m args meth c G ad0 h0 RX5 cc nL r nm) {q : Nat} (hd : decode cc pc = .ok (.ldc 57, 2)) (hp : pc + 2 = q) (kk : xX p l e R s m args below meth c G ad0 h0 nL Z q ls (.ref (kS G) :: st) ad h k n) : xX p l e R s m args below meth c G ad0 h0 nL Z pc ls st ad h k n := by
  subst hp
  exact fun H locs la hR hS hL hE => va_ldcS F.1 F.2.1 F.2.2.2.1 F.2.2.2.2.2.2.2.2.2.2.1 hd (kk H locs la hR hS hL hE)
theorem x_compact (F : xF p s m args meth c G ad0 h0 own cc nL r nm) {idx q : Nat} (hd : decode cc pc = .ok (.getstatic idx, 3)) (hp : pc + 3 = q) (hl : Cond.fieldLink own idx "java/lang/String" "COMPACT_STRINGS" "Z" ∈ xwd) (kk : xX p l e R s m args below meth c G ad0 h0 nL Z q ls (.int 1 :: st) ad h k n) : xX p l e R s m args below meth c G ad0 h0 nL Z pc ls st ad h k n := by
  subst hp
  exact fun H locs la hR hS hL hE => va_gets F.1 F.2.1 F.2.2.2.2.2.2.2.2.2.2.2.2.2.1 hS F.2.2.2.1 (F.2.2.2.2.1 _ hl) (fun _ z => z) hd (kk H locs la hR hS hL hE)
theorem x_coder (F : xF p s m args meth c G ad0 h0 own cc nL r nm) {idx q : Nat} (hd : decode cc pc = .ok (.getfield idx, 3)) (hp : pc + 3 = q) (hl : Cond.fieldLink own idx "java/lang/String" "coder" "B" ∈ xwd) (kk : xX p l e R s m args below meth c G ad0 h0 nL Z q ls (.int 0 :: st) ad h k n) : xX p l e R s m args below meth c G ad0 h0 nL Z pc ls (.ref (kS G) :: st) ad h k n := by
  subst hp
  exact fun H locs la hR hS hL hE => vk_getf F.1 F.2.1 (F.2.2.2.2.2.2.2.2.2.1.1 0 (by decide)).2.1 hS F.2.2.2.1 (F.2.2.2.2.1 _ hl) (fun _ z => z) hd (kk H locs la hR hS hL hE)
theorem x_value (F : xF p s m args meth c G ad0 h0 own cc nL r nm) {idx q : Nat} (hd : decode cc pc = .ok (.getfield idx, 3)) (hp : pc + 3 = q) (hl : Cond.fieldLink own idx "java/lang/String" "value" "[B" ∈ xwd) (kk : xX p l e R s m args below meth c G ad0 h0 nL Z q ls (.ref (kV G) :: st) ad h k n) : xX p l e R s m args below meth c G ad0 h0 nL Z pc ls (.ref (kS G) :: st) ad h k n := by
  subst hp
  exact fun H locs la hR hS hL hE => vk_getf F.1 F.2.1 (F.2.2.2.2.2.2.2.2.2.1.1 0 (by decide)).2.2.1 hS F.2.2.2.1 (F.2.2.2.2.1 _ hl) (fun _ z => z) hd (kk H locs la hR hS hL hE)
theorem x_vlen (F : xF p s m args meth c G ad0 h0 own cc nL r nm) {q : Nat} (hd : decode cc pc = .ok (.arraylength, 1)) (hp : pc + 1 = q) (kk : xX p l e R s m args below meth c G ad0 h0 nL Z q ls (.int (nI 14) :: st) ad h k n) : xX p l e R s m args below meth c G ad0 h0 nL Z pc ls (.ref (kV G) :: st) ad h k n := by
  subst hp
  exact fun H locs la hR hS hL hE => va_tlen F.1 F.2.1 (F.2.2.2.2.2.2.2.2.2.1.1 0 (by decide)).2.2.2 hS rfl hd (kk H locs la hR hS hL hE)
theorem x_vald (F : xF p s m args meth c G ad0 h0 own cc nL r nm) {q j : Nat} (hd : decode cc pc = .ok (.baload, 1)) (hp : pc + 1 = q) (hj : j < 14) (kk : xX p l e R s m args below meth c G ad0 h0 nL Z q ls (.int ((xbyt.getD 0 []).getD j 0) :: st) ad h k n) : xX p l e R s m args below meth c G ad0 h0 nL Z pc ls (.int (nI j) :: .ref (kV G) :: st) ad h k n := by
  subst hp
  exact fun H locs la hR hS hL hE => va_tb F.1 F.2.1 (F.2.2.2.2.2.2.2.2.2.1.1 0 (by decide)).2.2.2 hS (vp_in_nI (N := 14) hj (by omega)) (by rw [nI_clamp (by omega)]) hd (kk H locs la hR hS hL hE)
theorem x_ishr (F : xF p s m args meth c G ad0 h0 own cc nL r nm) {x y : Int32} {q : Nat} (hd : decode cc pc = .ok (.ishr, 1)) (hp : pc + 1 = q) (kk : xX p l e R s m args below meth c G ad0 h0 nL Z q ls (.int (x >>> (y &&& 31)) :: st) ad h k n) : xX p l e R s m args below meth c G ad0 h0 nL Z pc ls (.int y :: .int x :: st) ad h k n := by
  subst hp
  exact fun H locs la hR hS hL hE => lv_ishr F.1 F.2.1 hd (kk H locs la hR hS hL hE)
theorem x_nret {rt : FieldType} (F : xF p s m args meth c G ad0 h0 own cc nL (some rt) nm) {Q : xPq} {v : Int32} (hd : decode cc pc = .ok (.ireturn, 1)) (h1 : k ≤ R.cells) (h2 : n ≤ R.slots) (hv : narrow rt (.int v) = .int v) (hq : Q (some (.int v)) ad h) : xX p l e R s m args below meth c G ad0 h0 nL (xZ below G ad0 h0 Q args s R) pc ls [.int v] ad h k n :=
  fun H locs la hR hS hL hE => W.widen h1 h2 (W.zret (ty := rt) (hlocks := F.2.2.2.2.2.1) F.1 F.2.1 F.2.2.2.2.2.2.2.1 hv (fun t ht hW => ⟨⟨some (.int v), ad, h, rfl, hq, hE, by rw [ht]; exact hR⟩, hS.F ht⟩) (fun q hq => hS.2.2 q hq) hd)
variable {y : MethodName} {b : ByteArray} {ml na idx : Nat} {ry : Option FieldType} {rm : Room} {sp : xG → xSp} {As rest : List Value} {q : Nat}
theorem x_callSG (F : xF p s m args meth c G ad0 h0 own cc nL r nm) (As : List Value) (C : CtG y b ml ry rm sp) (hd : decode cc pc = .ok (.invokestatic idx, 3)) (hp : pc + 3 = q) (hm : xMs y b ml ry na) (hl : Cond.methodLink own idx y ∈ xwd) (hf : xFit rm R ml k n) (hn : As.length = na) (hroom : (rest.map fun v => v.category).sum ≤ 8) {st0 : List Value} (hst : st0 = As.reverse ++ rest)
    (kk : sp G ad h As (fun v ad' h' => xExt ad h ad' h' → xX p l e R s m args below meth c G ad0 h0 nL Z q ls (v.toList ++ rest) ad' h' (k + rm.cells) (n + rm.slots))) : xX p l e R s m args below meth c G ad0 h0 nL Z pc ls st0 ad h k n := by
  subst hp; subst hst
  intro H locs la hR hS hL hE
  refine x_cont hR hS hL hE (va_runS ⟨F.1, F.2.1, F.2.2.1, F.2.2.2.1, F.2.2.2.2.1⟩ (C l G ad h _ _ H.size kk) ⟨x_callB F hm.1 hf hl, F.2.2.2.2.1 _ hm.2⟩ ⟨xPre.blind, fun U hU hW => ⟨rfl, by rw [hU], by rw [hU]; exact hR.any fun _ _ => trivial, xK.warm hW F.2.2.2.2.2.2.1, x_O F hR hS hU hW⟩⟩ rfl hn hL.1.1 rfl (lv_room hroom) hd hf.2)
theorem x_callK (F : xF p s m args meth c G ad0 h0 own cc nL r nm) (As : List Value) (C : CtG y b ml ry rm sp) (hd : decode cc pc = .ok (.invokevirtual idx, 3)) (hp : pc + 3 = q) (hm : xMv y b ml ry na) (hl : Cond.methodLink own idx y ∈ xwd) (hy : y.cls = "java/lang/String") (hf : xFit rm R ml k n) (hn : As.length = na) (hroom : (rest.map fun v => v.category).sum ≤ 8) {st0 : List Value} (hst : st0 = As.reverse ++ .ref (kS G) :: rest)
    (kk : sp G ad h (.ref (kS G) :: As) (fun v ad' h' => xExt ad h ad' h' → xX p l e R s m args below meth c G ad0 h0 nL Z q ls (v.toList ++ rest) ad' h' (k + rm.cells) (n + rm.slots))) : xX p l e R s m args below meth c G ad0 h0 nL Z pc ls st0 ad h k n := by
  subst hp; subst hst
  intro H locs la hR hS hL hE
  refine x_cont hR hS hL hE (va_runV (C := y.cls) ⟨F.1, F.2.1, F.2.2.1, F.2.2.2.1, F.2.2.2.2.1⟩ (C l G ad h _ _ H.size kk) ⟨x_callB F hm.1 hf hl, F.2.2.2.2.1 _ hm.2.1, F.2.2.2.2.1 _ hm.2.2⟩ ⟨xPre.blind, by rw [hy]; exact vk_recv F.2.2.2.2.2.2.2.2.2.1 (by decide) hS, fun U hU hW => ⟨rfl, by rw [hU], by rw [hU]; exact hR.any fun _ _ => trivial, xK.warm hW F.2.2.2.2.2.2.1, x_O F hR hS hU hW⟩⟩ rfl hn hL.1.1 rfl (lv_room hroom) hd hf.2)
end XSTR
theorem fl_J0_38 : Cond.fieldLink RJ0 38 "java/lang/String" "COMPACT_STRINGS" "Z" ∈ xwd := xwd_in (xm2 (j := 200) rfl) rfl
theorem fl_J0_15 : Cond.fieldLink RJ0 15 "java/lang/String" "coder" "B" ∈ xwd := xwd_in (xm4 (j := 189) rfl) rfl
theorem fl_J0_9 : Cond.fieldLink RJ0 9 "java/lang/String" "value" "[B" ∈ xwd := xwd_in (xm4 (j := 190) rfl) rfl
def s_k0 (v : Int32) : xG → xSp := fun G ad h av Q => av = [.ref (kS G)] ∧ Q (some (.int v)) ad h
set_option maxRecDepth 100000 in
theorem c_isLatin1 : CtG yJ0_isLatin1_aae02 cJ0_isLatin1_aae02 1 (some .boolean) (xrm 0 0 0) (s_k0 1) := by
  refine CtG.of (by decide +kernel) ?_
  intro p l e s m args below meth c G ad h av Q F hsp
  obtain ⟨rfl, hQ⟩ := hsp
  refine ⟨x_ent rfl rfl, ?_⟩
  refine x_compact (q := 3) F dJ0_isLatin1_aae02_0 rfl fl_J0_38 ?_
  refine x_if_eq (q := 6) F 17 dJ0_isLatin1_aae02_3 (by decide) rfl (fun c3 => ?_) (fun c3 => ?_)
  · exact absurd c3 (by decide)
  · refine x_aload_n (q := 7) F dJ0_isLatin1_aae02_6 rfl rfl (by first | exact xref_r | exact xref_n | exact xref_f _ | assumption) ?_
    refine x_coder (q := 10) F dJ0_isLatin1_aae02_7 rfl fl_J0_15 ?_
    refine x_if_ne (q := 13) F 17 dJ0_isLatin1_aae02_10 (by decide) rfl (fun c10 => ?_) (fun c10 => ?_)
    · exact absurd rfl c10
    · refine x_iconst (q := 14) (v := 1) F dJ0_isLatin1_aae02_13 rfl (by decide) ?_
      refine x_goto F 18 dJ0_isLatin1_aae02_14 (by decide) ?_
      refine x_zret F dJ0_isLatin1_aae02_18 (xle rfl) (xle rfl) (by first | exact Or.inl rfl | exact Or.inr rfl) ?_
      exact hQ
set_option maxRecDepth 100000 in
theorem c_coder : CtG yJ0_coder_7d493 cJ0_coder_7d493 1 (some .byte) (xrm 0 0 0) (s_k0 0) := by
  refine CtG.of (by decide +kernel) ?_
  intro p l e s m args below meth c G ad h av Q F hsp
  obtain ⟨rfl, hQ⟩ := hsp
  refine ⟨x_ent rfl rfl, ?_⟩
  refine x_compact (q := 3) F dJ0_coder_7d493_0 rfl fl_J0_38 ?_
  refine x_if_eq (q := 6) F 13 dJ0_coder_7d493_3 (by decide) rfl (fun c3 => ?_) (fun c3 => ?_)
  · exact absurd c3 (by decide)
  · refine x_aload_n (q := 7) F dJ0_coder_7d493_6 rfl rfl (by first | exact xref_r | exact xref_n | exact xref_f _ | assumption) ?_
    refine x_coder (q := 10) F dJ0_coder_7d493_7 rfl fl_J0_15 ?_
    refine x_goto F 14 dJ0_coder_7d493_10 (by decide) ?_
    exact x_nret F dJ0_coder_7d493_14 (xle rfl) (xle rfl) rfl hQ
set_option maxRecDepth 100000 in
theorem c_length : CtG yJ0_length_8abf5 cJ0_length_8abf5 1 (some .int) (xrm 1 0 0) (s_k0 (nI 14)) := by
  refine CtG.of (by decide +kernel) ?_
  intro p l e s m args below meth c G ad h av Q F hsp
  obtain ⟨rfl, hQ⟩ := hsp
  refine ⟨x_ent rfl rfl, ?_⟩
  refine x_aload_n (q := 1) F dJ0_length_8abf5_0 rfl rfl (by first | exact xref_r | exact xref_n | exact xref_f _ | assumption) ?_
  refine x_value (q := 4) F dJ0_length_8abf5_1 rfl fl_J0_9 ?_
  refine x_vlen (q := 5) F dJ0_length_8abf5_4 rfl ?_
  refine x_aload_n (q := 6) F dJ0_length_8abf5_5 rfl rfl (by first | exact xref_r | exact xref_n | exact xref_f _ | assumption) ?_
  refine x_callK (q := 9) (rest := [.int (nI 14)]) F [] c_coder dJ0_length_8abf5_6 rfl mv_J0_coder_7d493 ml_J0_335 rfl ⟨⟨xle rfl, xle rfl⟩, xle rfl, xle rfl⟩ rfl (xle rfl) rfl ⟨rfl, fun _ => ?_⟩
  refine x_ishr (q := 10) F dJ0_length_8abf5_9 rfl ?_
  refine x_topi (y := nI 14) (by decide) ?_
  refine x_iret F dJ0_length_8abf5_10 (xle rfl) (xle rfl) ?_
  exact hQ
def s_enc : xG → xSp := fun _ ad h av Q => ∃ c : Nat, av = [.int (nI c)] ∧ c < 256 ∧ Q (some (.int 1)) ad h
set_option maxRecDepth 100000 in
theorem c_canEncode : CtG yJ1_canEncode_9a6ad cJ1_canEncode_9a6ad 1 (some .boolean) (xrm 0 0 0) s_enc := by
  refine CtG.of (by decide +kernel) ?_
  intro p l e s m args below meth c0 G ad h av Q F hsp
  obtain ⟨c, rfl, hc, hQ⟩ := hsp
  refine ⟨x_ent rfl rfl, ?_⟩
  refine x_iload_n (q := 1) F dJ1_canEncode_9a6ad_0 rfl rfl ?_
  refine x_if_lt (q := 4) F 15 dJ1_canEncode_9a6ad_1 (by decide) rfl (fun c1 => ?_) (fun c1 => ?_)
  · exact absurd c1 (nI_pos (by omega))
  · refine x_iload_n (q := 5) F dJ1_canEncode_9a6ad_4 rfl rfl ?_
    refine x_sipush (q := 8) (v := 255) F dJ1_canEncode_9a6ad_5 rfl (by decide) ?_
    refine x_icmp_gt (q := 11) F 15 dJ1_canEncode_9a6ad_8 (by decide) rfl (fun c8 => ?_) (fun c8 => ?_)
    · exact absurd ((nI_ltI (a := 255) (b := c) (by omega) (by omega)).mp c8) (by omega)
    · refine x_iconst (q := 12) (v := 1) F dJ1_canEncode_9a6ad_11 rfl (by decide) ?_
      refine x_goto F 16 dJ1_canEncode_9a6ad_12 (by decide) ?_
      refine x_zret F dJ1_canEncode_9a6ad_16 (xle rfl) (xle rfl) (by first | exact Or.inl rfl | exact Or.inr rfl) ?_
      exact hQ
theorem byt_ok : ∀ i, i < 14 → ∀ c, c < 256 → (((xbyt.getD 0 []).getD i 0 = (nI c).toInt8.toInt32) ↔ L14.getD i 0 = c) := by decide +kernel
theorem L14_none {c : Nat} (h : ∀ j, j < 14 → L14.getD j 0 ≠ c) : c ∉ L14 := by
  intro hc
  obtain ⟨j, hj, he⟩ := List.getElem_of_mem hc
  exact h j hj (by rw [List.getD_eq_getElem?_getD, List.getElem?_eq_getElem hj]; exact he)
theorem L14_some {j : Nat} (h : j < 14) : L14.getD j 0 ∈ L14 := by
  rw [List.getD_eq_getElem?_getD, List.getElem?_eq_getElem (show j < L14.length from h)]
  exact List.getElem_mem _
/-- the place of a letter, or none -/
def found (c : Nat) (x : Int32) : Prop := (c ∈ L14 ∧ ¬ x < 0) ∨ (c ∉ L14 ∧ x = -1)
def s_ixc : xG → xSp := fun G ad h av Q => ∃ c : Nat, av = [.ref (kV G), .int (nI c), .int (nI 0), .int (nI 14)] ∧ c < 256 ∧ ∀ x, found c x → Q (some (.int x)) ad h
set_option maxRecDepth 100000 in
theorem c_indexOfChar : CtG yJ1_indexOfChar_4cfef cJ1_indexOfChar_4cfef 6 (some .int) (xrm 0 0 0) s_ixc := by
  refine CtG.of (by decide +kernel) ?_
  intro p l e s m args below meth c0 G ad h av Q F hsp
  obtain ⟨c, rfl, hc, hQ⟩ := hsp
  refine ⟨x_ent rfl rfl, ?_⟩
  have loop : ∀ i : Nat, i ≤ 14 → (∀ j, j < i → L14.getD j 0 ≠ c) → xX p l e (xrm 0 0 0) s m args below meth c0 G ad h 6 (xZ below G ad h Q args s (xrm 0 0 0)) 7 [(0, .ref (kV G)), (3, .int (nI 14)), (4, .int (nI c).toInt8.toInt32), (5, .int (nI i))] [] ad h 0 0 := by
    intro i
    induction hd : 14 - i using Nat.strongRecOn generalizing i with
    | ind d ih =>
      intro hi hno
      refine x_iload (q := 9) F dJ1_indexOfChar_4cfef_7 rfl rfl ?_
      refine x_iload_n (q := 10) F dJ1_indexOfChar_4cfef_9 rfl rfl ?_
      refine x_icmp_ge (q := 13) F 31 dJ1_indexOfChar_4cfef_10 (by decide) rfl (fun c10 => ?_) (fun c10 => ?_)
      · have : i = 14 := by have := (nI_leI (by omega) (by omega)).mp c10; omega
        subst this
        refine x_iconst (q := 32) (v := -1) F dJ1_indexOfChar_4cfef_31 rfl (by decide) ?_
        refine x_iret F dJ1_indexOfChar_4cfef_32 (xle rfl) (xle rfl) ?_
        exact hQ _ (Or.inr ⟨L14_none hno, rfl⟩)
      · have hlt : i < 14 := by
          rcases Nat.lt_or_ge i 14 with q | q
          · exact q
          · exact absurd ((nI_leI (by omega) (by omega)).mpr q) c10
        refine x_aload_n (q := 14) F dJ1_indexOfChar_4cfef_13 rfl rfl (by first | exact xref_r | exact xref_n | exact xref_f _ | assumption) ?_
        refine x_iload (q := 16) F dJ1_indexOfChar_4cfef_14 rfl rfl ?_
        refine x_vald (q := 17) F dJ1_indexOfChar_4cfef_16 rfl hlt ?_
        refine x_iload (q := 19) F dJ1_indexOfChar_4cfef_17 rfl rfl ?_
        refine x_icmp_ne (q := 22) F 25 dJ1_indexOfChar_4cfef_19 (by decide) rfl (fun c19 => ?_) (fun c19 => ?_)
        · refine x_iinc (q := 28) F dJ1_indexOfChar_4cfef_25 rfl rfl (nI_1 i) (by decide) ?_
          refine x_goto F 7 dJ1_indexOfChar_4cfef_28 (by decide) ?_
          refine x_ls [(0, .ref (kV G)), (3, .int (nI 14)), (4, .int (nI c).toInt8.toInt32), (5, .int (nI (i + 1)))] rfl ?_
          refine ih (14 - (i + 1)) (by omega) (i + 1) rfl (by omega) (fun j hj => ?_)
          by_cases z : j = i
          · subst z; exact fun q => c19 ((byt_ok j hlt c hc).mpr q)
          · exact hno j (by omega)
        · have he := (byt_ok i hlt c hc).mp c19
          refine x_iload (q := 24) F dJ1_indexOfChar_4cfef_22 rfl rfl ?_
          refine x_iret F dJ1_indexOfChar_4cfef_24 (xle rfl) (xle rfl) ?_
          exact hQ _ (Or.inl ⟨he ▸ L14_some hlt, nI_pos (by omega)⟩)
  refine x_ls [(0, .ref (kV G)), (1, .int (nI c)), (2, .int (nI 0)), (3, .int (nI 14))] rfl ?_
  refine x_iload_n (q := 1) F dJ1_indexOfChar_4cfef_0 rfl rfl ?_
  refine x_i2b (q := 2) F dJ1_indexOfChar_4cfef_1 rfl ?_
  refine x_istore (q := 4) F dJ1_indexOfChar_4cfef_2 rfl (by decide) ?_
  refine x_iload_n (q := 5) F dJ1_indexOfChar_4cfef_4 rfl rfl ?_
  refine x_istore (q := 7) F dJ1_indexOfChar_4cfef_5 rfl (by decide) ?_
  refine x_ls [(0, .ref (kV G)), (3, .int (nI 14)), (4, .int (nI c).toInt8.toInt32), (5, .int (nI 0))] rfl ?_
  exact loop 0 (Nat.zero_le _) (fun j hj => absurd hj (Nat.not_lt_zero j))
set_option maxRecDepth 100000 in
theorem c_latinIx : CtG yJ1_indexOf_4cfef cJ1_indexOf_4cfef 4 (some .int) (xrm 1 0 0) s_ixc := by
  refine CtG.of (by decide +kernel) ?_
  intro p l e s m args below meth c0 G ad h av Q F hsp
  obtain ⟨c, rfl, hc, hQ⟩ := hsp
  refine ⟨x_ent rfl rfl, ?_⟩
  refine x_ls [(0, .ref (kV G)), (1, .int (nI c)), (2, .int (nI 0)), (3, .int (nI 14))] rfl ?_
  refine x_iload_n (q := 1) F dJ1_indexOf_4cfef_0 rfl rfl ?_
  refine x_callSG (q := 4) (rest := []) F [.int (nI c)] c_canEncode dJ1_indexOf_4cfef_1 rfl ms_J1_canEncode_9a6ad ml_J1_88 ⟨⟨xle rfl, xle rfl⟩, xle rfl, xle rfl⟩ rfl (xle rfl) rfl ⟨c, rfl, hc, fun _ => ?_⟩
  refine x_if_ne (q := 7) F 9 dJ1_indexOf_4cfef_4 (by decide) rfl (fun c4 => ?_) (fun c4 => ?_)
  · refine x_iload_n (q := 10) F dJ1_indexOf_4cfef_9 rfl rfl ?_
    refine x_iconst (q := 11) (v := 0) F dJ1_indexOf_4cfef_10 rfl (by decide) ?_
    refine x_mmax (q := 14) F dJ1_indexOf_4cfef_11 rfl ml_J1_92 mw_max (xle rfl) (xle rfl) (xle rfl) (xle rfl) ?_
    refine x_topi (y := nI 0) (by decide) ?_
    refine x_istore_n (q := 15) F dJ1_indexOf_4cfef_14 rfl (by decide) ?_
    refine x_iload_n (q := 16) F dJ1_indexOf_4cfef_15 rfl rfl ?_
    refine x_aload_n (q := 17) F dJ1_indexOf_4cfef_16 rfl rfl (by first | exact xref_r | exact xref_n | exact xref_f _ | assumption) ?_
    refine x_vlen (q := 18) F dJ1_indexOf_4cfef_17 rfl ?_
    refine x_mmin (q := 21) F dJ1_indexOf_4cfef_18 rfl ml_J1_38 mw_min (xle rfl) (xle rfl) (xle rfl) (xle rfl) ?_
    refine x_topi (y := nI 14) (by decide) ?_
    refine x_istore_n (q := 22) F dJ1_indexOf_4cfef_21 rfl (by decide) ?_
    refine x_iload_n (q := 23) F dJ1_indexOf_4cfef_22 rfl rfl ?_
    refine x_iload_n (q := 24) F dJ1_indexOf_4cfef_23 rfl rfl ?_
    refine x_icmp_lt (q := 27) F 29 dJ1_indexOf_4cfef_24 (by decide) rfl (fun c24 => ?_) (fun c24 => ?_)
    · refine x_aload_n (q := 30) F dJ1_indexOf_4cfef_29 rfl rfl (by first | exact xref_r | exact xref_n | exact xref_f _ | assumption) ?_
      refine x_iload_n (q := 31) F dJ1_indexOf_4cfef_30 rfl rfl ?_
      refine x_iload_n (q := 32) F dJ1_indexOf_4cfef_31 rfl rfl ?_
      refine x_iload_n (q := 33) F dJ1_indexOf_4cfef_32 rfl rfl ?_
      refine x_callSG (q := 36) (rest := []) F [.ref (kV G), .int (nI c), .int (nI 0), .int (nI 14)] c_indexOfChar dJ1_indexOf_4cfef_33 rfl ms_J1_indexOfChar_4cfef ml_J1_95 ⟨⟨xle rfl, xle rfl⟩, xle rfl, xle rfl⟩ rfl (xle rfl) rfl ⟨c, rfl, hc, fun x hx _ => ?_⟩
      refine x_iret F dJ1_indexOf_4cfef_36 (xle rfl) (xle rfl) ?_
      exact hQ x hx
    · exact absurd (by decide) c24
  · exact absurd c4 (by decide)
def s_ix2 : xG → xSp := fun G ad h av Q => ∃ c : Nat, av = [.ref (kS G), .int (nI c), .int 0] ∧ c < 256 ∧ ∀ x, found c x → Q (some (.int x)) ad h
set_option maxRecDepth 100000 in
theorem c_ix2 : CtG yJ0_indexOf_7cf53 cJ0_indexOf_7cf53 3 (some .int) (xrm 2 0 0) s_ix2 := by
  refine CtG.of (by decide +kernel) ?_
  intro p l e s m args below meth c0 G ad h av Q F hsp
  obtain ⟨c, rfl, hc, hQ⟩ := hsp
  refine ⟨x_ent rfl rfl, ?_⟩
  refine x_ls [(0, .ref (kS G)), (1, .int (nI c)), (2, .int 0)] rfl ?_
  refine x_aload_n (q := 1) F dJ0_indexOf_7cf53_0 rfl rfl (by first | exact xref_r | exact xref_n | exact xref_f _ | assumption) ?_
  refine x_callK (q := 4) (rest := []) F [] c_isLatin1 dJ0_indexOf_7cf53_1 rfl mv_J0_isLatin1_aae02 ml_J0_492 rfl ⟨⟨xle rfl, xle rfl⟩, xle rfl, xle rfl⟩ rfl (xle rfl) rfl ⟨rfl, fun _ => ?_⟩
  refine x_if_eq (q := 7) F 23 dJ0_indexOf_7cf53_4 (by decide) rfl (fun c4 => ?_) (fun c4 => ?_)
  · exact absurd c4 (by decide)
  · refine x_aload_n (q := 8) F dJ0_indexOf_7cf53_7 rfl rfl (by first | exact xref_r | exact xref_n | exact xref_f _ | assumption) ?_
    refine x_value (q := 11) F dJ0_indexOf_7cf53_8 rfl fl_J0_9 ?_
    refine x_iload_n (q := 12) F dJ0_indexOf_7cf53_11 rfl rfl ?_
    refine x_iload_n (q := 13) F dJ0_indexOf_7cf53_12 rfl rfl ?_
    refine x_aload_n (q := 14) F dJ0_indexOf_7cf53_13 rfl rfl (by first | exact xref_r | exact xref_n | exact xref_f _ | assumption) ?_
    refine x_callK (q := 17) (rest := [.int 0, .int (nI c), .ref (kV G)]) F [] c_length dJ0_indexOf_7cf53_14 rfl mv_J0_length_8abf5 ml_J0_505 rfl ⟨⟨xle rfl, xle rfl⟩, xle rfl, xle rfl⟩ rfl (xle rfl) rfl ⟨rfl, fun _ => ?_⟩
    refine x_callSG (q := 20) (rest := []) F [.ref (kV G), .int (nI c), .int (nI 0), .int (nI 14)] c_latinIx dJ0_indexOf_7cf53_17 rfl ms_J1_indexOf_4cfef ml_J0_637 ⟨⟨xle rfl, xle rfl⟩, xle rfl, xle rfl⟩ rfl (xle rfl) rfl ⟨c, rfl, hc, fun x hx _ => ?_⟩
    refine x_goto F 36 dJ0_indexOf_7cf53_20 (by decide) ?_
    refine x_iret F dJ0_indexOf_7cf53_36 (xle rfl) (xle rfl) ?_
    exact hQ x hx
def s_ix1 : xG → xSp := fun G ad h av Q => ∃ c : Nat, av = [.ref (kS G), .int (nI c)] ∧ c < 256 ∧ ∀ x, found c x → Q (some (.int x)) ad h
set_option maxRecDepth 100000 in
theorem c_ix1 : CtG yJ0_indexOf_0f7a4 cJ0_indexOf_0f7a4 2 (some .int) (xrm 3 0 0) s_ix1 := by
  refine CtG.of (by decide +kernel) ?_
  intro p l e s m args below meth c0 G ad h av Q F hsp
  obtain ⟨c, rfl, hc, hQ⟩ := hsp
  refine ⟨x_ent rfl rfl, ?_⟩
  refine x_ls [(0, .ref (kS G)), (1, .int (nI c))] rfl ?_
  refine x_aload_n (q := 1) F dJ0_indexOf_0f7a4_0 rfl rfl (by first | exact xref_r | exact xref_n | exact xref_f _ | assumption) ?_
  refine x_iload_n (q := 2) F dJ0_indexOf_0f7a4_1 rfl rfl ?_
  refine x_iconst (q := 3) (v := 0) F dJ0_indexOf_0f7a4_2 rfl (by decide) ?_
  refine x_callK (q := 6) (rest := []) F [.int (nI c), .int 0] c_ix2 dJ0_indexOf_0f7a4_3 rfl mv_J0_indexOf_7cf53 ml_J0_633 rfl ⟨⟨xle rfl, xle rfl⟩, xle rfl, xle rfl⟩ rfl (xle rfl) rfl ⟨c, rfl, hc, fun x hx _ => ?_⟩
  refine x_iret F dJ0_indexOf_0f7a4_6 (xle rfl) (xle rfl) ?_
  exact hQ x hx
/-- a sign that is there or NONE: is it a letter of a command -/
def isLet (o : Option Nat) : Bool := match o with
  | none => false
  | some c => decide (c ∈ L14)
def s_isLetter : xSp := fun ad h av Q => ∃ o : Option Nat, av = [.int (optI o)] ∧ (∀ v, o = some v → v < 256) ∧ Q (some (.int (bI (isLet o)))) ad h
theorem char_ok {c : Nat} (h : c < 256) : ((nI c).toUInt32 % 65536).toInt32 = nI c := by
  rw [pk_char, pk_tn (by omega), Nat.mod_eq_of_lt (by omega)]
set_option maxRecDepth 100000 in
theorem c_X5_isLetter : Ct yX5_isLetter cX5_isLetter 1 (some .boolean) (xrm 4 0 0) s_isLetter := by
  refine Ct.of (by decide) ?_
  intro p l e s m args below meth c0 G ad h av Q F hsp
  obtain ⟨o, rfl, ho, hQ⟩ := hsp
  refine ⟨x_ent rfl rfl, ?_⟩
  refine x_ls [(0, .int (optI o))] rfl ?_
  refine x_iload_n (q := 1) F dX5_isLetter_0 rfl rfl ?_
  cases o with
  | none =>
    refine x_if_lt (q := 4) F 18 dX5_isLetter_1 (by decide) rfl (fun c1 => ?_) (fun c1 => ?_)
    · refine x_iconst (q := 19) (v := 0) F dX5_isLetter_18 rfl (by decide) ?_
      refine x_zret F dX5_isLetter_19 (xle rfl) (xle rfl) (by first | exact Or.inl rfl | exact Or.inr rfl) ?_
      exact hQ
    · exact absurd (by decide) c1
  | some c =>
    have hc : c < 256 := ho c rfl
    refine x_if_lt (q := 4) F 18 dX5_isLetter_1 (by decide) rfl (fun c1 => ?_) (fun c1 => ?_)
    · exact absurd c1 (nI_pos (by omega))
    · refine x_ldcS (q := 6) F dX5_isLetter_4 rfl ?_
      refine x_iload_n (q := 7) F dX5_isLetter_6 rfl rfl ?_
      refine x_i2c (q := 8) F dX5_isLetter_7 rfl ?_
      refine x_topi (y := nI c) (char_ok hc) ?_
      refine x_callK (q := 11) (rest := []) F [.int (nI c)] c_ix1 dX5_isLetter_8 rfl mv_J0_indexOf_0f7a4 ml_X5_59 rfl ⟨⟨xle rfl, xle rfl⟩, xle rfl, xle rfl⟩ rfl (xle rfl) rfl ⟨c, rfl, hc, fun x hx _ => ?_⟩
      have hQ : Q (some (.int (bI (decide (c ∈ L14))))) ad h := hQ
      rcases hx with ⟨h1, h2⟩ | ⟨h1, h2⟩
      · rw [show decide (c ∈ L14) = true from decide_eq_true h1] at hQ
        refine x_if_lt (q := 14) F 18 dX5_isLetter_11 (by decide) rfl (fun c11 => ?_) (fun c11 => ?_)
        · exact absurd c11 h2
        · refine x_iconst (q := 15) (v := 1) F dX5_isLetter_14 rfl (by decide) ?_
          refine x_goto F 19 dX5_isLetter_15 (by decide) ?_
          refine x_zret F dX5_isLetter_19 (xle rfl) (xle rfl) (by first | exact Or.inl rfl | exact Or.inr rfl) ?_
          exact hQ
      · rw [show decide (c ∈ L14) = false from decide_eq_false h1] at hQ
        subst h2
        refine x_if_lt (q := 14) F 18 dX5_isLetter_11 (by decide) rfl (fun c11 => ?_) (fun c11 => ?_)
        · refine x_iconst (q := 19) (v := 0) F dX5_isLetter_18 rfl (by decide) ?_
          refine x_zret F dX5_isLetter_19 (xle rfl) (xle rfl) (by first | exact Or.inl rfl | exact Or.inr rfl) ?_
          exact hQ
        · exact absurd (by decide) c11
end
section
/-! ===== ScriptText ===== -/
abbrev cTxt (a b d : Nat) (n k : Nat) : xE := .inr (5, [.ref a, .ref b, .ref d, .int (nI n), .int (nI k)])
/-- the text's world: how many signs, the signs, letters and numbers found, how many commands -/
def wT (g : xH) (ad : xAd) (ns : Nat) (sg lt nu : Nat → Nat) (k : Nat) : xH := xup (xup (xup (xup g (3, 0) (cN 200 sg)) (4, 0) (cN 40 lt)) (5, 0) (cN 40 nu)) (2, 0) (cTxt (ad (3, 0)) (ad (4, 0)) (ad (5, 0)) ns k)
theorem wT_sg (g : xH) (ad : xAd) (ns : Nat) (sg lt nu sg' : Nat → Nat) (k : Nat) : xup (wT g ad ns sg lt nu k) (3, 0) (cN 200 sg') = wT g ad ns sg' lt nu k := by
  unfold wT
  rw [xup_comm _ _ _ (show ((2, 0) : Tg) ≠ (3, 0) by decide), xup_comm _ _ _ (show ((5, 0) : Tg) ≠ (3, 0) by decide), xup_comm _ _ _ (show ((4, 0) : Tg) ≠ (3, 0) by decide), xup_xup]
theorem wT_lt (g : xH) (ad : xAd) (ns : Nat) (sg lt nu lt' : Nat → Nat) (k : Nat) : xup (wT g ad ns sg lt nu k) (4, 0) (cN 40 lt') = wT g ad ns sg lt' nu k := by
  unfold wT
  rw [xup_comm _ _ _ (show ((2, 0) : Tg) ≠ (4, 0) by decide), xup_comm _ _ _ (show ((5, 0) : Tg) ≠ (4, 0) by decide), xup_xup]
theorem wT_nu (g : xH) (ad : xAd) (ns : Nat) (sg lt nu nu' : Nat → Nat) (k : Nat) : xup (wT g ad ns sg lt nu k) (5, 0) (cN 40 nu') = wT g ad ns sg lt nu' k := by
  unfold wT
  rw [xup_comm _ _ _ (show ((2, 0) : Tg) ≠ (5, 0) by decide), xup_xup]
def s_txtAdd : xSp := fun ad h av Q => ∃ g ns sg lt nu k c, h = wT g ad ns sg lt nu k ∧ av = [.ref (ad (2, 0)), .int (nI c)] ∧ ns ≤ 200 ∧ c < 256 ∧ Q none ad (if ns < 200 then wT g ad (ns + 1) (updN sg ns c) lt nu k else wT g ad ns sg lt nu k)
set_option maxRecDepth 100000 in
theorem c_X5_add : Ct yX5_add cX5_add 2 none (xrm 0 0 0) s_txtAdd := by
  refine Ct.of (by decide) ?_
  intro p l e s m args below meth c0 G ad h av Q F hsp
  obtain ⟨g, ns, sg, lt, nu, k, c, rfl, rfl, hns, hc, hQ⟩ := hsp
  refine ⟨x_ent rfl rfl, ?_⟩
  refine x_ls [(0, .ref (ad (2, 0))), (1, .int (nI c))] rfl ?_
  refine x_aload_n (q := 1) F dX5_add_0 rfl rfl (by first | exact xref_r | exact xref_n | exact xref_f _ | assumption) ?_
  refine x_get (q := 4) F dX5_add_1 rfl fs_X5_21 rfl rfl ?_
  refine x_sipush (q := 7) (v := 200) F dX5_add_4 rfl (by decide) ?_
  refine x_icmp_ge (q := 10) F 30 dX5_add_7 (by decide) rfl (fun c7 => ?_) (fun c7 => ?_)
  · rw [if_neg (by have := (nI_leI (a := 200) (b := ns) (by omega) (by omega)).mp c7; omega)] at hQ
    refine x_vret F dX5_add_30 (xle rfl) (xle rfl) ?_
    exact hQ
  · have hlt : ns < 200 := by
      rcases Nat.lt_or_ge ns 200 with q | q
      · exact q
      · exact absurd ((nI_leI (a := 200) (b := ns) (by omega) (by omega)).mpr q) c7
    rw [if_pos hlt] at hQ
    refine x_aload_n (q := 11) F dX5_add_10 rfl rfl (by first | exact xref_r | exact xref_n | exact xref_f _ | assumption) ?_
    refine x_get (q := 14) F dX5_add_11 rfl fs_X5_9 rfl rfl ?_
    refine x_aload_n (q := 15) F dX5_add_14 rfl rfl (by first | exact xref_r | exact xref_n | exact xref_f _ | assumption) ?_
    refine x_get (q := 18) F dX5_add_15 rfl fs_X5_21 rfl rfl ?_
    refine x_iload_n (q := 19) F dX5_add_18 rfl rfl ?_
    refine x_iast (q := 20) F dX5_add_19 rfl rfl rfl (by omega) (by omega) ?_
    rw [upd_N]
    refine x_h (wT_sg _ _ _ _ _ _ _ _) ?_
    refine x_aload_n (q := 21) F dX5_add_20 rfl rfl (by first | exact xref_r | exact xref_n | exact xref_f _ | assumption) ?_
    refine x_dup (q := 22) F dX5_add_21 rfl rfl ?_
    refine x_get (q := 25) F dX5_add_22 rfl fs_X5_21 rfl rfl ?_
    refine x_iconst (q := 26) (v := 1) F dX5_add_25 rfl (by decide) ?_
    refine x_iadd (q := 27) F dX5_add_26 rfl ?_
    refine x_topi (nI_1 ns) ?_
    refine x_put (q := 30) F dX5_add_27 rfl fs_X5_21 rfl (xle rfl) rfl rfl ?_
    refine x_h (h2 := wT g ad (ns + 1) (updN sg ns c) lt nu k) (xup_xup _ _ _ _) ?_
    refine x_vret F dX5_add_30 (xle rfl) (xle rfl) ?_
    exact hQ
def s_txtClear : xSp := fun ad h av Q => ∃ g ns sg lt nu k, h = wT g ad ns sg lt nu k ∧ av = [.ref (ad (2, 0))] ∧ Q none ad (wT g ad 0 sg lt nu k)
set_option maxRecDepth 100000 in
theorem c_X5_clear : Ct yX5_clear cX5_clear 1 none (xrm 0 0 0) s_txtClear := by
  refine Ct.of (by decide) ?_
  intro p l e s m args below meth c0 G ad h av Q F hsp
  obtain ⟨g, ns, sg, lt, nu, k, rfl, rfl, hQ⟩ := hsp
  refine ⟨x_ent rfl rfl, ?_⟩
  refine x_aload_n (q := 1) F dX5_clear_0 rfl rfl (by first | exact xref_r | exact xref_n | exact xref_f _ | assumption) ?_
  refine x_iconst (q := 2) (v := 0) F dX5_clear_1 rfl (by decide) ?_
  refine x_put (q := 5) F dX5_clear_2 rfl fs_X5_21 rfl (xle rfl) rfl rfl ?_
  refine x_h (h2 := wT g ad 0 sg lt nu k) (xup_xup _ _ _ _) ?_
  refine x_vret F dX5_clear_5 (xle rfl) (xle rfl) ?_
  exact hQ
/-- the sign at a place -/
def sgn (ns : Nat) (sg : Nat → Nat) (i : Nat) : Option Nat := if i < ns then some (sg i) else none
theorem sgn_lt {ns : Nat} {sg : Nat → Nat} (h : ∀ j, j < ns → sg j < 256) {i v : Nat} (hv : sgn ns sg i = some v) : v < 256 := by
  unfold sgn at hv
  by_cases q : i < ns
  · rw [if_pos q] at hv; cases hv; exact h i q
  · rw [if_neg q] at hv; cases hv
def s_signAt : xSp := fun ad h av Q => ∃ g ns sg lt nu k i, h = wT g ad ns sg lt nu k ∧ av = [.ref (ad (2, 0)), .int (nI i)] ∧ ns ≤ 200 ∧ i < 10000 ∧ Q (some (.int (optI (sgn ns sg i)))) ad h
set_option maxRecDepth 100000 in
theorem c_X5_signAt : Ct yX5_signAt cX5_signAt 2 (some .int) (xrm 0 0 0) s_signAt := by
  refine Ct.of (by decide) ?_
  intro p l e s m args below meth c0 G ad h av Q F hsp
  obtain ⟨g, ns, sg, lt, nu, k, i, rfl, rfl, hns, hi, hQ⟩ := hsp
  refine ⟨x_ent rfl rfl, ?_⟩
  refine x_ls [(0, .ref (ad (2, 0))), (1, .int (nI i))] rfl ?_
  refine x_iload_n (q := 1) F dX5_signAt_0 rfl rfl ?_
  refine x_if_lt (q := 4) F 28 dX5_signAt_1 (by decide) rfl (fun c1 => ?_) (fun c1 => ?_)
  · exact absurd c1 (nI_pos (by omega))
  · refine x_iload_n (q := 5) F dX5_signAt_4 rfl rfl ?_
    refine x_aload_n (q := 6) F dX5_signAt_5 rfl rfl (by first | exact xref_r | exact xref_n | exact xref_f _ | assumption) ?_
    refine x_get (q := 9) F dX5_signAt_6 rfl fs_X5_21 rfl rfl ?_
    refine x_icmp_ge (q := 12) F 28 dX5_signAt_9 (by decide) rfl (fun c9 => ?_) (fun c9 => ?_)
    · have hge := (nI_leI (by omega) (by omega)).mp c9
      rw [sgn, if_neg (by omega)] at hQ
      refine x_iconst (q := 29) (v := -1) F dX5_signAt_28 rfl (by decide) ?_
      refine x_iret F dX5_signAt_29 (xle rfl) (xle rfl) ?_
      exact hQ
    · have hlt : i < ns := by
        rcases Nat.lt_or_ge i ns with q | q
        · exact q
        · exact absurd ((nI_leI (by omega) (by omega)).mpr q) c9
      rw [sgn, if_pos hlt] at hQ
      refine x_iload_n (q := 13) F dX5_signAt_12 rfl rfl ?_
      refine x_sipush (q := 16) (v := 200) F dX5_signAt_13 rfl (by decide) ?_
      refine x_icmp_ge (q := 19) F 28 dX5_signAt_16 (by decide) rfl (fun c16 => ?_) (fun c16 => ?_)
      · exact absurd ((nI_leI (a := 200) (b := i) (by omega) (by omega)).mp c16) (by omega)
      · refine x_aload_n (q := 20) F dX5_signAt_19 rfl rfl (by first | exact xref_r | exact xref_n | exact xref_f _ | assumption) ?_
        refine x_get (q := 23) F dX5_signAt_20 rfl fs_X5_9 rfl rfl ?_
        refine x_iload_n (q := 24) F dX5_signAt_23 rfl rfl ?_
        refine x_iald (q := 25) F dX5_signAt_24 rfl rfl rfl (by omega) (by omega) ?_
        refine x_goto F 29 dX5_signAt_25 (by decide) ?_
        refine x_iret F dX5_signAt_29 (xle rfl) (xle rfl) ?_
        exact hQ
def isDig (o : Option Nat) : Bool := match o with
  | none => false
  | some c => decide (48 ≤ c ∧ c ≤ 57)
def s_isDigit : xSp := fun ad h av Q => ∃ o : Option Nat, av = [.int (optI o)] ∧ (∀ v, o = some v → v < 256) ∧ Q (some (.int (bI (isDig o)))) ad h
set_option maxRecDepth 100000 in
theorem c_X5_isDigit : Ct yX5_isDigit cX5_isDigit 1 (some .boolean) (xrm 0 0 0) s_isDigit := by
  refine Ct.of (by decide) ?_
  intro p l e s m args below meth c0 G ad h av Q F hsp
  obtain ⟨o, rfl, ho, hQ⟩ := hsp
  refine ⟨x_ent rfl rfl, ?_⟩
  refine x_ls [(0, .int (optI o))] rfl ?_
  refine x_iload_n (q := 1) F dX5_isDigit_0 rfl rfl ?_
  refine x_bipush (q := 3) (v := 48) F dX5_isDigit_1 rfl (by decide) ?_
  cases o with
  | none =>
    refine x_icmp_lt (q := 6) F 16 dX5_isDigit_3 (by decide) rfl (fun c3 => ?_) (fun c3 => ?_)
    · refine x_iconst (q := 17) (v := 0) F dX5_isDigit_16 rfl (by decide) ?_
      refine x_zret F dX5_isDigit_17 (xle rfl) (xle rfl) (by first | exact Or.inl rfl | exact Or.inr rfl) ?_
      exact hQ
    · exact absurd (by decide) c3
  | some c =>
    have hc : c < 256 := ho c rfl
    have hQ : Q (some (.int (bI (decide (48 ≤ c ∧ c ≤ 57))))) ad h := hQ
    refine x_icmp_lt (q := 6) F 16 dX5_isDigit_3 (by decide) rfl (fun c3 => ?_) (fun c3 => ?_)
    · have hz : ¬ (48 ≤ c ∧ c ≤ 57) := by have := (nI_ltI (a := c) (b := 48) (by omega) (by omega)).mp c3; omega
      rw [decide_eq_false hz] at hQ
      refine x_iconst (q := 17) (v := 0) F dX5_isDigit_16 rfl (by decide) ?_
      refine x_zret F dX5_isDigit_17 (xle rfl) (xle rfl) (by first | exact Or.inl rfl | exact Or.inr rfl) ?_
      exact hQ
    · have h48 : 48 ≤ c := by
        rcases Nat.lt_or_ge c 48 with q | q
        · exact absurd ((nI_ltI (a := c) (b := 48) (by omega) (by omega)).mpr q) c3
        · exact q
      refine x_iload_n (q := 7) F dX5_isDigit_6 rfl rfl ?_
      refine x_bipush (q := 9) (v := 57) F dX5_isDigit_7 rfl (by decide) ?_
      refine x_icmp_gt (q := 12) F 16 dX5_isDigit_9 (by decide) rfl (fun c9 => ?_) (fun c9 => ?_)
      · have hz : ¬ (48 ≤ c ∧ c ≤ 57) := by have := (nI_ltI (a := 57) (b := c) (by omega) (by omega)).mp c9; omega
        rw [decide_eq_false hz] at hQ
        refine x_iconst (q := 17) (v := 0) F dX5_isDigit_16 rfl (by decide) ?_
        refine x_zret F dX5_isDigit_17 (xle rfl) (xle rfl) (by first | exact Or.inl rfl | exact Or.inr rfl) ?_
        exact hQ
      · have hz : 48 ≤ c ∧ c ≤ 57 := by
          refine ⟨h48, ?_⟩
          rcases Nat.lt_or_ge 57 c with q | q
          · exact absurd ((nI_ltI (a := 57) (b := c) (by omega) (by omega)).mpr q) c9
          · exact q
        rw [decide_eq_true hz] at hQ
        refine x_iconst (q := 13) (v := 1) F dX5_isDigit_12 rfl (by decide) ?_
        refine x_goto F 17 dX5_isDigit_13 (by decide) ?_
        refine x_zret F dX5_isDigit_17 (xle rfl) (xle rfl) (by first | exact Or.inl rfl | exact Or.inr rfl) ?_
        exact hQ
/-- how many digits stand from i on, d of them seen, f more at most -/
def digK (s : Nat → Option Nat) (i : Nat) : Nat → Nat → Nat
  | 0, d => d
  | f + 1, d => if isDig (s (i + d)) = true then digK s i f (d + 1) else d
def digN (s : Nat → Option Nat) (i : Nat) : Nat := digK s i 3 0
theorem digK_le (s : Nat → Option Nat) (i : Nat) : ∀ f d, digK s i f d ≤ d + f := by
  intro f
  induction f with
  | zero => intro d; exact Nat.le_refl _
  | succ f ih =>
    intro d
    unfold digK
    by_cases q : isDig (s (i + d)) = true
    · rw [if_pos q]; have := ih (d + 1); omega
    · rw [if_neg q]; omega
theorem digK_dig (s : Nat → Option Nat) (i : Nat) : ∀ f d, (∀ j, j < d → isDig (s (i + j)) = true) → ∀ j, j < digK s i f d → isDig (s (i + j)) = true := by
  intro f
  induction f with
  | zero => intro d h; exact h
  | succ f ih =>
    intro d h
    unfold digK
    by_cases q : isDig (s (i + d)) = true
    · rw [if_pos q]
      refine ih (d + 1) (fun j hj => ?_)
      by_cases z : j = d
      · rw [z]; exact q
      · exact h j (by omega)
    · rw [if_neg q]; exact h
theorem digN_dig (s : Nat → Option Nat) (i : Nat) : ∀ j, j < digN s i → isDig (s (i + j)) = true := digK_dig s i 3 0 (fun j hj => absurd hj (Nat.not_lt_zero j))
theorem digN_le (s : Nat → Option Nat) (i : Nat) : digN s i ≤ 3 := by have := digK_le s i 3 0; unfold digN; omega
def s_digitsFrom : xSp := fun ad h av Q => ∃ g ns sg lt nu k i, h = wT g ad ns sg lt nu k ∧ av = [.ref (ad (2, 0)), .int (nI i)] ∧ ns ≤ 200 ∧ (∀ j, j < ns → sg j < 256) ∧ i < 1000 ∧ Q (some (.int (nI (digN (sgn ns sg) i)))) ad h
set_option maxRecDepth 100000 in
theorem c_X5_digitsFrom : Ct yX5_digitsFrom cX5_digitsFrom 3 (some .int) (xrm 1 0 0) s_digitsFrom := by
  refine Ct.of (by decide) ?_
  intro p l e s m args below meth c0 G ad h av Q F hsp
  obtain ⟨g, ns, sg, lt, nu, k, i, rfl, rfl, hns, hsg, hi, hQ⟩ := hsp
  refine ⟨x_ent rfl rfl, ?_⟩
  have loop : ∀ f d : Nat, d + f = 3 → digK (sgn ns sg) i f d = digN (sgn ns sg) i → xX p l e (xrm 1 0 0) s m args below meth c0 G ad (wT g ad ns sg lt nu k) 3 (xZ below G ad (wT g ad ns sg lt nu k) Q args s (xrm 1 0 0)) 2 [(0, .ref (ad (2, 0))), (1, .int (nI i)), (2, .int (nI d))] [] ad (wT g ad ns sg lt nu k) 0 0 := by
    intro f
    induction f with
    | zero =>
      intro d hd he
      refine x_iload_n (q := 3) F dX5_digitsFrom_2 rfl rfl ?_
      refine x_iconst (q := 4) (v := 3) F dX5_digitsFrom_3 rfl (by decide) ?_
      refine x_icmp_ge (q := 7) F 26 dX5_digitsFrom_4 (by decide) rfl (fun c4 => ?_) (fun c4 => ?_)
      · refine x_iload_n (q := 27) F dX5_digitsFrom_26 rfl rfl ?_
        refine x_iret F dX5_digitsFrom_27 (xle rfl) (xle rfl) ?_
        rw [← he] at hQ
        exact hQ
      · exact absurd ((nI_leI (a := 3) (b := d) (by omega) (by omega)).mpr (by omega)) c4
    | succ f ih =>
      intro d hd he
      refine x_iload_n (q := 3) F dX5_digitsFrom_2 rfl rfl ?_
      refine x_iconst (q := 4) (v := 3) F dX5_digitsFrom_3 rfl (by decide) ?_
      refine x_icmp_ge (q := 7) F 26 dX5_digitsFrom_4 (by decide) rfl (fun c4 => ?_) (fun c4 => ?_)
      · exact absurd ((nI_leI (a := 3) (b := d) (by omega) (by omega)).mp c4) (by omega)
      · refine x_aload_n (q := 8) F dX5_digitsFrom_7 rfl rfl (by first | exact xref_r | exact xref_n | exact xref_f _ | assumption) ?_
        refine x_iload_n (q := 9) F dX5_digitsFrom_8 rfl rfl ?_
        refine x_iload_n (q := 10) F dX5_digitsFrom_9 rfl rfl ?_
        refine x_iadd (q := 11) F dX5_digitsFrom_10 rfl ?_
        rw [nI_add]
        refine x_callV1 (q := 14) F (2, 0) c_X5_signAt dX5_digitsFrom_11 rfl mv_X5_signAt ml_X5_39 ⟨⟨xle rfl, xle rfl⟩, xle rfl, xle rfl⟩ rfl rfl (xle rfl) ?_
        refine ⟨g, ns, sg, lt, nu, k, i + d, rfl, rfl, hns, by omega, fun _ => ?_⟩
        refine x_callS1 (q := 17) F c_X5_isDigit dX5_digitsFrom_14 rfl ms_X5_isDigit ml_X5_54 ⟨⟨xle rfl, xle rfl⟩, xle rfl, xle rfl⟩ (xle rfl) ?_
        refine ⟨sgn ns sg (i + d), rfl, fun v hv => sgn_lt hsg hv, fun _ => ?_⟩
        cases hz : isDig (sgn ns sg (i + d)) with
        | true =>
          rw [digK, if_pos hz] at he
          refine x_if_eq (q := 20) F 26 dX5_digitsFrom_17 (by decide) rfl (fun c17 => ?_) (fun c17 => ?_)
          · exact absurd c17 (by decide)
          · refine x_iinc (q := 23) F dX5_digitsFrom_20 rfl rfl (nI_1 d) (by decide) ?_
            refine x_goto F 2 dX5_digitsFrom_23 (by decide) ?_
            refine x_ls [(0, .ref (ad (2, 0))), (1, .int (nI i)), (2, .int (nI (d + 1)))] rfl ?_
            exact ih (d + 1) (by omega) he
        | false =>
          rw [digK, if_neg (by rw [hz]; decide)] at he
          refine x_if_eq (q := 20) F 26 dX5_digitsFrom_17 (by decide) rfl (fun c17 => ?_) (fun c17 => ?_)
          · refine x_iload_n (q := 27) F dX5_digitsFrom_26 rfl rfl ?_
            refine x_iret F dX5_digitsFrom_27 (xle rfl) (xle rfl) ?_
            rw [← he] at hQ
            exact hQ
          · exact absurd rfl c17
  refine x_ls [(0, .ref (ad (2, 0))), (1, .int (nI i))] rfl ?_
  refine x_iconst (q := 1) (v := 0) F dX5_digitsFrom_0 rfl (by decide) ?_
  refine x_istore_n (q := 2) F dX5_digitsFrom_1 rfl (by decide) ?_
  refine x_ls [(0, .ref (ad (2, 0))), (1, .int (nI i)), (2, .int (nI 0))] rfl ?_
  exact loop 3 0 rfl rfl
/-- the number of d digits from i on -/
def numN (s : Nat → Option Nat) (i : Nat) : Nat → Nat
  | 0 => 0
  | d + 1 => numN s i d * 10 + ((s (i + d)).getD 48 - 48)
theorem isDig_c {o : Option Nat} (h : isDig o = true) : ∃ c, o = some c ∧ 48 ≤ c ∧ c ≤ 57 := by
  cases o with
  | none => cases h
  | some c => exact ⟨c, rfl, of_decide_eq_true h⟩
theorem numN_lt (s : Nat → Option Nat) (i : Nat) : ∀ d, (∀ j, j < d → isDig (s (i + j)) = true) → numN s i d + 1 ≤ 10 ^ d := by
  intro d
  induction d with
  | zero => intro _; exact Nat.le_refl _
  | succ d ih =>
    intro h
    obtain ⟨c, hc, h1, h2⟩ := isDig_c (h d (by omega))
    have h3 := ih (fun j hj => h j (by omega))
    show numN s i d * 10 + ((s (i + d)).getD 48 - 48) + 1 ≤ 10 ^ d * 10
    rw [hc]
    show numN s i d * 10 + (c - 48) + 1 ≤ 10 ^ d * 10
    omega
theorem numN_999 (s : Nat → Option Nat) (i : Nat) : numN s i (digN s i) < 1000 := by
  have h1 := numN_lt s i (digN s i) (digN_dig s i)
  have h2 := digN_le s i
  have h3 : 10 ^ (digN s i) ≤ 10 ^ 3 := Nat.pow_le_pow_right (by omega) h2
  omega
def s_numberFrom : xSp := fun ad h av Q => ∃ g ns sg lt nu k i d, h = wT g ad ns sg lt nu k ∧ av = [.ref (ad (2, 0)), .int (nI i), .int (nI d)] ∧ ns ≤ 200 ∧ (∀ j, j < ns → sg j < 256) ∧ i < 1000 ∧ d ≤ 3 ∧ (∀ j, j < d → isDig (sgn ns sg (i + j)) = true) ∧ Q (some (.int (nI (numN (sgn ns sg) i d)))) ad h
set_option maxRecDepth 100000 in
theorem c_X5_numberFrom : Ct yX5_numberFrom cX5_numberFrom 5 (some .int) (xrm 1 0 0) s_numberFrom := by
  refine Ct.of (by decide) ?_
  intro p l e s m args below meth c0 G ad h av Q F hsp
  obtain ⟨g, ns, sg, lt, nu, k, i, d, rfl, rfl, hns, hsg, hi, hd3, hdig, hQ⟩ := hsp
  refine ⟨x_ent rfl rfl, ?_⟩
  have loop : ∀ j : Nat, j ≤ d → xX p l e (xrm 1 0 0) s m args below meth c0 G ad (wT g ad ns sg lt nu k) 5 (xZ below G ad (wT g ad ns sg lt nu k) Q args s (xrm 1 0 0)) 5 [(0, .ref (ad (2, 0))), (1, .int (nI i)), (2, .int (nI d)), (3, .int (nI (numN (sgn ns sg) i j))), (4, .int (nI j))] [] ad (wT g ad ns sg lt nu k) 0 0 := by
    intro j
    induction hd : d - j using Nat.strongRecOn generalizing j with
    | ind z ih =>
      intro hj
      refine x_iload (q := 7) F dX5_numberFrom_5 rfl rfl ?_
      refine x_iload_n (q := 8) F dX5_numberFrom_7 rfl rfl ?_
      refine x_icmp_ge (q := 11) F 34 dX5_numberFrom_8 (by decide) rfl (fun c8 => ?_) (fun c8 => ?_)
      · have : j = d := by have := (nI_leI (by omega) (by omega)).mp c8; omega
        subst this
        refine x_iload_n (q := 35) F dX5_numberFrom_34 rfl rfl ?_
        refine x_iret F dX5_numberFrom_35 (xle rfl) (xle rfl) ?_
        exact hQ
      · have hlt : j < d := by
          rcases Nat.lt_or_ge j d with q | q
          · exact q
          · exact absurd ((nI_leI (by omega) (by omega)).mpr q) c8
        refine x_iload_n (q := 12) F dX5_numberFrom_11 rfl rfl ?_
        refine x_bipush (q := 14) (v := 10) F dX5_numberFrom_12 rfl (by decide) ?_
        refine x_imul (q := 15) F dX5_numberFrom_14 rfl ?_
        refine x_aload_n (q := 16) F dX5_numberFrom_15 rfl rfl (by first | exact xref_r | exact xref_n | exact xref_f _ | assumption) ?_
        refine x_iload_n (q := 17) F dX5_numberFrom_16 rfl rfl ?_
        refine x_iload (q := 19) F dX5_numberFrom_17 rfl rfl ?_
        refine x_iadd (q := 20) F dX5_numberFrom_19 rfl ?_
        rw [nI_add]
        refine x_callV1 (q := 23) F (2, 0) c_X5_signAt dX5_numberFrom_20 rfl mv_X5_signAt ml_X5_39 ⟨⟨xle rfl, xle rfl⟩, xle rfl, xle rfl⟩ rfl rfl (xle rfl) ?_
        refine ⟨g, ns, sg, lt, nu, k, i + j, rfl, rfl, hns, by omega, fun _ => ?_⟩
        obtain ⟨c, hc, h1, h2⟩ := isDig_c (hdig j hlt)
        rw [hc]
        refine x_bipush (q := 25) (v := 48) F dX5_numberFrom_23 rfl (by decide) ?_
        refine x_isub (q := 26) F dX5_numberFrom_25 rfl ?_
        refine x_iadd (q := 27) F dX5_numberFrom_26 rfl ?_
        refine x_topi (y := nI (numN (sgn ns sg) i (j + 1))) ?_ ?_
        · show nI (numN (sgn ns sg) i j) * nI 10 + (nI c - nI 48) = nI (numN (sgn ns sg) i j * 10 + ((sgn ns sg (i + j)).getD 48 - 48))
          rw [pk_mul, pk_sub h1, nI_add, hc]
          rfl
        refine x_istore_n (q := 28) F dX5_numberFrom_27 rfl (by decide) ?_
        refine x_iinc (q := 31) F dX5_numberFrom_28 rfl rfl (nI_1 j) (by decide) ?_
        refine x_goto F 5 dX5_numberFrom_31 (by decide) ?_
        refine x_ls [(0, .ref (ad (2, 0))), (1, .int (nI i)), (2, .int (nI d)), (3, .int (nI (numN (sgn ns sg) i (j + 1)))), (4, .int (nI (j + 1)))] rfl ?_
        exact ih (d - (j + 1)) (by omega) (j + 1) rfl (by omega)
  refine x_ls [(0, .ref (ad (2, 0))), (1, .int (nI i)), (2, .int (nI d))] rfl ?_
  refine x_iconst (q := 1) (v := 0) F dX5_numberFrom_0 rfl (by decide) ?_
  refine x_istore_n (q := 2) F dX5_numberFrom_1 rfl (by decide) ?_
  refine x_iconst (q := 3) (v := 0) F dX5_numberFrom_2 rfl (by decide) ?_
  refine x_istore (q := 5) F dX5_numberFrom_3 rfl (by decide) ?_
  refine x_ls [(0, .ref (ad (2, 0))), (1, .int (nI i)), (2, .int (nI d)), (3, .int (nI (numN (sgn ns sg) i 0))), (4, .int (nI 0))] rfl ?_
  exact loop 0 (Nat.zero_le _)
/-- the text read: where it is wrong, how many commands, their letters and numbers -/
def parseF (s : Nat → Option Nat) (ns : Nat) : Nat → Nat → Nat → (Nat → Nat) → (Nat → Nat) → Option Nat × Nat × (Nat → Nat) × (Nat → Nat)
  | 0, k, i, lt, nu => (some i, k, lt, nu)
  | f + 1, k, i, lt, nu => match s i with
    | none => (some i, k, lt, nu)
    | some c => if c ∈ L14 then
        (if digN s (i + 1) = 0 ∨ 255 < numN s (i + 1) (digN s (i + 1)) then (some (i + 1), k, lt, nu)
        else if ns ≤ i + 1 + digN s (i + 1) then (none, k + 1, updN lt k c, updN nu k (numN s (i + 1) (digN s (i + 1))))
        else if s (i + 1 + digN s (i + 1)) = some 32 then parseF s ns f (k + 1) (i + 1 + digN s (i + 1) + 1) (updN lt k c) (updN nu k (numN s (i + 1) (digN s (i + 1))))
        else (some (i + 1 + digN s (i + 1)), k + 1, updN lt k c, updN nu k (numN s (i + 1) (digN s (i + 1)))))
      else (some i, k, lt, nu)
theorem parseF_s {s : Nat → Option Nat} {ns f k i c : Nat} {lt nu : Nat → Nat} (hs : s i = some c) (hL : c ∈ L14) : parseF s ns (f + 1) k i lt nu =
        (if digN s (i + 1) = 0 ∨ 255 < numN s (i + 1) (digN s (i + 1)) then (some (i + 1), k, lt, nu)
        else if ns ≤ i + 1 + digN s (i + 1) then (none, k + 1, updN lt k c, updN nu k (numN s (i + 1) (digN s (i + 1))))
        else if s (i + 1 + digN s (i + 1)) = some 32 then parseF s ns f (k + 1) (i + 1 + digN s (i + 1) + 1) (updN lt k c) (updN nu k (numN s (i + 1) (digN s (i + 1))))
        else (some (i + 1 + digN s (i + 1)), k + 1, updN lt k c, updN nu k (numN s (i + 1) (digN s (i + 1))))) := by
  rw [parseF, hs]
  exact if_pos hL
def s_parse : xSp := fun ad h av Q => ∃ g ns sg lt nu k, h = wT g ad ns sg lt nu k ∧ av = [.ref (ad (2, 0))] ∧ ns ≤ 200 ∧ (∀ j, j < ns → sg j < 256) ∧
  Q (some (.int (optI (parseF (sgn ns sg) ns 40 0 0 lt nu).1))) ad (wT g ad ns sg (parseF (sgn ns sg) ns 40 0 0 lt nu).2.2.1 (parseF (sgn ns sg) ns 40 0 0 lt nu).2.2.2 (parseF (sgn ns sg) ns 40 0 0 lt nu).2.1)
set_option maxRecDepth 100000 in
set_option maxHeartbeats 4000000 in
theorem c_X5_parse : Ct yX5_parse cX5_parse 5 (some .int) (xrm 5 0 0) s_parse := by
  refine Ct.of (by decide) ?_
  intro p l e s m args below meth c0 G ad h av Q F hsp
  obtain ⟨g, ns, sg, lt0, nu0, k0, rfl, rfl, hns, hsg, hQ⟩ := hsp
  refine ⟨x_ent rfl rfl, ?_⟩
  generalize hh0 : wT g ad ns sg lt0 nu0 k0 = h0 at F ⊢
  have loop : ∀ (f k i : Nat) (lt nu : Nat → Nat), k + f = 40 → i ≤ ns → parseF (sgn ns sg) ns f k i lt nu = parseF (sgn ns sg) ns 40 0 0 lt0 nu0 →
      xX p l e (xrm 5 0 0) s m args below meth c0 G ad h0 5 (xZ below G ad h0 Q args s (xrm 5 0 0)) 7 [(0, .ref (ad (2, 0))), (1, .int (nI i))] [] ad (wT g ad ns sg lt nu k) 0 0 := by
    intro f
    induction f with
    | zero =>
      intro k i lt nu hk hi he
      refine x_aload_n (q := 8) F dX5_parse_7 rfl rfl (by first | exact xref_r | exact xref_n | exact xref_f _ | assumption) ?_
      refine x_get (q := 11) F dX5_parse_8 rfl fs_X5_25 rfl rfl ?_
      refine x_bipush (q := 13) (v := 40) F dX5_parse_11 rfl (by decide) ?_
      refine x_icmp_ge (q := 16) F 130 dX5_parse_13 (by decide) rfl (fun c13 => ?_) (fun c13 => ?_)
      · refine x_iload_n (q := 131) F dX5_parse_130 rfl rfl ?_
        refine x_iret F dX5_parse_131 (xle rfl) (xle rfl) ?_
        rw [← he] at hQ
        exact hQ
      · exact absurd ((nI_leI (a := 40) (b := k) (by omega) (by omega)).mpr (by omega)) c13
    | succ f ih =>
      intro k i lt nu hk hi he
      refine x_aload_n (q := 8) F dX5_parse_7 rfl rfl (by first | exact xref_r | exact xref_n | exact xref_f _ | assumption) ?_
      refine x_get (q := 11) F dX5_parse_8 rfl fs_X5_25 rfl rfl ?_
      refine x_bipush (q := 13) (v := 40) F dX5_parse_11 rfl (by decide) ?_
      refine x_icmp_ge (q := 16) F 130 dX5_parse_13 (by decide) rfl (fun c13 => ?_) (fun c13 => ?_)
      · exact absurd ((nI_leI (a := 40) (b := k) (by omega) (by omega)).mp c13) (by omega)
      · refine x_aload_n (q := 17) F dX5_parse_16 rfl rfl (by first | exact xref_r | exact xref_n | exact xref_f _ | assumption) ?_
        refine x_iload_n (q := 18) F dX5_parse_17 rfl rfl ?_
        refine x_callV1 (q := 21) F (2, 0) c_X5_signAt dX5_parse_18 rfl mv_X5_signAt ml_X5_39 ⟨⟨xle rfl, xle rfl⟩, xle rfl, xle rfl⟩ rfl rfl (xle rfl) ?_
        refine ⟨g, ns, sg, lt, nu, k, i, rfl, rfl, hns, by omega, fun _ => ?_⟩
        refine x_istore_n (q := 22) F dX5_parse_21 rfl (by decide) ?_
        refine x_iload_n (q := 23) F dX5_parse_22 rfl rfl ?_
        refine x_callS1 (q := 26) F c_X5_isLetter dX5_parse_23 rfl ms_X5_isLetter ml_X5_43 ⟨⟨xle rfl, xle rfl⟩, xle rfl, xle rfl⟩ (xle rfl) ?_
        refine ⟨sgn ns sg i, rfl, fun v hv => sgn_lt hsg hv, fun _ => ?_⟩
        cases hs : sgn ns sg i with
        | none =>
          have hE : parseF (sgn ns sg) ns (f + 1) k i lt nu = (some i, k, lt, nu) := by rw [parseF, hs]
          rw [← he, hE] at hQ
          refine x_if_ne (q := 29) F 31 dX5_parse_26 (by decide) rfl (fun c26 => ?_) (fun c26 => ?_)
          · exact absurd rfl c26
          · refine x_iload_n (q := 30) F dX5_parse_29 rfl rfl ?_
            refine x_iret F dX5_parse_30 (xle rfl) (xle rfl) ?_
            exact hQ
        | some c =>
          have hcl : c < 256 := sgn_lt hsg hs
          by_cases hL : c ∈ L14
          · rw [show isLet (some c) = true from decide_eq_true hL]
            refine x_if_ne (q := 29) F 31 dX5_parse_26 (by decide) rfl (fun c26 => ?_) (fun c26 => ?_)
            · refine x_aload_n (q := 32) F dX5_parse_31 rfl rfl (by first | exact xref_r | exact xref_n | exact xref_f _ | assumption) ?_
              refine x_iload_n (q := 33) F dX5_parse_32 rfl rfl ?_
              refine x_iconst (q := 34) (v := 1) F dX5_parse_33 rfl (by decide) ?_
              refine x_iadd (q := 35) F dX5_parse_34 rfl ?_
              refine x_topi (nI_1 i) ?_
              refine x_callV1 (q := 38) F (2, 0) c_X5_digitsFrom dX5_parse_35 rfl mv_X5_digitsFrom ml_X5_47 ⟨⟨xle rfl, xle rfl⟩, xle rfl, xle rfl⟩ rfl rfl (xle rfl) ?_
              refine ⟨g, ns, sg, lt, nu, k, i + 1, rfl, rfl, hns, hsg, by omega, fun _ => ?_⟩
              have hd3 := digN_le (sgn ns sg) (i + 1)
              have hv := numN_999 (sgn ns sg) (i + 1)
              have hdg := digN_dig (sgn ns sg) (i + 1)
              have hE := parseF_s (s := sgn ns sg) (ns := ns) (f := f) (k := k) (lt := lt) (nu := nu) hs hL
              generalize digN (sgn ns sg) (i + 1) = d at hd3 hv hdg hE ⊢
              generalize hvv : numN (sgn ns sg) (i + 1) d = v at hv hE ⊢
              refine x_istore_n (q := 39) F dX5_parse_38 rfl (by decide) ?_
              refine x_aload_n (q := 40) F dX5_parse_39 rfl rfl (by first | exact xref_r | exact xref_n | exact xref_f _ | assumption) ?_
              refine x_iload_n (q := 41) F dX5_parse_40 rfl rfl ?_
              refine x_iconst (q := 42) (v := 1) F dX5_parse_41 rfl (by decide) ?_
              refine x_iadd (q := 43) F dX5_parse_42 rfl ?_
              refine x_topi (nI_1 i) ?_
              refine x_iload_n (q := 44) F dX5_parse_43 rfl rfl ?_
              refine x_callV2 (q := 47) F (2, 0) c_X5_numberFrom dX5_parse_44 rfl mv_X5_numberFrom ml_X5_50 ⟨⟨xle rfl, xle rfl⟩, xle rfl, xle rfl⟩ rfl rfl (xle rfl) ?_
              refine ⟨g, ns, sg, lt, nu, k, i + 1, d, rfl, rfl, hns, hsg, by omega, hd3, hdg, fun _ => ?_⟩
              rw [hvv]
              have bad : (d = 0 ∨ 255 < v) → xX p l e (xrm 5 0 0) s m args below meth c0 G ad h0 5 (xZ below G ad h0 Q args s (xrm 5 0 0)) 61 [(0, .ref (ad (2, 0))), (1, .int (nI i))] [] ad (wT g ad ns sg lt nu k) 0 0 := by
                intro hz
                rw [if_pos hz] at hE
                rw [← he, hE] at hQ
                refine x_iload_n (q := 62) F dX5_parse_61 rfl rfl ?_
                refine x_iconst (q := 63) (v := 1) F dX5_parse_62 rfl (by decide) ?_
                refine x_iadd (q := 64) F dX5_parse_63 rfl ?_
                refine x_topi (nI_1 i) ?_
                refine x_iret F dX5_parse_64 (xle rfl) (xle rfl) ?_
                exact hQ
              refine x_istore (q := 49) F dX5_parse_47 rfl (by decide) ?_
              refine x_iload_n (q := 50) F dX5_parse_49 rfl rfl ?_
              refine x_if_eq (q := 53) F 61 dX5_parse_50 (by decide) rfl (fun c50 => ?_) (fun c50 => ?_)
              · refine x_ls [(0, .ref (ad (2, 0))), (1, .int (nI i))] rfl ?_
                exact bad (Or.inl ((nI_eq (b := 0) (by omega) (by omega)).mp c50))
              · have hd0 : ¬ d = 0 := fun z => c50 (by rw [z]; rfl)
                refine x_iload (q := 55) F dX5_parse_53 rfl rfl ?_
                refine x_sipush (q := 58) (v := 255) F dX5_parse_55 rfl (by decide) ?_
                refine x_icmp_le (q := 61) F 65 dX5_parse_58 (by decide) rfl (fun c58 => ?_) (fun c58 => ?_)
                · have hv2 : ¬ 255 < v := by have := (nI_leI (a := v) (b := 255) (by omega) (by omega)).mp c58; omega
                  rw [if_neg (by omega)] at hE
                  refine x_aload_n (q := 66) F dX5_parse_65 rfl rfl (by first | exact xref_r | exact xref_n | exact xref_f _ | assumption) ?_
                  refine x_get (q := 69) F dX5_parse_66 rfl fs_X5_15 rfl rfl ?_
                  refine x_aload_n (q := 70) F dX5_parse_69 rfl rfl (by first | exact xref_r | exact xref_n | exact xref_f _ | assumption) ?_
                  refine x_get (q := 73) F dX5_parse_70 rfl fs_X5_25 rfl rfl ?_
                  refine x_iload_n (q := 74) F dX5_parse_73 rfl rfl ?_
                  refine x_iast (q := 75) F dX5_parse_74 rfl rfl rfl (by omega) (by omega) ?_
                  refine x_h (h2 := wT g ad ns sg (updN lt k c) nu k) (by rw [show optI (some c) = nI c from rfl, upd_N]; exact wT_lt _ _ _ _ _ _ _ _) ?_
                  refine x_aload_n (q := 76) F dX5_parse_75 rfl rfl (by first | exact xref_r | exact xref_n | exact xref_f _ | assumption) ?_
                  refine x_get (q := 79) F dX5_parse_76 rfl fs_X5_18 rfl rfl ?_
                  refine x_aload_n (q := 80) F dX5_parse_79 rfl rfl (by first | exact xref_r | exact xref_n | exact xref_f _ | assumption) ?_
                  refine x_get (q := 83) F dX5_parse_80 rfl fs_X5_25 rfl rfl ?_
                  refine x_iload (q := 85) F dX5_parse_83 rfl rfl ?_
                  refine x_iast (q := 86) F dX5_parse_85 rfl rfl rfl (by omega) (by omega) ?_
                  refine x_h (h2 := wT g ad ns sg (updN lt k c) (updN nu k v) k) (by rw [upd_N]; exact wT_nu _ _ _ _ _ _ _ _) ?_
                  refine x_aload_n (q := 87) F dX5_parse_86 rfl rfl (by first | exact xref_r | exact xref_n | exact xref_f _ | assumption) ?_
                  refine x_dup (q := 88) F dX5_parse_87 rfl rfl ?_
                  refine x_get (q := 91) F dX5_parse_88 rfl fs_X5_25 rfl rfl ?_
                  refine x_iconst (q := 92) (v := 1) F dX5_parse_91 rfl (by decide) ?_
                  refine x_iadd (q := 93) F dX5_parse_92 rfl ?_
                  refine x_topi (nI_1 k) ?_
                  refine x_put (q := 96) F dX5_parse_93 rfl fs_X5_25 rfl (xle rfl) rfl rfl ?_
                  refine x_h (h2 := wT g ad ns sg (updN lt k c) (updN nu k v) (k + 1)) (xup_xup _ _ _ _) ?_
                  refine x_iload_n (q := 97) F dX5_parse_96 rfl rfl ?_
                  refine x_iconst (q := 98) (v := 1) F dX5_parse_97 rfl (by decide) ?_
                  refine x_iload_n (q := 99) F dX5_parse_98 rfl rfl ?_
                  refine x_iadd (q := 100) F dX5_parse_99 rfl ?_
                  refine x_iadd (q := 101) F dX5_parse_100 rfl ?_
                  refine x_topi (y := nI (i + 1 + d)) (by show nI i + (nI 1 + nI d) = _; rw [nI_add, nI_add, Nat.add_assoc]) ?_
                  refine x_istore_n (q := 102) F dX5_parse_101 rfl (by decide) ?_
                  refine x_iload_n (q := 103) F dX5_parse_102 rfl rfl ?_
                  refine x_aload_n (q := 104) F dX5_parse_103 rfl rfl (by first | exact xref_r | exact xref_n | exact xref_f _ | assumption) ?_
                  refine x_get (q := 107) F dX5_parse_104 rfl fs_X5_21 rfl rfl ?_
                  refine x_icmp_lt (q := 110) F 112 dX5_parse_107 (by decide) rfl (fun c107 => ?_) (fun c107 => ?_)
                  · have hlt := (nI_ltI (by omega) (by omega)).mp c107
                    rw [if_neg (by omega)] at hE
                    refine x_aload_n (q := 113) F dX5_parse_112 rfl rfl (by first | exact xref_r | exact xref_n | exact xref_f _ | assumption) ?_
                    refine x_iload_n (q := 114) F dX5_parse_113 rfl rfl ?_
                    refine x_callV1 (q := 117) F (2, 0) c_X5_signAt dX5_parse_114 rfl mv_X5_signAt ml_X5_39 ⟨⟨xle rfl, xle rfl⟩, xle rfl, xle rfl⟩ rfl rfl (xle rfl) ?_
                    refine ⟨g, ns, sg, updN lt k c, updN nu k v, k + 1, i + 1 + d, rfl, rfl, hns, by omega, fun _ => ?_⟩
                    refine x_bipush (q := 119) (v := 32) F dX5_parse_117 rfl (by decide) ?_
                    refine x_icmp_eq (q := 122) F 124 dX5_parse_119 (by decide) rfl (fun c119 => ?_) (fun c119 => ?_)
                    · have h32 : sgn ns sg (i + 1 + d) = some 32 := by
                        have hsg2 : sgn ns sg (i + 1 + d) = some (sg (i + 1 + d)) := if_pos hlt
                        rw [hsg2] at c119 ⊢
                        have := hsg _ hlt
                        rw [(nI_eq (a := sg (i + 1 + d)) (b := 32) (by omega) (by omega)).mp c119]
                      rw [if_pos h32] at hE
                      refine x_iinc (q := 127) F dX5_parse_124 rfl rfl (nI_1 (i + 1 + d)) (by decide) ?_
                      refine x_goto F 7 dX5_parse_127 (by decide) ?_
                      refine x_ls [(0, .ref (ad (2, 0))), (1, .int (nI (i + 1 + d + 1)))] rfl ?_
                      exact ih (k + 1) (i + 1 + d + 1) (updN lt k c) (updN nu k v) (by omega) (by omega) (hE.symm.trans he)
                    · have h32 : ¬ sgn ns sg (i + 1 + d) = some 32 := fun z => c119 (by rw [z]; rfl)
                      rw [if_neg h32] at hE
                      rw [← he, hE] at hQ
                      refine x_iload_n (q := 123) F dX5_parse_122 rfl rfl ?_
                      refine x_iret F dX5_parse_123 (xle rfl) (xle rfl) ?_
                      exact hQ
                  · have hge : ns ≤ i + 1 + d := by
                      rcases Nat.lt_or_ge (i + 1 + d) ns with q | q
                      · exact absurd ((nI_ltI (by omega) (by omega)).mpr q) c107
                      · exact q
                    rw [if_pos hge] at hE
                    rw [← he, hE] at hQ
                    refine x_iconst (q := 111) (v := -1) F dX5_parse_110 rfl (by decide) ?_
                    refine x_iret F dX5_parse_111 (xle rfl) (xle rfl) ?_
                    exact hQ
                · refine x_ls [(0, .ref (ad (2, 0))), (1, .int (nI i))] rfl ?_
                  refine bad (Or.inr ?_)
                  rcases Nat.lt_or_ge 255 v with q | q
                  · exact q
                  · exact absurd ((nI_leI (a := v) (b := 255) (by omega) (by omega)).mpr q) c58
            · exact absurd c26 (by decide)
          · rw [show isLet (some c) = false from decide_eq_false hL]
            have hE : parseF (sgn ns sg) ns (f + 1) k i lt nu = (some i, k, lt, nu) := by rw [parseF, hs]; simp only [if_neg hL]
            rw [← he, hE] at hQ
            refine x_if_ne (q := 29) F 31 dX5_parse_26 (by decide) rfl (fun c26 => ?_) (fun c26 => ?_)
            · exact absurd rfl c26
            · refine x_iload_n (q := 30) F dX5_parse_29 rfl rfl ?_
              refine x_iret F dX5_parse_30 (xle rfl) (xle rfl) ?_
              exact hQ
  refine x_h hh0.symm ?_
  refine x_ls [(0, .ref (ad (2, 0)))] rfl ?_
  refine x_aload_n (q := 1) F dX5_parse_0 rfl rfl (by first | exact xref_r | exact xref_n | exact xref_f _ | assumption) ?_
  refine x_iconst (q := 2) (v := 0) F dX5_parse_1 rfl (by decide) ?_
  refine x_put (q := 5) F dX5_parse_2 rfl fs_X5_25 rfl (xle rfl) rfl rfl ?_
  refine x_h (h2 := wT g ad ns sg lt0 nu0 0) (xup_xup _ _ _ _) ?_
  refine x_iconst (q := 6) (v := 0) F dX5_parse_5 rfl (by decide) ?_
  refine x_istore_n (q := 7) F dX5_parse_6 rfl (by decide) ?_
  refine x_ls [(0, .ref (ad (2, 0))), (1, .int (nI 0))] rfl ?_
  exact loop 40 0 0 lt0 nu0 rfl (Nat.zero_le _) rfl
end
section
/-! ===== what makes cells: ByteRow.copy, Script, ScriptText, Runner ===== -/
def s_copy : xSp := fun ad h av Q => ∃ (t b tr tb : Tg) (n N : Nat) (f : Nat → Int32), av = [.ref (ad t)] ∧ h t = some (cRow (ad b) (nI n)) ∧ h b = some (cI N f) ∧ n ≤ N ∧ N ≤ 40 ∧ h tr = none ∧ h tb = none ∧ tr ≠ tb ∧
  ∀ (ad' : xAd) (g : Nat → Int32), (∀ v, v ≠ tr → v ≠ tb → ad' v = ad v) → (∀ j, j < n → g j = f j) → Q (some (.ref (ad' tr))) ad' (xup (xup h tb (cI n g)) tr (cRow (ad' tb) (nI n)))
set_option maxRecDepth 100000 in
theorem c_X0_copy : Ct yX0_copy cX0_copy 1 (some (.object "MigrateSteps$ByteRow")) (xrm 2 2 42) s_copy := by
  refine Ct.of (by decide) ?_
  intro p l e s m args below meth c0 G ad h av Q F hsp
  obtain ⟨t, b, tr, tb, n, N, f, rfl, e1, e2, hn, hN, e3, e4, hne, hQ⟩ := hsp
  have h1 : t ≠ tr := fun z => by rw [z, e3] at e1; cases e1
  have h2 : t ≠ tb := fun z => by rw [z, e4] at e1; cases e1
  have h3 : b ≠ tr := fun z => by rw [z, e3] at e2; cases e2
  have h4 : b ≠ tb := fun z => by rw [z, e4] at e2; cases e2
  refine ⟨x_ent rfl rfl, ?_⟩
  refine x_ls [(0, .ref (ad t))] rfl ?_
  refine x_new (q := 3) F tr [.null, .int 0] dX0_copy_0 rfl (ci := 0) rfl ⟨cl_X0_10, im_X0, iz_X0⟩ e3 df_X0 (xle rfl) (xle rfl) (fun ad1 E1 => ?_)
  rw [← E1 t h1]
  rw [← E1 b h3] at e1
  refine x_dup (q := 4) F dX0_copy_3 rfl rfl ?_
  refine x_aload_n (q := 5) F dX0_copy_4 rfl rfl (by first | exact xref_r | exact xref_n | exact xref_f _ | assumption) ?_
  refine x_get (q := 8) F dX0_copy_5 rfl fs_X0_9 (by rw [xup_ne _ _ h1]; exact e1) rfl ?_
  refine x_aload_n (q := 9) F dX0_copy_8 rfl rfl (by first | exact xref_r | exact xref_n | exact xref_f _ | assumption) ?_
  refine x_get (q := 12) F dX0_copy_9 rfl fs_X0_15 (by rw [xup_ne _ _ h1]; exact e1) rfl ?_
  refine x_callS2 (q := 15) F c_J7_copyOf_59c91 dX0_copy_12 rfl ms_J7_copyOf_59c91 ml_X0_23 ⟨⟨xle rfl, xle rfl⟩, xle rfl, xle rfl⟩ (xle rfl) ?_
  refine ⟨b, tb, N, n, f, rfl, by rw [xup_ne _ _ h3]; exact e2, by rw [xup_ne _ _ hne.symm]; exact e4, hn, hN, fun ad2 g E2 hg _ => ?_⟩
  rw [← E2 t h2, ← E2 tr hne]
  rw [← E2 b h4] at e1
  refine x_aload_n (q := 16) F dX0_copy_15 rfl rfl (by first | exact xref_r | exact xref_n | exact xref_f _ | assumption) ?_
  refine x_get (q := 19) F dX0_copy_16 rfl fs_X0_15 (by rw [xup_ne _ _ h2, xup_ne _ _ h1]; exact e1) rfl ?_
  refine x_callI2 (q := 22) F tr c_X0_init dX0_copy_19 rfl mi_X0_init ml_X0_29 ⟨⟨xle rfl, xle rfl⟩, xle rfl, xle rfl⟩ (xle rfl) ?_
  refine ⟨tr, tb, _, _, _, rfl, by rw [xup_ne _ _ hne]; exact xup_self _ _ _, fun _ => ?_⟩
  refine x_h (h2 := xup (xup h tb (cI n g)) tr (cRow (ad2 tb) (nI n))) (by rw [xup_comm _ _ _ hne, xup_xup]) ?_
  refine x_aret F dX0_copy_22 (xle rfl) (xle rfl) (Or.inl ⟨_, rfl⟩) (by first | exact xref_r | exact xref_n | exact xref_f _ | assumption) ?_
  exact hQ ad2 g (fun v q1 q2 => (E2 v q2).trans (E1 v q1)) hg
theorem tg_ne {a b : Nat} (h : a ≠ b) (i j : Nat) : ((a, i) : Tg) ≠ (b, j) := fun z => h (congrArg Prod.fst z)
theorem xk {g : xH} {a i b j : Nat} {e e' : xE} (q : g (b, j) = some e) (h : b ≠ a := by decide) : xup g (a, i) e' (b, j) = some e := (xup_ne _ _ (tg_ne h j i)).trans q
theorem xkn {g : xH} {a i b j : Nat} {e' : xE} (q : g (b, j) = none) (h : b ≠ a := by decide) : xup g (a, i) e' (b, j) = none := (xup_ne _ _ (tg_ne h j i)).trans q
/-- a new script's checks and itself -/
def newScr (ad' : xAd) (h h' : xH) (sc : Nat) (b1 b2 : Tg) : Prop :=
  h' (20, sc) = some (cScr (ad' b1) (ad' b2) (ad' (23, sc)) (ad' (24, sc)) (-1)) ∧ h' (23, sc) = some (cChk (ad' (25, sc)) (ad' (26, sc)) 0) ∧ h' (24, sc) = some (cChk (ad' (27, sc)) (ad' (28, sc)) 0) ∧
  h' (25, sc) = some (cI 4 (fun _ => 0)) ∧ h' (26, sc) = some (cI 4 (fun _ => 0)) ∧ h' (27, sc) = some (cI 4 (fun _ => 0)) ∧ h' (28, sc) = some (cI 4 (fun _ => 0)) ∧
  ∀ t : Tg, ¬ (t = (20, sc) ∨ (23 ≤ t.1 ∧ t.1 ≤ 28 ∧ t.2 = sc)) → h' t = h t
def s_scrInit : xSp := fun ad h av Q => ∃ (sc : Nat) (b1 b2 : Tg), av = [.ref (ad (20, sc)), .ref (ad b1), .ref (ad b2)] ∧ h (20, sc) = some (.inr (4, [.null, .null, .null, .null, .int 0])) ∧ (∀ k, 23 ≤ k → k ≤ 28 → h (k, sc) = none) ∧ h b1 ≠ none ∧ h b2 ≠ none ∧
  ∀ (ad' : xAd) (h' : xH), (∀ v : Tg, ¬ (23 ≤ v.1 ∧ v.1 ≤ 28 ∧ v.2 = sc) → ad' v = ad v) → newScr ad' h h' sc b1 b2 → Q none ad' h'
set_option maxRecDepth 100000 in
set_option maxHeartbeats 2000000 in
theorem c_X4_init : Ct yX4_init cX4_init 3 none (xrm 2 6 22) s_scrInit := by
  refine Ct.of (by decide) ?_
  intro p l e s m args below meth c0 G ad h av Q F hsp
  obtain ⟨sc, b1, b2, rfl, e1, e2, hb1, hb2, hQ⟩ := hsp
  refine ⟨x_ent rfl rfl, ?_⟩
  refine x_ls [(0, .ref (ad (20, sc))), (1, .ref (ad b1)), (2, .ref (ad b2))] rfl ?_
  have n23 := e2 23 (by omega) (by omega)
  have n24 := e2 24 (by omega) (by omega)
  have n25 := e2 25 (by omega) (by omega)
  have n26 := e2 26 (by omega) (by omega)
  have n27 := e2 27 (by omega) (by omega)
  have n28 := e2 28 (by omega) (by omega)
  have lv : ∀ {k : Nat}, h (k, sc) = none → ∀ {b : Tg}, h b ≠ none → b ≠ (k, sc) := fun {k} q1 {b} hb z => hb (by rw [z]; exact q1)
  refine x_aload_n (q := 1) F dX4_init_0 rfl rfl (by first | exact xref_r | exact xref_n | exact xref_f _ | assumption) ?_
  refine x_objInit (q := 4) F dX4_init_1 rfl ml_X4_3 oi_i oi_c (xle rfl) (xle rfl) ?_
  refine x_aload_n (q := 5) F dX4_init_4 rfl rfl (by first | exact xref_r | exact xref_n | exact xref_f _ | assumption) ?_
  refine x_new (q := 8) F (23, sc) [.null, .null, .int 0] dX4_init_5 rfl (ci := 1) rfl ⟨cl_X4_9, im_X1, iz_X1⟩ n23 df_X1 (xle rfl) (xle rfl) (fun ad1 E1 => ?_)
  rw [← E1 (20, sc) (tg_ne (by decide) _ _), ← E1 b1 (lv n23 hb1), ← E1 b2 (lv n23 hb2)]
  refine x_dup (q := 9) F dX4_init_8 rfl rfl ?_
  refine x_callN0 (q := 12) F (23, sc) "MigrateSteps" c_X1_init dX4_init_9 rfl mi_X1_init mn_X4_11 ⟨⟨xle rfl, xle rfl⟩, xle rfl, xle rfl⟩ (xle rfl) ?_
  refine ⟨(23, sc), (25, sc), (26, sc), rfl, xup_self _ _ _, xkn n25, xkn n26, tg_ne (by decide) _ _, fun ad2 E2 _ => ?_⟩
  rw [← E2 (20, sc) (tg_ne (by decide) _ _) (tg_ne (by decide) _ _), ← E2 (23, sc) (tg_ne (by decide) _ _) (tg_ne (by decide) _ _), ← E2 b1 (lv n25 hb1) (lv n26 hb1), ← E2 b2 (lv n25 hb2) (lv n26 hb2)]
  refine x_putF (q := 15) F dX4_init_12 rfl fs_X4_12 rfl rfl (xk (xk (xk (xk e1)))) (xle rfl) rfl rfl ?_
  refine x_aload_n (q := 16) F dX4_init_15 rfl rfl (by first | exact xref_r | exact xref_n | exact xref_f _ | assumption) ?_
  refine x_new (q := 19) F (24, sc) [.null, .null, .int 0] dX4_init_16 rfl (ci := 1) rfl ⟨cl_X4_9, im_X1, iz_X1⟩ (xkn (xkn (xkn (xkn (xkn n24))))) df_X1 (xle rfl) (xle rfl) (fun ad3 E3 => ?_)
  rw [← E3 (20, sc) (tg_ne (by decide) _ _), ← E3 (23, sc) (tg_ne (by decide) _ _), ← E3 (25, sc) (tg_ne (by decide) _ _), ← E3 (26, sc) (tg_ne (by decide) _ _), ← E3 b1 (lv n24 hb1), ← E3 b2 (lv n24 hb2)]
  refine x_dup (q := 20) F dX4_init_19 rfl rfl ?_
  refine x_callN0 (q := 23) F (24, sc) "MigrateSteps" c_X1_init dX4_init_20 rfl mi_X1_init mn_X4_11 ⟨⟨xle rfl, xle rfl⟩, xle rfl, xle rfl⟩ (xle rfl) ?_
  refine ⟨(24, sc), (27, sc), (28, sc), rfl, xup_self _ _ _, xkn (xkn (xkn (xkn (xkn (xkn n27))))), xkn (xkn (xkn (xkn (xkn (xkn n28))))), tg_ne (by decide) _ _, fun ad4 E4 _ => ?_⟩
  have E4' : ∀ {k : Nat}, k ≠ 27 → k ≠ 28 → ad4 (k, sc) = ad3 (k, sc) := fun q1 q2 => E4 _ (tg_ne q1 _ _) (tg_ne q2 _ _)
  rw [← E4' (k := 20) (by decide) (by decide), ← E4' (k := 23) (by decide) (by decide), ← E4' (k := 24) (by decide) (by decide), ← E4' (k := 25) (by decide) (by decide), ← E4' (k := 26) (by decide) (by decide), ← E4 b1 (lv n27 hb1) (lv n28 hb1), ← E4 b2 (lv n27 hb2) (lv n28 hb2)]
  refine x_putF (q := 26) F dX4_init_23 rfl fs_X4_18 rfl rfl (xk (xk (xk (xk (xup_self _ _ _))))) (xle rfl) rfl rfl ?_
  refine x_aload_n (q := 27) F dX4_init_26 rfl rfl (by first | exact xref_r | exact xref_n | exact xref_f _ | assumption) ?_
  refine x_iconst (q := 28) (v := -1) F dX4_init_27 rfl (by decide) ?_
  refine x_put (q := 31) F dX4_init_28 rfl fs_X4_21 (xup_self _ _ _) (xle rfl) rfl rfl ?_
  refine x_aload_n (q := 32) F dX4_init_31 rfl rfl (by first | exact xref_r | exact xref_n | exact xref_f _ | assumption) ?_
  refine x_aload_n (q := 33) F dX4_init_32 rfl rfl (by first | exact xref_r | exact xref_n | exact xref_f _ | assumption) ?_
  refine x_putF (q := 36) F dX4_init_33 rfl fs_X4_25 rfl rfl (xup_self _ _ _) (xle rfl) rfl rfl ?_
  refine x_aload_n (q := 37) F dX4_init_36 rfl rfl (by first | exact xref_r | exact xref_n | exact xref_f _ | assumption) ?_
  refine x_aload_n (q := 38) F dX4_init_37 rfl rfl (by first | exact xref_r | exact xref_n | exact xref_f _ | assumption) ?_
  refine x_putF (q := 41) F dX4_init_38 rfl fs_X4_29 rfl rfl (xup_self _ _ _) (xle rfl) rfl rfl ?_
  refine x_vret F dX4_init_41 (xle rfl) (xle rfl) ?_
  refine hQ ad4 _ (fun v hv => ?_) ⟨?_, ?_, ?_, ?_, ?_, ?_, ?_, ?_⟩
  · have q : ∀ k, 23 ≤ k → k ≤ 28 → v ≠ (k, sc) := fun k q1 q2 z => hv (by rw [z]; exact ⟨q1, q2, rfl⟩)
    rw [E4 v (q 27 (by omega) (by omega)) (q 28 (by omega) (by omega)), E3 v (q 24 (by omega) (by omega)), E2 v (q 25 (by omega) (by omega)) (q 26 (by omega) (by omega)), E1 v (q 23 (by omega) (by omega))]
  · exact xup_self _ _ _
  · simp [xup]
  · simp [xup]
  · simp [xup]
  · simp [xup]
  · simp [xup]
  · simp [xup]
  · intro t ht
    have q : ∀ k, 23 ≤ k → k ≤ 28 → t ≠ (k, sc) := fun k q1 q2 z => ht (Or.inr (by rw [z]; exact ⟨q1, q2, rfl⟩))
    have q0 : t ≠ (20, sc) := fun z => ht (Or.inl z)
    simp [xup, q0, q 23 (by omega) (by omega), q 24 (by omega) (by omega), q 25 (by omega) (by omega), q 26 (by omega) (by omega), q 27 (by omega) (by omega), q 28 (by omega) (by omega)]
end
section
/-! ===== ScriptText(), parsed(), Runner(..) ===== -/
def s_txtInit : xSp := fun ad h av Q => av = [.ref (ad (2, 0))] ∧ h (2, 0) = some (.inr (5, [.null, .null, .null, .int 0, .int 0])) ∧ h (3, 0) = none ∧ h (4, 0) = none ∧ h (5, 0) = none ∧
  ∀ (ad' : xAd) (h' : xH), (∀ v : Tg, v ≠ (3, 0) → v ≠ (4, 0) → v ≠ (5, 0) → ad' v = ad v) → h' (2, 0) = some (cTxt (ad' (3, 0)) (ad' (4, 0)) (ad' (5, 0)) 0 0) → h' (3, 0) = some (cN 200 (fun _ => 0)) → h' (4, 0) = some (cN 40 (fun _ => 0)) → h' (5, 0) = some (cN 40 (fun _ => 0)) →
    (∀ v : Tg, v ≠ (2, 0) → v ≠ (3, 0) → v ≠ (4, 0) → v ≠ (5, 0) → h' v = h v) → Q none ad' h'
set_option maxRecDepth 100000 in
set_option maxHeartbeats 2000000 in
theorem c_X5_init : Ct yX5_init cX5_init 1 none (xrm 1 3 280) s_txtInit := by
  refine Ct.of (by decide) ?_
  intro p l e s m args below meth c0 G ad h av Q F hsp
  obtain ⟨rfl, e1, e3, e4, e5, hQ⟩ := hsp
  refine ⟨x_ent rfl rfl, ?_⟩
  refine x_ls [(0, .ref (ad (2, 0)))] rfl ?_
  refine x_aload_n (q := 1) F dX5_init_0 rfl rfl (by first | exact xref_r | exact xref_n | exact xref_f _ | assumption) ?_
  refine x_objInit (q := 4) F dX5_init_1 rfl ml_X5_3 oi_i oi_c (xle rfl) (xle rfl) ?_
  refine x_aload_n (q := 5) F dX5_init_4 rfl rfl (by first | exact xref_r | exact xref_n | exact xref_f _ | assumption) ?_
  refine x_sipush (q := 8) (v := 200) F dX5_init_5 rfl (by decide) ?_
  refine x_newaI (q := 10) (N := 200) F (3, 0) dX5_init_8 rfl ac_int rfl (by omega) e3 (xle rfl) (xle rfl) (fun ad1 E1 => ?_)
  rw [← E1 (2, 0) (by decide)]
  refine x_putF (q := 13) F dX5_init_10 rfl fs_X5_9 rfl rfl (xk e1) (xle rfl) rfl rfl ?_
  refine x_aload_n (q := 14) F dX5_init_13 rfl rfl (by first | exact xref_r | exact xref_n | exact xref_f _ | assumption) ?_
  refine x_bipush (q := 16) (v := 40) F dX5_init_14 rfl (by decide) ?_
  refine x_newaI (q := 18) (N := 40) F (4, 0) dX5_init_16 rfl ac_int rfl (by omega) (xkn (xkn e4)) (xle rfl) (xle rfl) (fun ad2 E2 => ?_)
  rw [← E2 (2, 0) (by decide), ← E2 (3, 0) (by decide)]
  refine x_putF (q := 21) F dX5_init_18 rfl fs_X5_15 rfl rfl (xk (xup_self _ _ _)) (xle rfl) rfl rfl ?_
  refine x_aload_n (q := 22) F dX5_init_21 rfl rfl (by first | exact xref_r | exact xref_n | exact xref_f _ | assumption) ?_
  refine x_bipush (q := 24) (v := 40) F dX5_init_22 rfl (by decide) ?_
  refine x_newaI (q := 26) (N := 40) F (5, 0) dX5_init_24 rfl ac_int rfl (by omega) (xkn (xkn (xkn (xkn e5)))) (xle rfl) (xle rfl) (fun ad3 E3 => ?_)
  rw [← E3 (2, 0) (by decide), ← E3 (3, 0) (by decide), ← E3 (4, 0) (by decide)]
  refine x_putF (q := 29) F dX5_init_26 rfl fs_X5_18 rfl rfl (xk (xup_self _ _ _)) (xle rfl) rfl rfl ?_
  refine x_aload_n (q := 30) F dX5_init_29 rfl rfl (by first | exact xref_r | exact xref_n | exact xref_f _ | assumption) ?_
  refine x_iconst (q := 31) (v := 0) F dX5_init_30 rfl (by decide) ?_
  refine x_put (q := 34) F dX5_init_31 rfl fs_X5_21 (xup_self _ _ _) (xle rfl) rfl rfl ?_
  refine x_aload_n (q := 35) F dX5_init_34 rfl rfl (by first | exact xref_r | exact xref_n | exact xref_f _ | assumption) ?_
  refine x_iconst (q := 36) (v := 0) F dX5_init_35 rfl (by decide) ?_
  refine x_put (q := 39) F dX5_init_36 rfl fs_X5_25 (xup_self _ _ _) (xle rfl) rfl rfl ?_
  refine x_vret F dX5_init_39 (xle rfl) (xle rfl) ?_
  refine hQ ad3 _ (fun v q1 q2 q3 => ((E3 v q3).trans (E2 v q2)).trans (E1 v q1)) rfl rfl rfl rfl (fun v q1 q2 q3 q4 => ?_)
  simp [xup, q1, q2, q3, q4]
def s_runInit : xSp := fun ad h av Q => ∃ st : Nat, av = [.ref (ad (10, 0)), .int (nI st), .ref (ad (11, 0))] ∧ h (10, 0) = some (.inr (3, [.int 0, .null, .null, .int 0, .int 0, .int 0, .int 0, .int 0, .long 0])) ∧ h (11, 0) ≠ none ∧ h (12, 0) = none ∧ h (13, 0) = none ∧
  ∀ (ad' : xAd) (h' : xH), (∀ v : Tg, v ≠ (12, 0) → v ≠ (13, 0) → ad' v = ad v) → h' (10, 0) = some (.inr (3, [.int (nI st), .ref (ad' (11, 0)), .ref (ad' (12, 0)), .int (nI 0), .int (nI 0), .int (nI 0), .int (nI 0), .int (-1), .long 0])) → h' (12, 0) = some (cRow (ad' (13, 0)) (nI 0)) → h' (13, 0) = some (cN 40 (fun _ => 0)) →
    (∀ v : Tg, v ≠ (10, 0) → v ≠ (12, 0) → v ≠ (13, 0) → h' v = h v) → Q none ad' h'
set_option maxRecDepth 100000 in
set_option maxHeartbeats 2000000 in
theorem c_X3_init : Ct yX3_init cX3_init 3 none (xrm 2 2 42) s_runInit := by
  refine Ct.of (by decide) ?_
  intro p l e s m args below meth c0 G ad h av Q F hsp
  obtain ⟨st, rfl, e1, e2, e3, e4, hQ⟩ := hsp
  refine ⟨x_ent rfl rfl, ?_⟩
  refine x_ls [(0, .ref (ad (10, 0))), (1, .int (nI st)), (2, .ref (ad (11, 0)))] rfl ?_
  refine x_aload_n (q := 1) F dX3_init_0 rfl rfl (by first | exact xref_r | exact xref_n | exact xref_f _ | assumption) ?_
  refine x_objInit (q := 4) F dX3_init_1 rfl ml_X3_3 oi_i oi_c (xle rfl) (xle rfl) ?_
  refine x_aload_n (q := 5) F dX3_init_4 rfl rfl (by first | exact xref_r | exact xref_n | exact xref_f _ | assumption) ?_
  refine x_new (q := 8) F (12, 0) [.null, .int 0] dX3_init_5 rfl (ci := 0) rfl ⟨cl_X3_9, im_X0, iz_X0⟩ e3 df_X0 (xle rfl) (xle rfl) (fun ad1 E1 => ?_)
  rw [← E1 (10, 0) (by decide), ← E1 (11, 0) (by decide)]
  refine x_dup (q := 9) F dX3_init_8 rfl rfl ?_
  refine x_bipush (q := 11) (v := 40) F dX3_init_9 rfl (by decide) ?_
  refine x_newaI (q := 13) (N := 40) F (13, 0) dX3_init_11 rfl ac_int rfl (by omega) (xkn e4) (xle rfl) (xle rfl) (fun ad2 E2 => ?_)
  rw [← E2 (10, 0) (by decide), ← E2 (11, 0) (by decide), ← E2 (12, 0) (by decide)]
  refine x_iconst (q := 14) (v := 0) F dX3_init_13 rfl (by decide) ?_
  refine x_callI2 (q := 17) F (12, 0) c_X0_init dX3_init_14 rfl mi_X0_init ml_X3_11 ⟨⟨xle rfl, xle rfl⟩, xle rfl, xle rfl⟩ (xle rfl) ?_
  refine ⟨(12, 0), (13, 0), _, _, _, rfl, xk (xup_self _ _ _), fun _ => ?_⟩
  refine x_putF (q := 20) F dX3_init_17 rfl fs_X3_14 rfl rfl (xk (xk (xk e1))) (xle rfl) rfl rfl ?_
  refine x_aload_n (q := 21) F dX3_init_20 rfl rfl (by first | exact xref_r | exact xref_n | exact xref_f _ | assumption) ?_
  refine x_iconst (q := 22) (v := 0) F dX3_init_21 rfl (by decide) ?_
  refine x_put (q := 25) F dX3_init_22 rfl fs_X3_20 (xup_self _ _ _) (xle rfl) rfl rfl ?_
  refine x_h (xup_xup _ _ _ _) ?_
  refine x_aload_n (q := 26) F dX3_init_25 rfl rfl (by first | exact xref_r | exact xref_n | exact xref_f _ | assumption) ?_
  refine x_iconst (q := 27) (v := 0) F dX3_init_26 rfl (by decide) ?_
  refine x_put (q := 30) F dX3_init_27 rfl fs_X3_24 (xup_self _ _ _) (xle rfl) rfl rfl ?_
  refine x_h (xup_xup _ _ _ _) ?_
  refine x_aload_n (q := 31) F dX3_init_30 rfl rfl (by first | exact xref_r | exact xref_n | exact xref_f _ | assumption) ?_
  refine x_iconst (q := 32) (v := 0) F dX3_init_31 rfl (by decide) ?_
  refine x_put (q := 35) F dX3_init_32 rfl fs_X3_27 (xup_self _ _ _) (xle rfl) rfl rfl ?_
  refine x_h (xup_xup _ _ _ _) ?_
  refine x_aload_n (q := 36) F dX3_init_35 rfl rfl (by first | exact xref_r | exact xref_n | exact xref_f _ | assumption) ?_
  refine x_iconst (q := 37) (v := 0) F dX3_init_36 rfl (by decide) ?_
  refine x_put (q := 40) F dX3_init_37 rfl fs_X3_30 (xup_self _ _ _) (xle rfl) rfl rfl ?_
  refine x_h (xup_xup _ _ _ _) ?_
  refine x_aload_n (q := 41) F dX3_init_40 rfl rfl (by first | exact xref_r | exact xref_n | exact xref_f _ | assumption) ?_
  refine x_iconst (q := 42) (v := -1) F dX3_init_41 rfl (by decide) ?_
  refine x_put (q := 45) F dX3_init_42 rfl fs_X3_33 (xup_self _ _ _) (xle rfl) rfl rfl ?_
  refine x_h (xup_xup _ _ _ _) ?_
  refine x_aload_n (q := 46) F dX3_init_45 rfl rfl (by first | exact xref_r | exact xref_n | exact xref_f _ | assumption) ?_
  refine x_lconst (q := 47) (v := 0) F dX3_init_46 rfl (by decide) ?_
  refine x_put (q := 50) F dX3_init_47 rfl fs_X3_36 (xup_self _ _ _) (xle rfl) rfl rfl ?_
  refine x_h (xup_xup _ _ _ _) ?_
  refine x_aload_n (q := 51) F dX3_init_50 rfl rfl (by first | exact xref_r | exact xref_n | exact xref_f _ | assumption) ?_
  refine x_iload_n (q := 52) F dX3_init_51 rfl rfl ?_
  refine x_putF (q := 55) F dX3_init_52 rfl fs_X3_40 rfl rfl (xup_self _ _ _) (xle rfl) rfl rfl ?_
  refine x_h (xup_xup _ _ _ _) ?_
  refine x_aload_n (q := 56) F dX3_init_55 rfl rfl (by first | exact xref_r | exact xref_n | exact xref_f _ | assumption) ?_
  refine x_aload_n (q := 57) F dX3_init_56 rfl rfl (by first | exact xref_r | exact xref_n | exact xref_f _ | assumption) ?_
  refine x_putF (q := 60) F dX3_init_57 rfl fs_X3_43 rfl rfl (xup_self _ _ _) (xle rfl) rfl rfl ?_
  refine x_h (xup_xup _ _ _ _) ?_
  refine x_vret F dX3_init_60 (xle rfl) (xle rfl) ?_
  refine hQ ad2 _ (fun v q1 q2 => (E2 v q2).trans (E1 v q1)) rfl rfl rfl (fun v q1 q2 q3 => ?_)
  simp [xup, q1, q2, q3]
/-- a script that was read, in its cells -/
def s_parsed : xSp := fun ad h av Q => ∃ (sc ns k : Nat) (lt nu : Nat → Nat), av = [.ref (ad (2, 0))] ∧ h (2, 0) = some (cTxt (ad (3, 0)) (ad (4, 0)) (ad (5, 0)) ns k) ∧ h (4, 0) = some (cN 40 lt) ∧ h (5, 0) = some (cN 40 nu) ∧ k ≤ 40 ∧ (∀ j, 20 ≤ j → j ≤ 28 → h (j, sc) = none) ∧
  ∀ (ad' : xAd) (h' : xH), (∀ v : Tg, ¬ (20 ≤ v.1 ∧ v.1 ≤ 28 ∧ v.2 = sc) → ad' v = ad v) → h' (21, sc) = some (cN k lt) → h' (22, sc) = some (cN k nu) →
    h' (20, sc) = some (cScr (ad' (21, sc)) (ad' (22, sc)) (ad' (23, sc)) (ad' (24, sc)) (-1)) → h' (23, sc) = some (cChk (ad' (25, sc)) (ad' (26, sc)) 0) → h' (24, sc) = some (cChk (ad' (27, sc)) (ad' (28, sc)) 0) →
    h' (25, sc) = some (cI 4 (fun _ => 0)) → h' (26, sc) = some (cI 4 (fun _ => 0)) → h' (27, sc) = some (cI 4 (fun _ => 0)) → h' (28, sc) = some (cI 4 (fun _ => 0)) →
    (∀ t : Tg, ¬ (20 ≤ t.1 ∧ t.1 ≤ 28 ∧ t.2 = sc) → h' t = h t) → Q (some (.ref (ad' (20, sc)))) ad' h'
set_option maxRecDepth 100000 in
set_option maxHeartbeats 2000000 in
theorem c_X5_parsed : Ct yX5_parsed cX5_parsed 1 (some (.object "MigrateSteps$Script")) (xrm 3 9 107) s_parsed := by
  refine Ct.of (by decide) ?_
  intro p l e s m args below meth c0 G ad h av Q F hsp
  obtain ⟨sc, ns, k, lt, nu, rfl, e1, e2, e3, hk, hn, hQ⟩ := hsp
  refine ⟨x_ent rfl rfl, ?_⟩
  refine x_ls [(0, .ref (ad (2, 0)))] rfl ?_
  have n20 := hn 20 (by omega) (by omega)
  have n21 := hn 21 (by omega) (by omega)
  have n22 := hn 22 (by omega) (by omega)
  refine x_new (q := 3) F (20, sc) [.null, .null, .null, .null, .int 0] dX5_parsed_0 rfl (ci := 4) rfl ⟨cl_X5_28, im_X4, iz_X4⟩ n20 df_X4 (xle rfl) (xle rfl) (fun ad1 E1 => ?_)
  have E1' : ∀ {j : Nat}, j ≠ 20 → ∀ i, ad1 (j, i) = ad (j, i) := fun q i => E1 _ (tg_ne q _ _)
  rw [← E1' (j := 2) (by decide)]
  rw [← E1' (j := 3) (by decide), ← E1' (j := 4) (by decide), ← E1' (j := 5) (by decide)] at e1
  refine x_dup (q := 4) F dX5_parsed_3 rfl rfl ?_
  refine x_aload_n (q := 5) F dX5_parsed_4 rfl rfl (by first | exact xref_r | exact xref_n | exact xref_f _ | assumption) ?_
  refine x_get (q := 8) F dX5_parsed_5 rfl fs_X5_15 (xk e1) rfl ?_
  refine x_aload_n (q := 9) F dX5_parsed_8 rfl rfl (by first | exact xref_r | exact xref_n | exact xref_f _ | assumption) ?_
  refine x_get (q := 12) F dX5_parsed_9 rfl fs_X5_25 (xk e1) rfl ?_
  refine x_callS2 (q := 15) F c_J7_copyOf_59c91 dX5_parsed_12 rfl ms_J7_copyOf_59c91 ml_X5_30 ⟨⟨xle rfl, xle rfl⟩, xle rfl, xle rfl⟩ (xle rfl) ?_
  refine ⟨(4, 0), (21, sc), 40, k, _, rfl, xk e2, xkn n21, hk, by omega, fun ad2 g1 E2 hg1 _ => ?_⟩
  have E2' : ∀ {j : Nat}, j ≠ 21 → ∀ i, ad2 (j, i) = ad1 (j, i) := fun q i => E2 _ (tg_ne q _ _)
  refine x_cell (g := fun j => nI (lt j)) (fun j hj => hg1 j hj) ?_
  rw [← E2' (j := 2) (by decide), ← E2' (j := 20) (by decide)]
  rw [← E2' (j := 3) (by decide), ← E2' (j := 4) (by decide), ← E2' (j := 5) (by decide)] at e1
  refine x_aload_n (q := 16) F dX5_parsed_15 rfl rfl (by first | exact xref_r | exact xref_n | exact xref_f _ | assumption) ?_
  refine x_get (q := 19) F dX5_parsed_16 rfl fs_X5_18 (xk (xk e1)) rfl ?_
  refine x_aload_n (q := 20) F dX5_parsed_19 rfl rfl (by first | exact xref_r | exact xref_n | exact xref_f _ | assumption) ?_
  refine x_get (q := 23) F dX5_parsed_20 rfl fs_X5_25 (xk (xk e1)) rfl ?_
  refine x_callS2 (q := 26) F c_J7_copyOf_59c91 dX5_parsed_23 rfl ms_J7_copyOf_59c91 ml_X5_30 ⟨⟨xle rfl, xle rfl⟩, xle rfl, xle rfl⟩ (xle rfl) ?_
  refine ⟨(5, 0), (22, sc), 40, k, _, rfl, xk (xk e3), xkn (xkn n22), hk, by omega, fun ad3 g2 E3 hg2 _ => ?_⟩
  have E3' : ∀ {j : Nat}, j ≠ 22 → ∀ i, ad3 (j, i) = ad2 (j, i) := fun q i => E3 _ (tg_ne q _ _)
  refine x_cell (g := fun j => nI (nu j)) (fun j hj => hg2 j hj) ?_
  rw [← E3' (j := 2) (by decide), ← E3' (j := 20) (by decide), ← E3' (j := 21) (by decide)]
  refine x_callI2 (q := 29) F (20, sc) c_X4_init dX5_parsed_26 rfl mi_X4_init ml_X5_36 ⟨⟨xle rfl, xle rfl⟩, xle rfl, xle rfl⟩ (xle rfl) ?_
  refine ⟨sc, (21, sc), (22, sc), rfl, xk (xk (xup_self _ _ _)), fun j q1 q2 => ?_, ?_, ?_, fun ad4 h4 E4 hN _ => ?_⟩
  · rw [xup_ne _ _ (tg_ne (by omega) _ _), xup_ne _ _ (tg_ne (by omega) _ _), xup_ne _ _ (tg_ne (by omega) _ _)]
    exact hn j (by omega) (by omega)
  · rw [xk (xup_self _ _ _)]; exact fun z => by cases z
  · rw [xup_self]; exact fun z => by cases z
  obtain ⟨r1, r2, r3, r4, r5, r6, r7, r8⟩ := hN
  have o20 : ad4 (20, sc) = ad3 (20, sc) := E4 (20, sc) (fun z => absurd z.1 (by show ¬ 23 ≤ 20; omega))
  rw [← o20]
  refine x_aret F dX5_parsed_29 (xle rfl) (xle rfl) (Or.inl ⟨_, rfl⟩) (by first | exact xref_r | exact xref_n | exact xref_f _ | assumption) ?_
  refine hQ ad4 h4 (fun v hv => ?_) ?_ ?_ r1 r2 r3 r4 r5 r6 r7 (fun t ht => ?_)
  · rw [E4 v (fun z => hv ⟨by omega, z.2.1, z.2.2⟩), E3 v (fun z => hv (by rw [z]; exact ⟨by show 20 ≤ 22; omega, by show 22 ≤ 28; omega, rfl⟩)), E2 v (fun z => hv (by rw [z]; exact ⟨by show 20 ≤ 21; omega, by show 21 ≤ 28; omega, rfl⟩)), E1 v (fun z => hv (by rw [z]; exact ⟨by show 20 ≤ 20; omega, by show 20 ≤ 28; omega, rfl⟩))]
  · rw [r8 (21, sc) (fun z => by rcases z with z | z; exact absurd (congrArg Prod.fst z) (by show ¬ 21 = 20; omega); exact absurd z.1 (by show ¬ 23 ≤ 21; omega))]
    exact xk (xup_self _ _ _)
  · rw [r8 (22, sc) (fun z => by rcases z with z | z; exact absurd (congrArg Prod.fst z) (by show ¬ 22 = 20; omega); exact absurd z.1 (by show ¬ 23 ≤ 22; omega))]
    exact xup_self _ _ _
  · have q : ∀ j, 20 ≤ j → j ≤ 28 → t ≠ (j, sc) := fun j q1 q2 z => ht (by rw [z]; exact ⟨q1, q2, rfl⟩)
    rw [r8 t (fun z => by rcases z with z | z; exact q 20 (by omega) (by omega) z; exact ht ⟨by omega, z.2.1, z.2.2⟩)]
    simp [xup, q 20 (by omega) (by omega), q 21 (by omega) (by omega), q 22 (by omega) (by omega)]
end
section
/-! ===== the state, as the document has it; and how the class holds it ===== -/
/-- a script: how many commands, letters, numbers; checks before: how many, kinds, values; checks behind; the next in the chain -/
abbrev ScrD : Type := (Nat × (Nat → Nat) × (Nat → Nat)) × (Nat × (Nat → Nat) × (Nat → Nat)) × (Nat × (Nat → Nat) × (Nat → Nat)) × Option Nat
/-- an item: size, bytes; from, by, the original; the open batch that it is of, gone -/
abbrev ItmD : Type := (Nat × (Nat → Nat)) × (Option Nat × Option Nat × Nat) × (Option Nat × Bool)
def sNk (d : ScrD) : Nat := d.1.1
def sL (d : ScrD) : Nat → Nat := d.1.2.1
def sV (d : ScrD) : Nat → Nat := d.1.2.2
def sBn (d : ScrD) : Nat := d.2.1.1
def sBk (d : ScrD) : Nat → Nat := d.2.1.2.1
def sBv (d : ScrD) : Nat → Nat := d.2.1.2.2
def sHn (d : ScrD) : Nat := d.2.2.1.1
def sHk (d : ScrD) : Nat → Nat := d.2.2.1.2.1
def sHv (d : ScrD) : Nat → Nat := d.2.2.1.2.2
def sNx (d : ScrD) : Option Nat := d.2.2.2
def iN (d : ItmD) : Nat := d.1.1
def iB (d : ItmD) : Nat → Nat := d.1.2
def iFr (d : ItmD) : Option Nat := d.2.1.1
def iBy (d : ItmD) : Option Nat := d.2.1.2.1
def iRt (d : ItmD) : Nat := d.2.1.2.2
def iBt (d : ItmD) : Option Nat := d.2.2.1
def iGn (d : ItmD) : Bool := d.2.2.2
/-- text; collected; scripts; items; STEPS, CELLS; put out; PLACE, steps done; open batches, where wrong, met last -/
abbrev AS : Type := (Nat × (Nat → Nat)) × (Nat × (Nat → Nat)) × (Nat × (Nat → ScrD)) × (Nat × (Nat → ItmD)) × (Nat × Nat) × (Nat × (Nat → Nat)) × (Option Nat × Nat) × (Nat × Option Nat × Int32)
def aNs (A : AS) : Nat := A.1.1
def aSg (A : AS) : Nat → Nat := A.1.2
def aCn (A : AS) : Nat := A.2.1.1
def aCb (A : AS) : Nat → Nat := A.2.1.2
def aS (A : AS) : Nat := A.2.2.1.1
def aScr (A : AS) : Nat → ScrD := A.2.2.1.2
def aI (A : AS) : Nat := A.2.2.2.1.1
def aItm (A : AS) : Nat → ItmD := A.2.2.2.1.2
def aSt (A : AS) : Nat := A.2.2.2.2.1.1
def aNc (A : AS) : Nat := A.2.2.2.2.1.2
def aNo (A : AS) : Nat := A.2.2.2.2.2.1.1
def aOut (A : AS) : Nat → Nat := A.2.2.2.2.2.1.2
def aFa (A : AS) : Option Nat := A.2.2.2.2.2.2.1.1
def aCt (A : AS) : Nat := A.2.2.2.2.2.2.1.2
def aOb (A : AS) : Nat := A.2.2.2.2.2.2.2.1
def aWr (A : AS) : Option Nat := A.2.2.2.2.2.2.2.2.1
def aMl (A : AS) : Int32 := A.2.2.2.2.2.2.2.2.2
def setTx (A : AS) (x : Nat × (Nat → Nat)) : AS := (x, A.2.1, A.2.2.1, A.2.2.2.1, A.2.2.2.2.1, A.2.2.2.2.2.1, A.2.2.2.2.2.2.1, A.2.2.2.2.2.2.2)
def setCo (A : AS) (x : Nat × (Nat → Nat)) : AS := (A.1, x, A.2.2.1, A.2.2.2.1, A.2.2.2.2.1, A.2.2.2.2.2.1, A.2.2.2.2.2.2.1, A.2.2.2.2.2.2.2)
def setSc (A : AS) (x : Nat × (Nat → ScrD)) : AS := (A.1, A.2.1, x, A.2.2.2.1, A.2.2.2.2.1, A.2.2.2.2.2.1, A.2.2.2.2.2.2.1, A.2.2.2.2.2.2.2)
def setIt (A : AS) (x : Nat × (Nat → ItmD)) : AS := (A.1, A.2.1, A.2.2.1, x, A.2.2.2.2.1, A.2.2.2.2.2.1, A.2.2.2.2.2.2.1, A.2.2.2.2.2.2.2)
def setRn (A : AS) (x : Nat × (Nat → Nat)) (y : Option Nat × Nat) : AS := (A.1, A.2.1, A.2.2.1, A.2.2.2.1, A.2.2.2.2.1, x, y, A.2.2.2.2.2.2.2)
def setOb (A : AS) (x : Nat) : AS := (A.1, A.2.1, A.2.2.1, A.2.2.2.1, A.2.2.2.2.1, A.2.2.2.2.2.1, A.2.2.2.2.2.2.1, (x, aWr A, aMl A))
def setWr (A : AS) (x : Option Nat) : AS := (A.1, A.2.1, A.2.2.1, A.2.2.2.1, A.2.2.2.2.1, A.2.2.2.2.2.1, A.2.2.2.2.2.2.1, (aOb A, x, aMl A))
def setMl (A : AS) (x : Int32) : AS := (A.1, A.2.1, A.2.2.1, A.2.2.2.1, A.2.2.2.2.1, A.2.2.2.2.2.1, A.2.2.2.2.2.2.1, (aOb A, aWr A, x))
def updS (f : Nat → ScrD) (j : Nat) (v : ScrD) : Nat → ScrD := fun i => if i = j then v else f i
def updI (f : Nat → ItmD) (j : Nat) (v : ItmD) : Nat → ItmD := fun i => if i = j then v else f i
def setBt (d : ItmD) (x : Option Nat) : ItmD := (d.1, d.2.1, (x, d.2.2.2))
def setGn (d : ItmD) (x : Bool) : ItmD := (d.1, d.2.1, (d.2.2.1, x))
def setNx (d : ScrD) (x : Option Nat) : ScrD := (d.1, d.2.1, d.2.2.1, x)
/-- numbers in their ranges: a script, an item, all -/
def scrOK (nS : Nat) (d : ScrD) : Prop := sNk d ≤ 40 ∧ (∀ j, j < sNk d → sL d j ∈ L14 ∧ sV d j < 256) ∧ sBn d ≤ 4 ∧ (∀ j, j < sBn d → sBk d j ≤ 3 ∧ sBv d j < 256) ∧ sHn d ≤ 4 ∧ (∀ j, j < sHn d → sHk d j ≤ 3 ∧ sHv d j < 256) ∧ ∀ t, sNx d = some t → t < nS
def itmOK (nI i : Nat) (d : ItmD) : Prop := iN d ≤ 40 ∧ (∀ j, j < iN d → iB d j < 256) ∧ (∀ x, iFr d = some x → x < i) ∧ (∀ x, iBy d = some x → x < 10) ∧ iRt d < nI ∧ (∀ x, iBt d = some x → x < 1000) ∧ (iFr d = none → iGn d = false)
def aOK (A : AS) : Prop := (aNs A ≤ 200 ∧ ∀ j, j < aNs A → aSg A j < 256) ∧ (aCn A ≤ 40 ∧ ∀ j, j < aCn A → aCb A j < 256) ∧ (aS A ≤ 10 ∧ ∀ s, s < aS A → scrOK (aS A) (aScr A s)) ∧ (aI A ≤ 60 ∧ ∀ i, i < aI A → itmOK (aI A) i (aItm A i)) ∧ (aSt A ≤ 2000 ∧ aNc A ≤ 32) ∧ (aNo A ≤ 40 ∧ ∀ j, j < aNo A → aOut A j < 256) ∧ (∀ x, aFa A = some x → x < 256) ∧ (aOb A ≤ 600 ∧ ∀ x, aWr A = some x → x < 1000)
abbrev cQ (ti N : Nat) (f : Nat → Option Nat) : xE := .inl (ti, N, .inr (.inr (.inr (.inr f))))
/-- a script in its cells -/
def pScr (ad : xAd) (h : xH) (s : Nat) (d : ScrD) : Prop :=
  h (20, s) = some (cScr (ad (21, s)) (ad (22, s)) (ad (23, s)) (ad (24, s)) (optI (sNx d))) ∧ h (21, s) = some (cN (sNk d) (sL d)) ∧ h (22, s) = some (cN (sNk d) (sV d)) ∧
  h (23, s) = some (cChk (ad (25, s)) (ad (26, s)) (nI (sBn d))) ∧ h (24, s) = some (cChk (ad (27, s)) (ad (28, s)) (nI (sHn d))) ∧ h (25, s) = some (cN 4 (sBk d)) ∧ h (26, s) = some (cN 4 (sBv d)) ∧ h (27, s) = some (cN 4 (sHk d)) ∧ h (28, s) = some (cN 4 (sHv d))
/-- an item in its cells -/
def pItm (ad : xAd) (h : xH) (i : Nat) (d : ItmD) : Prop :=
  h (30, i) = some (cItem (ad (31, i)) (optI (iFr d)) (optI (iBy d)) (nI (iRt d)) (optI (iBt d)) (iGn d)) ∧ h (31, i) = some (cRow (ad (32, i)) (nI (iN d))) ∧ h (32, i) = some (cN (iN d) (iB d))
abbrev cMain (ad : xAd) (A : AS) : xE := .inr (6, [.ref (ad (2, 0)), .ref (ad (6, 0)), .ref (ad (8, 0)), .ref (ad (9, 0)), .ref (ad (10, 0)), .int (nI (aS A)), .int (nI (aI A)), .int (nI (aOb A)), .int (optI (aWr A)), .int (aMl A)])
def refN (ad : xAd) (k n : Nat) : Nat → Option Nat := fun s => if s < n then some (ad (k, s)) else none
def pTx (ad : xAd) (h : xH) (A : AS) : Prop := ∃ lt nu k, h (2, 0) = some (cTxt (ad (3, 0)) (ad (4, 0)) (ad (5, 0)) (aNs A) k) ∧ h (3, 0) = some (cN 200 (aSg A)) ∧ h (4, 0) = some (cN 40 lt) ∧ h (5, 0) = some (cN 40 nu)
def pRn (ad : xAd) (h : xH) (A : AS) : Prop := ∃ mem a i p fl, h (11, 0) = some (cN (aNc A) mem) ∧ h (13, 0) = some (cN 40 (aOut A)) ∧ h (12, 0) = some (cRow (ad (13, 0)) (nI (aNo A))) ∧
  h (10, 0) = some (.inr (3, [.int (nI (aSt A)), .ref (ad (11, 0)), .ref (ad (12, 0)), .int (nI a), .int (nI i), .int (nI p), .int (nI fl), .int (optI (aFa A)), .long (lN (aCt A))]))
def pC (ad : xAd) (h : xH) (A : AS) : Prop :=
  h (1, 0) = some (cMain ad A) ∧ pTx ad h A ∧ (h (6, 0) = some (cRow (ad (7, 0)) (nI (aCn A))) ∧ h (7, 0) = some (cN 40 (aCb A))) ∧
  (h (8, 0) = some (cQ 4 10 (refN ad 20 (aS A))) ∧ (∀ s, s < aS A → pScr ad h s (aScr A s)) ∧ ∀ k s, 20 ≤ k → k ≤ 28 → aS A ≤ s → h (k, s) = none) ∧
  (h (9, 0) = some (cQ 5 60 (refN ad 30 (aI A))) ∧ (∀ i, i < aI A → pItm ad h i (aItm A i)) ∧ ∀ k i, 30 ≤ k → k ≤ 32 → aI A ≤ i → h (k, i) = none) ∧ pRn ad h A
/-- a number as an index below n -/
def ixN (n : Nat) (x : Int32) : Option Nat := if x < 0 ∨ n ≤ x.toNatClampNeg then none else some x.toNatClampNeg
theorem ixN_nI {n j : Nat} (h : j < n) (hn : n < 2 ^ 31) : ixN n (nI j) = some j := by
  unfold ixN
  rw [if_neg (vp_in_nI h hn), nI_clamp (by omega)]
theorem ixN_neg {n : Nat} {x : Int32} (h : x < 0) : ixN n x = none := if_pos (Or.inl h)
theorem ixN_ge {n : Nat} {x : Int32} (hn : n < 2 ^ 31) (h : nI n ≤ x) : ixN n x = none := by
  unfold ixN
  by_cases q : x < 0
  · rw [if_pos (Or.inl q)]
  · obtain ⟨j, hj, rfl⟩ := nI_of q
    rw [if_pos (Or.inr ?_)]
    rw [nI_clamp hj]
    exact (nI_leI hn hj).mp h
theorem ixN_some {n : Nat} (hn : n < 2 ^ 31) {x : Int32} {j : Nat} (h : ixN n x = some j) : j < n ∧ x = nI j := by
  rcases pk_ix x hn with q | q | ⟨i, hi, rfl⟩
  · rw [ixN_neg q] at h; cases h
  · rw [ixN_ge hn q] at h; cases h
  · rw [ixN_nI hi hn] at h; cases h; exact ⟨hi, rfl⟩
def scrV (ad : xAd) (A : AS) (x : Int32) : Value := va_rf ((ixN (aS A) x).map (fun s => ad (20, s)))
def itmV (ad : xAd) (A : AS) (x : Int32) : Value := va_rf ((ixN (aI A) x).map (fun i => ad (30, i)))
def s_scriptOf : xSp := fun ad h av Q => ∃ A x, pC ad h A ∧ aOK A ∧ av = [.ref (ad (1, 0)), .int x] ∧ Q (some (scrV ad A x)) ad h
def s_itemOf : xSp := fun ad h av Q => ∃ A x, pC ad h A ∧ aOK A ∧ av = [.ref (ad (1, 0)), .int x] ∧ Q (some (itmV ad A x)) ad h
set_option maxRecDepth 100000 in
theorem c_X6_scriptOf : Ct yX6_scriptOf cX6_scriptOf 2 (some (.object "MigrateSteps$Script")) (xrm 0 0 0) s_scriptOf := by
  refine Ct.of (by decide) ?_
  intro p l e s m args below meth c0 G ad h av Q F hsp
  obtain ⟨A, x, hC, hA, rfl, hQ⟩ := hsp
  obtain ⟨hM, hT, hCo, hS, hI, hRn⟩ := hC
  have hb := hA.2.2.1.1
  refine ⟨x_ent rfl rfl, ?_⟩
  refine x_ls [(0, .ref (ad (1, 0))), (1, .int x)] rfl ?_
  refine x_iload_n (q := 1) F dX6_scriptOf_0 rfl rfl ?_
  refine x_if_lt (q := 4) F 21 dX6_scriptOf_1 (by decide) rfl (fun c1 => ?_) (fun c1 => ?_)
  · refine x_null (q := 22) F dX6_scriptOf_21 rfl ?_
    refine x_aret F dX6_scriptOf_22 (xle rfl) (xle rfl) (Or.inl ⟨_, rfl⟩) (by first | exact xref_r | exact xref_n | exact xref_f _ | assumption) ?_
    rw [show scrV ad A x = .null by unfold scrV; rw [ixN_neg c1]; rfl] at hQ
    exact hQ
  · refine x_iload_n (q := 5) F dX6_scriptOf_4 rfl rfl ?_
    refine x_aload_n (q := 6) F dX6_scriptOf_5 rfl rfl (by first | exact xref_r | exact xref_n | exact xref_f _ | assumption) ?_
    refine x_get (q := 9) F dX6_scriptOf_6 rfl fs_X6_37 hM rfl ?_
    refine x_icmp_ge (q := 12) F 21 dX6_scriptOf_9 (by decide) rfl (fun c9 => ?_) (fun c9 => ?_)
    · refine x_null (q := 22) F dX6_scriptOf_21 rfl ?_
      refine x_aret F dX6_scriptOf_22 (xle rfl) (xle rfl) (Or.inl ⟨_, rfl⟩) (by first | exact xref_r | exact xref_n | exact xref_f _ | assumption) ?_
      rw [show scrV ad A x = .null by unfold scrV; rw [ixN_ge (by omega) c9]; rfl] at hQ
      exact hQ
    · obtain ⟨j, hj, rfl⟩ := nI_of c1
      have hlt : j < aS A := by
        rcases Nat.lt_or_ge j (aS A) with q | q
        · exact q
        · exact absurd ((nI_leI (by omega) (by omega)).mpr q) c9
      refine x_aload_n (q := 13) F dX6_scriptOf_12 rfl rfl (by first | exact xref_r | exact xref_n | exact xref_f _ | assumption) ?_
      refine x_get (q := 16) F dX6_scriptOf_13 rfl fs_X6_27 hM rfl ?_
      refine x_iload_n (q := 17) F dX6_scriptOf_16 rfl rfl ?_
      refine x_aald4 (q := 18) F dX6_scriptOf_17 rfl hS.1 rfl (by omega) (by omega) ?_
      refine x_goto F 22 dX6_scriptOf_18 (by decide) ?_
      refine x_aret F dX6_scriptOf_22 (xle rfl) (xle rfl) (Or.inl ⟨_, rfl⟩) (by first | exact xref_r | exact xref_n | exact xref_f _ | assumption) ?_
      rw [show scrV ad A (nI j) = va_rf (refN ad 20 (aS A) j) by unfold scrV refN; rw [ixN_nI hlt (by omega), if_pos hlt]; rfl] at hQ
      exact hQ
set_option maxRecDepth 100000 in
theorem c_X6_itemOf : Ct yX6_itemOf cX6_itemOf 2 (some (.object "MigrateSteps$Item")) (xrm 0 0 0) s_itemOf := by
  refine Ct.of (by decide) ?_
  intro p l e s m args below meth c0 G ad h av Q F hsp
  obtain ⟨A, x, hC, hA, rfl, hQ⟩ := hsp
  obtain ⟨hM, hT, hCo, hS, hI, hRn⟩ := hC
  have hb := hA.2.2.2.1.1
  refine ⟨x_ent rfl rfl, ?_⟩
  refine x_ls [(0, .ref (ad (1, 0))), (1, .int x)] rfl ?_
  refine x_iload_n (q := 1) F dX6_itemOf_0 rfl rfl ?_
  refine x_if_lt (q := 4) F 21 dX6_itemOf_1 (by decide) rfl (fun c1 => ?_) (fun c1 => ?_)
  · refine x_null (q := 22) F dX6_itemOf_21 rfl ?_
    refine x_aret F dX6_itemOf_22 (xle rfl) (xle rfl) (Or.inl ⟨_, rfl⟩) (by first | exact xref_r | exact xref_n | exact xref_f _ | assumption) ?_
    rw [show itmV ad A x = .null by unfold itmV; rw [ixN_neg c1]; rfl] at hQ
    exact hQ
  · refine x_iload_n (q := 5) F dX6_itemOf_4 rfl rfl ?_
    refine x_aload_n (q := 6) F dX6_itemOf_5 rfl rfl (by first | exact xref_r | exact xref_n | exact xref_f _ | assumption) ?_
    refine x_get (q := 9) F dX6_itemOf_6 rfl fs_X6_41 hM rfl ?_
    refine x_icmp_ge (q := 12) F 21 dX6_itemOf_9 (by decide) rfl (fun c9 => ?_) (fun c9 => ?_)
    · refine x_null (q := 22) F dX6_itemOf_21 rfl ?_
      refine x_aret F dX6_itemOf_22 (xle rfl) (xle rfl) (Or.inl ⟨_, rfl⟩) (by first | exact xref_r | exact xref_n | exact xref_f _ | assumption) ?_
      rw [show itmV ad A x = .null by unfold itmV; rw [ixN_ge (by omega) c9]; rfl] at hQ
      exact hQ
    · obtain ⟨j, hj, rfl⟩ := nI_of c1
      have hlt : j < aI A := by
        rcases Nat.lt_or_ge j (aI A) with q | q
        · exact q
        · exact absurd ((nI_leI (by omega) (by omega)).mpr q) c9
      refine x_aload_n (q := 13) F dX6_itemOf_12 rfl rfl (by first | exact xref_r | exact xref_n | exact xref_f _ | assumption) ?_
      refine x_get (q := 16) F dX6_itemOf_13 rfl fs_X6_33 hM rfl ?_
      refine x_iload_n (q := 17) F dX6_itemOf_16 rfl rfl ?_
      refine x_aald5 (q := 18) F dX6_itemOf_17 rfl hI.1 rfl (by omega) (by omega) ?_
      refine x_goto F 22 dX6_itemOf_18 (by decide) ?_
      refine x_aret F dX6_itemOf_22 (xle rfl) (xle rfl) (Or.inl ⟨_, rfl⟩) (by first | exact xref_r | exact xref_n | exact xref_f _ | assumption) ?_
      rw [show itmV ad A (nI j) = va_rf (refN ad 30 (aI A) j) by unfold itmV refN; rw [ixN_nI hlt (by omega), if_pos hlt]; rfl] at hQ
      exact hQ
end
section
/-! ===== items and scripts by number ===== -/
def liveN (A : AS) (x : Int32) : Option Nat := (ixN (aI A) x).bind (fun i => if iGn (aItm A i) = true then none else some i)
def liveV (ad : xAd) (A : AS) (x : Int32) : Value := va_rf ((liveN A x).map (fun i => ad (30, i)))
theorem liveN_some {A : AS} (hA : aOK A) {x : Int32} {i : Nat} (h : liveN A x = some i) : i < aI A ∧ x = nI i ∧ iGn (aItm A i) = false := by
  unfold liveN at h
  cases hx : ixN (aI A) x with
  | none => rw [hx] at h; cases h
  | some j =>
    rw [hx] at h
    obtain ⟨h1, h2⟩ := ixN_some (by have := hA.2.2.2.1.1; omega) hx
    cases hg : iGn (aItm A j) with
    | true => simp [hg] at h
    | false =>
      simp [hg] at h
      subst h
      exact ⟨h1, h2, hg⟩
theorem liveN_nI {A : AS} (hA : aOK A) {i : Nat} (h : i < aI A) : liveN A (nI i) = if iGn (aItm A i) = true then none else some i := by
  unfold liveN
  rw [ixN_nI h (by have := hA.2.2.2.1.1; omega)]
  rfl
theorem optI_some (v : Nat) : optI (some v) = nI v := rfl
theorem optI_inj {o o' : Option Nat} (h : ∀ v, o = some v → v < 2 ^ 31) (h' : ∀ v, o' = some v → v < 2 ^ 31) : optI o = optI o' ↔ o = o' := by
  cases o with
  | none =>
    cases o' with
    | none => exact ⟨fun _ => rfl, fun _ => rfl⟩
    | some v => exact ⟨fun z => absurd z.symm (nI_neg1 (h' v rfl)), fun z => by cases z⟩
  | some v =>
    cases o' with
    | none => exact ⟨fun z => absurd z (nI_neg1 (h v rfl)), fun z => by cases z⟩
    | some w => exact ⟨fun z => by rw [(nI_eq (h v rfl) (h' w rfl)).mp z], fun z => by rw [z]⟩
def s_liveItem : xSp := fun ad h av Q => ∃ A x, pC ad h A ∧ aOK A ∧ av = [.ref (ad (1, 0)), .int x] ∧ Q (some (liveV ad A x)) ad h
set_option maxRecDepth 100000 in
theorem c_X6_liveItem : Ct yX6_liveItem cX6_liveItem 3 (some (.object "MigrateSteps$Item")) (xrm 1 0 0) s_liveItem := by
  refine Ct.of (by decide) ?_
  intro p l e s m args below meth c0 G ad h av Q F hsp
  obtain ⟨A, x, hC, hA, rfl, hQ⟩ := hsp
  refine ⟨x_ent rfl rfl, ?_⟩
  refine x_ls [(0, .ref (ad (1, 0))), (1, .int x)] rfl ?_
  refine x_aload_n (q := 1) F dX6_liveItem_0 rfl rfl (by first | exact xref_r | exact xref_n | exact xref_f _ | assumption) ?_
  refine x_iload_n (q := 2) F dX6_liveItem_1 rfl rfl ?_
  refine x_callV1 (q := 5) F (1, 0) c_X6_itemOf dX6_liveItem_2 rfl mv_X6_itemOf ml_X6_166 ⟨⟨xle rfl, xle rfl⟩, xle rfl, xle rfl⟩ rfl hC.1 (xle rfl) ?_
  refine ⟨A, x, hC, hA, rfl, fun _ => ?_⟩
  cases hx : ixN (aI A) x with
  | none =>
    rw [show itmV ad A x = .null by unfold itmV; rw [hx]; rfl]
    rw [show liveV ad A x = .null by unfold liveV liveN; rw [hx]; rfl] at hQ
    refine x_astore_n (q := 6) F dX6_liveItem_5 rfl (by decide) (by first | exact xref_r | exact xref_n | exact xref_f _ | assumption) ?_
    refine x_aload_n (q := 7) F dX6_liveItem_6 rfl rfl (by first | exact xref_r | exact xref_n | exact xref_f _ | assumption) ?_
    refine x_ifnull (q := 10) F 21 dX6_liveItem_7 (by decide) rfl (by first | exact xref_r | exact xref_n | exact xref_f _ | assumption) (fun c7 => ?_) (fun a7 c7 => ?_)
    · refine x_null (q := 22) F dX6_liveItem_21 rfl ?_
      refine x_aret F dX6_liveItem_22 (xle rfl) (xle rfl) (Or.inl ⟨_, rfl⟩) (by first | exact xref_r | exact xref_n | exact xref_f _ | assumption) ?_
      exact hQ
    · cases c7
  | some i =>
    obtain ⟨hi, rfl⟩ := ixN_some (by have := hA.2.2.2.1.1; omega) hx
    rw [show itmV ad A (nI i) = .ref (ad (30, i)) by unfold itmV; rw [hx]; rfl]
    have e1 := (hC.2.2.2.2.1.2.1 i hi).1
    refine x_astore_n (q := 6) F dX6_liveItem_5 rfl (by decide) (by first | exact xref_r | exact xref_n | exact xref_f _ | assumption) ?_
    refine x_aload_n (q := 7) F dX6_liveItem_6 rfl rfl (by first | exact xref_r | exact xref_n | exact xref_f _ | assumption) ?_
    refine x_ifnull (q := 10) F 21 dX6_liveItem_7 (by decide) rfl (by first | exact xref_r | exact xref_n | exact xref_f _ | assumption) (fun c7 => ?_) (fun a7 c7 => ?_)
    · cases c7
    · refine x_aload_n (q := 11) F dX6_liveItem_10 rfl rfl (by first | exact xref_r | exact xref_n | exact xref_f _ | assumption) ?_
      refine x_getN (q := 14) F dX6_liveItem_11 rfl fn_X6_181 e1 rfl ?_
      cases hg : iGn (aItm A i) with
      | true =>
        rw [show liveV ad A (nI i) = .null by unfold liveV; rw [liveN_nI hA hi, if_pos hg]; rfl] at hQ
        refine x_if_ne (q := 17) F 21 dX6_liveItem_14 (by decide) rfl (fun c14 => ?_) (fun c14 => ?_)
        · refine x_null (q := 22) F dX6_liveItem_21 rfl ?_
          refine x_aret F dX6_liveItem_22 (xle rfl) (xle rfl) (Or.inl ⟨_, rfl⟩) (by first | exact xref_r | exact xref_n | exact xref_f _ | assumption) ?_
          exact hQ
        · exact absurd c14 (by decide)
      | false =>
        rw [show liveV ad A (nI i) = .ref (ad (30, i)) by unfold liveV; rw [liveN_nI hA hi, if_neg (by rw [hg]; decide)]; rfl] at hQ
        refine x_if_ne (q := 17) F 21 dX6_liveItem_14 (by decide) rfl (fun c14 => ?_) (fun c14 => ?_)
        · exact absurd rfl c14
        · refine x_aload_n (q := 18) F dX6_liveItem_17 rfl rfl (by first | exact xref_r | exact xref_n | exact xref_f _ | assumption) ?_
          refine x_goto F 22 dX6_liveItem_18 (by decide) ?_
          refine x_aret F dX6_liveItem_22 (xle rfl) (xle rfl) (Or.inl ⟨_, rfl⟩) (by first | exact xref_r | exact xref_n | exact xref_f _ | assumption) ?_
          exact hQ
def isOrig (A : AS) (x : Int32) : Bool := match ixN (aI A) x with
  | none => false
  | some i => decide (iFr (aItm A i) = none)
def s_isOriginal : xSp := fun ad h av Q => ∃ A x, pC ad h A ∧ aOK A ∧ av = [.ref (ad (1, 0)), .int x] ∧ Q (some (.int (bI (isOrig A x)))) ad h
theorem itm_fr {A : AS} (hA : aOK A) {i : Nat} (hi : i < aI A) : ∀ v, iFr (aItm A i) = some v → v < 2 ^ 31 := fun v hv => by
  have h1 := (hA.2.2.2.1.2 i hi).2.2.1 v hv
  have h2 := hA.2.2.2.1.1
  omega
theorem itm_by {A : AS} (hA : aOK A) {i : Nat} (hi : i < aI A) : ∀ v, iBy (aItm A i) = some v → v < 2 ^ 31 := fun v hv => by
  have h1 := (hA.2.2.2.1.2 i hi).2.2.2.1 v hv
  omega
set_option maxRecDepth 100000 in
theorem c_X6_isOriginal : Ct yX6_isOriginal cX6_isOriginal 3 (some .boolean) (xrm 1 0 0) s_isOriginal := by
  refine Ct.of (by decide) ?_
  intro p l e s m args below meth c0 G ad h av Q F hsp
  obtain ⟨A, x, hC, hA, rfl, hQ⟩ := hsp
  refine ⟨x_ent rfl rfl, ?_⟩
  refine x_ls [(0, .ref (ad (1, 0))), (1, .int x)] rfl ?_
  refine x_aload_n (q := 1) F dX6_isOriginal_0 rfl rfl (by first | exact xref_r | exact xref_n | exact xref_f _ | assumption) ?_
  refine x_iload_n (q := 2) F dX6_isOriginal_1 rfl rfl ?_
  refine x_callV1 (q := 5) F (1, 0) c_X6_itemOf dX6_isOriginal_2 rfl mv_X6_itemOf ml_X6_166 ⟨⟨xle rfl, xle rfl⟩, xle rfl, xle rfl⟩ rfl hC.1 (xle rfl) ?_
  refine ⟨A, x, hC, hA, rfl, fun _ => ?_⟩
  cases hx : ixN (aI A) x with
  | none =>
    rw [show itmV ad A x = .null by unfold itmV; rw [hx]; rfl]
    rw [show isOrig A x = false by unfold isOrig; rw [hx]] at hQ
    refine x_astore_n (q := 6) F dX6_isOriginal_5 rfl (by decide) (by first | exact xref_r | exact xref_n | exact xref_f _ | assumption) ?_
    refine x_aload_n (q := 7) F dX6_isOriginal_6 rfl rfl (by first | exact xref_r | exact xref_n | exact xref_f _ | assumption) ?_
    refine x_ifnull (q := 10) F 22 dX6_isOriginal_7 (by decide) rfl (by first | exact xref_r | exact xref_n | exact xref_f _ | assumption) (fun c7 => ?_) (fun a7 c7 => ?_)
    · refine x_iconst (q := 23) (v := 0) F dX6_isOriginal_22 rfl (by decide) ?_
      refine x_zret F dX6_isOriginal_23 (xle rfl) (xle rfl) (by first | exact Or.inl rfl | exact Or.inr rfl) ?_
      exact hQ
    · cases c7
  | some i =>
    obtain ⟨hi, rfl⟩ := ixN_some (by have := hA.2.2.2.1.1; omega) hx
    rw [show itmV ad A (nI i) = .ref (ad (30, i)) by unfold itmV; rw [hx]; rfl]
    have e1 := (hC.2.2.2.2.1.2.1 i hi).1
    have hfr := itm_fr hA hi
    refine x_astore_n (q := 6) F dX6_isOriginal_5 rfl (by decide) (by first | exact xref_r | exact xref_n | exact xref_f _ | assumption) ?_
    refine x_aload_n (q := 7) F dX6_isOriginal_6 rfl rfl (by first | exact xref_r | exact xref_n | exact xref_f _ | assumption) ?_
    refine x_ifnull (q := 10) F 22 dX6_isOriginal_7 (by decide) rfl (by first | exact xref_r | exact xref_n | exact xref_f _ | assumption) (fun c7 => ?_) (fun a7 c7 => ?_)
    · cases c7
    · refine x_aload_n (q := 11) F dX6_isOriginal_10 rfl rfl (by first | exact xref_r | exact xref_n | exact xref_f _ | assumption) ?_
      refine x_getN (q := 14) F dX6_isOriginal_11 rfl fn_X6_175 e1 rfl ?_
      refine x_iconst (q := 15) (v := -1) F dX6_isOriginal_14 rfl (by decide) ?_
      refine x_icmp_ne (q := 18) F 22 dX6_isOriginal_15 (by decide) rfl (fun c15 => ?_) (fun c15 => ?_)
      · have hz : ¬ iFr (aItm A i) = none := fun z => c15 (by rw [z]; rfl)
        rw [show isOrig A (nI i) = false by unfold isOrig; rw [hx]; exact decide_eq_false hz] at hQ
        refine x_iconst (q := 23) (v := 0) F dX6_isOriginal_22 rfl (by decide) ?_
        refine x_zret F dX6_isOriginal_23 (xle rfl) (xle rfl) (by first | exact Or.inl rfl | exact Or.inr rfl) ?_
        exact hQ
      · have hz : iFr (aItm A i) = none := (optI_inj hfr (o' := none) (fun v z => by cases z)).mp c15
        rw [show isOrig A (nI i) = true by unfold isOrig; rw [hx]; exact decide_eq_true hz] at hQ
        refine x_iconst (q := 19) (v := 1) F dX6_isOriginal_18 rfl (by decide) ?_
        refine x_goto F 23 dX6_isOriginal_19 (by decide) ?_
        refine x_zret F dX6_isOriginal_23 (xle rfl) (xle rfl) (by first | exact Or.inl rfl | exact Or.inr rfl) ?_
        exact hQ
/-- is there one below n -/
def anyB (p : Nat → Bool) : Nat → Bool
  | 0 => false
  | n + 1 => anyB p n || p n
theorem anyB_t {p : Nat → Bool} {i : Nat} (h : p i = true) : ∀ n, i < n → anyB p n = true := by
  intro n
  induction n with
  | zero => intro q; omega
  | succ n ih =>
    intro q
    show (anyB p n || p n) = true
    by_cases z : i = n
    · subst z; rw [h, Bool.or_true]
    · rw [ih (by omega), Bool.true_or]
theorem anyB_f {p : Nat → Bool} : ∀ n, (∀ i, i < n → p i = false) → anyB p n = false := by
  intro n
  induction n with
  | zero => intro _; rfl
  | succ n ih =>
    intro h
    show (anyB p n || p n) = false
    rw [ih (fun i hi => h i (by omega)), h n (by omega)]
    rfl
def derAt (A : AS) (j n : Nat) : Bool := !iGn (aItm A n) && decide (iFr (aItm A n) = some j)
def derByAt (A : AS) (j sc n : Nat) : Bool := derAt A j n && decide (iBy (aItm A n) = some sc)
def hasDer (A : AS) (j : Nat) : Bool := anyB (derAt A j) (aI A)
def hasDerBy (A : AS) (j sc : Nat) : Bool := anyB (derByAt A j sc) (aI A)
def s_hasDerived : xSp := fun ad h av Q => ∃ A j, pC ad h A ∧ aOK A ∧ av = [.ref (ad (1, 0)), .int (nI j)] ∧ j < 1000 ∧ Q (some (.int (bI (hasDer A j)))) ad h
set_option maxRecDepth 100000 in
theorem c_X6_hasDerived : Ct yX6_hasDerived cX6_hasDerived 4 (some .boolean) (xrm 2 0 0) s_hasDerived := by
  refine Ct.of (by decide) ?_
  intro p l e s m args below meth c0 G ad h av Q F hsp
  obtain ⟨A, j, hC, hA, rfl, hj, hQ⟩ := hsp
  have hb := hA.2.2.2.1.1
  refine ⟨x_ent rfl rfl, ?_⟩
  have loop : ∀ n : Nat, n ≤ aI A → (∀ i, i < n → derAt A j i = false) → xX p l e (xrm 2 0 0) s m args below meth c0 G ad h 4 (xZ below G ad h Q args s (xrm 2 0 0)) 2 [(0, .ref (ad (1, 0))), (1, .int (nI j)), (2, .int (nI n))] [] ad h 0 0 := by
    intro n
    induction hd : aI A - n using Nat.strongRecOn generalizing n with
    | ind d ih =>
      intro hn hno
      refine x_iload_n (q := 3) F dX6_hasDerived_2 rfl rfl ?_
      refine x_aload_n (q := 4) F dX6_hasDerived_3 rfl rfl (by first | exact xref_r | exact xref_n | exact xref_f _ | assumption) ?_
      refine x_get (q := 7) F dX6_hasDerived_4 rfl fs_X6_41 hC.1 rfl ?_
      refine x_icmp_ge (q := 10) F 36 dX6_hasDerived_7 (by decide) rfl (fun c7 => ?_) (fun c7 => ?_)
      · have : n = aI A := by have := (nI_leI (by omega) (by omega)).mp c7; omega
        subst this
        rw [show hasDer A j = false from anyB_f _ hno] at hQ
        refine x_iconst (q := 37) (v := 0) F dX6_hasDerived_36 rfl (by decide) ?_
        refine x_zret F dX6_hasDerived_37 (xle rfl) (xle rfl) (by first | exact Or.inl rfl | exact Or.inr rfl) ?_
        exact hQ
      · have hlt : n < aI A := by
          rcases Nat.lt_or_ge n (aI A) with q | q
          · exact q
          · exact absurd ((nI_leI (by omega) (by omega)).mpr q) c7
        have next : derAt A j n = false → xX p l e (xrm 2 0 0) s m args below meth c0 G ad h 4 (xZ below G ad h Q args s (xrm 2 0 0)) 30 [(0, .ref (ad (1, 0))), (1, .int (nI j)), (2, .int (nI n))] [] ad h 0 0 := by
          intro hf
          refine x_iinc (q := 33) F dX6_hasDerived_30 rfl rfl (nI_1 n) (by decide) ?_
          refine x_goto F 2 dX6_hasDerived_33 (by decide) ?_
          refine x_ls [(0, .ref (ad (1, 0))), (1, .int (nI j)), (2, .int (nI (n + 1)))] rfl ?_
          refine ih (aI A - (n + 1)) (by omega) (n + 1) rfl (by omega) (fun i hi => ?_)
          by_cases z : i = n
          · subst z; exact hf
          · exact hno i (by omega)
        refine x_aload_n (q := 11) F dX6_hasDerived_10 rfl rfl (by first | exact xref_r | exact xref_n | exact xref_f _ | assumption) ?_
        refine x_iload_n (q := 12) F dX6_hasDerived_11 rfl rfl ?_
        refine x_callV1 (q := 15) F (1, 0) c_X6_liveItem dX6_hasDerived_12 rfl mv_X6_liveItem ml_X6_123 ⟨⟨xle rfl, xle rfl⟩, xle rfl, xle rfl⟩ rfl hC.1 (xle rfl) ?_
        refine ⟨A, nI n, hC, hA, rfl, fun _ => ?_⟩
        have e1 := (hC.2.2.2.2.1.2.1 n hlt).1
        cases hg : iGn (aItm A n) with
        | true =>
          rw [show liveV ad A (nI n) = .null by unfold liveV; rw [liveN_nI hA hlt, if_pos hg]; rfl]
          refine x_astore_n (q := 16) F dX6_hasDerived_15 rfl (by decide) (by first | exact xref_r | exact xref_n | exact xref_f _ | assumption) ?_
          refine x_aload_n (q := 17) F dX6_hasDerived_16 rfl rfl (by first | exact xref_r | exact xref_n | exact xref_f _ | assumption) ?_
          refine x_ifnull (q := 20) F 30 dX6_hasDerived_17 (by decide) rfl (by first | exact xref_r | exact xref_n | exact xref_f _ | assumption) (fun c17 => ?_) (fun a17 c17 => ?_)
          · refine x_ls [(0, .ref (ad (1, 0))), (1, .int (nI j)), (2, .int (nI n))] rfl ?_
            exact next (by unfold derAt; rw [hg]; rfl)
          · cases c17
        | false =>
          rw [show liveV ad A (nI n) = .ref (ad (30, n)) by unfold liveV; rw [liveN_nI hA hlt, if_neg (by rw [hg]; decide)]; rfl]
          refine x_astore_n (q := 16) F dX6_hasDerived_15 rfl (by decide) (by first | exact xref_r | exact xref_n | exact xref_f _ | assumption) ?_
          refine x_aload_n (q := 17) F dX6_hasDerived_16 rfl rfl (by first | exact xref_r | exact xref_n | exact xref_f _ | assumption) ?_
          refine x_ifnull (q := 20) F 30 dX6_hasDerived_17 (by decide) rfl (by first | exact xref_r | exact xref_n | exact xref_f _ | assumption) (fun c17 => ?_) (fun a17 c17 => ?_)
          · cases c17
          · refine x_aload_n (q := 21) F dX6_hasDerived_20 rfl rfl (by first | exact xref_r | exact xref_n | exact xref_f _ | assumption) ?_
            refine x_getN (q := 24) F dX6_hasDerived_21 rfl fn_X6_175 e1 rfl ?_
            refine x_iload_n (q := 25) F dX6_hasDerived_24 rfl rfl ?_
            refine x_icmp_ne (q := 28) F 30 dX6_hasDerived_25 (by decide) rfl (fun c25 => ?_) (fun c25 => ?_)
            · have hz : ¬ iFr (aItm A n) = some j := fun z => c25 (by rw [z]; rfl)
              refine x_ls [(0, .ref (ad (1, 0))), (1, .int (nI j)), (2, .int (nI n))] rfl ?_
              exact next (by unfold derAt; rw [decide_eq_false hz, Bool.and_false])
            · have hz : iFr (aItm A n) = some j := (optI_inj (itm_fr hA hlt) (o' := some j) (fun v z => by cases z; omega)).mp c25
              rw [show hasDer A j = true from anyB_t (i := n) (by unfold derAt; rw [decide_eq_true hz, hg]; rfl) _ hlt] at hQ
              refine x_iconst (q := 29) (v := 1) F dX6_hasDerived_28 rfl (by decide) ?_
              refine x_zret F dX6_hasDerived_29 (xle rfl) (xle rfl) (by first | exact Or.inl rfl | exact Or.inr rfl) ?_
              exact hQ
  refine x_ls [(0, .ref (ad (1, 0))), (1, .int (nI j))] rfl ?_
  refine x_iconst (q := 1) (v := 0) F dX6_hasDerived_0 rfl (by decide) ?_
  refine x_istore_n (q := 2) F dX6_hasDerived_1 rfl (by decide) ?_
  refine x_ls [(0, .ref (ad (1, 0))), (1, .int (nI j)), (2, .int (nI 0))] rfl ?_
  exact loop 0 (Nat.zero_le _) (fun i hi => absurd hi (Nat.not_lt_zero i))
def s_hasDerivedBy : xSp := fun ad h av Q => ∃ A j sc, pC ad h A ∧ aOK A ∧ av = [.ref (ad (1, 0)), .int (nI j), .int (nI sc)] ∧ j < 1000 ∧ sc < 1000 ∧ Q (some (.int (bI (hasDerBy A j sc)))) ad h
set_option maxRecDepth 100000 in
theorem c_X6_hasDerivedBy : Ct yX6_hasDerivedBy cX6_hasDerivedBy 5 (some .boolean) (xrm 2 0 0) s_hasDerivedBy := by
  refine Ct.of (by decide) ?_
  intro p l e s m args below meth c0 G ad h av Q F hsp
  obtain ⟨A, j, sc, hC, hA, rfl, hj, hsc, hQ⟩ := hsp
  have hb := hA.2.2.2.1.1
  refine ⟨x_ent rfl rfl, ?_⟩
  have loop : ∀ n : Nat, n ≤ aI A → (∀ i, i < n → derByAt A j sc i = false) → xX p l e (xrm 2 0 0) s m args below meth c0 G ad h 5 (xZ below G ad h Q args s (xrm 2 0 0)) 2 [(0, .ref (ad (1, 0))), (1, .int (nI j)), (2, .int (nI sc)), (3, .int (nI n))] [] ad h 0 0 := by
    intro n
    induction hd : aI A - n using Nat.strongRecOn generalizing n with
    | ind d ih =>
      intro hn hno
      refine x_iload_n (q := 3) F dX6_hasDerivedBy_2 rfl rfl ?_
      refine x_aload_n (q := 4) F dX6_hasDerivedBy_3 rfl rfl (by first | exact xref_r | exact xref_n | exact xref_f _ | assumption) ?_
      refine x_get (q := 7) F dX6_hasDerivedBy_4 rfl fs_X6_41 hC.1 rfl ?_
      refine x_icmp_ge (q := 10) F 48 dX6_hasDerivedBy_7 (by decide) rfl (fun c7 => ?_) (fun c7 => ?_)
      · have : n = aI A := by have := (nI_leI (by omega) (by omega)).mp c7; omega
        subst this
        rw [show hasDerBy A j sc = false from anyB_f _ hno] at hQ
        refine x_iconst (q := 49) (v := 0) F dX6_hasDerivedBy_48 rfl (by decide) ?_
        refine x_zret F dX6_hasDerivedBy_49 (xle rfl) (xle rfl) (by first | exact Or.inl rfl | exact Or.inr rfl) ?_
        exact hQ
      · have hlt : n < aI A := by
          rcases Nat.lt_or_ge n (aI A) with q | q
          · exact q
          · exact absurd ((nI_leI (by omega) (by omega)).mpr q) c7
        have next : derByAt A j sc n = false → xX p l e (xrm 2 0 0) s m args below meth c0 G ad h 5 (xZ below G ad h Q args s (xrm 2 0 0)) 42 [(0, .ref (ad (1, 0))), (1, .int (nI j)), (2, .int (nI sc)), (3, .int (nI n))] [] ad h 0 0 := by
          intro hf
          refine x_iinc (q := 45) F dX6_hasDerivedBy_42 rfl rfl (nI_1 n) (by decide) ?_
          refine x_goto F 2 dX6_hasDerivedBy_45 (by decide) ?_
          refine x_ls [(0, .ref (ad (1, 0))), (1, .int (nI j)), (2, .int (nI sc)), (3, .int (nI (n + 1)))] rfl ?_
          refine ih (aI A - (n + 1)) (by omega) (n + 1) rfl (by omega) (fun i hi => ?_)
          by_cases z : i = n
          · subst z; exact hf
          · exact hno i (by omega)
        refine x_aload_n (q := 11) F dX6_hasDerivedBy_10 rfl rfl (by first | exact xref_r | exact xref_n | exact xref_f _ | assumption) ?_
        refine x_iload_n (q := 12) F dX6_hasDerivedBy_11 rfl rfl ?_
        refine x_callV1 (q := 15) F (1, 0) c_X6_liveItem dX6_hasDerivedBy_12 rfl mv_X6_liveItem ml_X6_123 ⟨⟨xle rfl, xle rfl⟩, xle rfl, xle rfl⟩ rfl hC.1 (xle rfl) ?_
        refine ⟨A, nI n, hC, hA, rfl, fun _ => ?_⟩
        have e1 := (hC.2.2.2.2.1.2.1 n hlt).1
        cases hg : iGn (aItm A n) with
        | true =>
          rw [show liveV ad A (nI n) = .null by unfold liveV; rw [liveN_nI hA hlt, if_pos hg]; rfl]
          refine x_astore (q := 17) F dX6_hasDerivedBy_15 rfl (by decide) (by first | exact xref_r | exact xref_n | exact xref_f _ | assumption) ?_
          refine x_aload (q := 19) F dX6_hasDerivedBy_17 rfl rfl (by first | exact xref_r | exact xref_n | exact xref_f _ | assumption) ?_
          refine x_ifnull (q := 22) F 42 dX6_hasDerivedBy_19 (by decide) rfl (by first | exact xref_r | exact xref_n | exact xref_f _ | assumption) (fun c17 => ?_) (fun a19 c17 => ?_)
          · refine x_ls [(0, .ref (ad (1, 0))), (1, .int (nI j)), (2, .int (nI sc)), (3, .int (nI n))] rfl ?_
            exact next (by unfold derByAt derAt; rw [hg]; rfl)
          · cases c17
        | false =>
          rw [show liveV ad A (nI n) = .ref (ad (30, n)) by unfold liveV; rw [liveN_nI hA hlt, if_neg (by rw [hg]; decide)]; rfl]
          refine x_astore (q := 17) F dX6_hasDerivedBy_15 rfl (by decide) (by first | exact xref_r | exact xref_n | exact xref_f _ | assumption) ?_
          refine x_aload (q := 19) F dX6_hasDerivedBy_17 rfl rfl (by first | exact xref_r | exact xref_n | exact xref_f _ | assumption) ?_
          refine x_ifnull (q := 22) F 42 dX6_hasDerivedBy_19 (by decide) rfl (by first | exact xref_r | exact xref_n | exact xref_f _ | assumption) (fun c17 => ?_) (fun a19 c17 => ?_)
          · cases c17
          · refine x_aload (q := 24) F dX6_hasDerivedBy_22 rfl rfl (by first | exact xref_r | exact xref_n | exact xref_f _ | assumption) ?_
            refine x_getN (q := 27) F dX6_hasDerivedBy_24 rfl fn_X6_175 e1 rfl ?_
            refine x_iload_n (q := 28) F dX6_hasDerivedBy_27 rfl rfl ?_
            refine x_icmp_ne (q := 31) F 42 dX6_hasDerivedBy_28 (by decide) rfl (fun c25 => ?_) (fun c25 => ?_)
            · have hz : ¬ iFr (aItm A n) = some j := fun z => c25 (by rw [z]; rfl)
              refine x_ls [(0, .ref (ad (1, 0))), (1, .int (nI j)), (2, .int (nI sc)), (3, .int (nI n))] rfl ?_
              exact next (by unfold derByAt derAt; rw [decide_eq_false hz, Bool.and_false, Bool.false_and])
            · have hz : iFr (aItm A n) = some j := (optI_inj (itm_fr hA hlt) (o' := some j) (fun v z => by cases z; omega)).mp c25
              refine x_aload (q := 33) F dX6_hasDerivedBy_31 rfl rfl (by first | exact xref_r | exact xref_n | exact xref_f _ | assumption) ?_
              refine x_getN (q := 36) F dX6_hasDerivedBy_33 rfl fn_X6_178 e1 rfl ?_
              refine x_iload_n (q := 37) F dX6_hasDerivedBy_36 rfl rfl ?_
              refine x_icmp_ne (q := 40) F 42 dX6_hasDerivedBy_37 (by decide) rfl (fun c37 => ?_) (fun c37 => ?_)
              · have hy : ¬ iBy (aItm A n) = some sc := fun z => c37 (by rw [z]; rfl)
                refine x_ls [(0, .ref (ad (1, 0))), (1, .int (nI j)), (2, .int (nI sc)), (3, .int (nI n))] rfl ?_
                exact next (by unfold derByAt; rw [decide_eq_false hy, Bool.and_false])
              · have hy : iBy (aItm A n) = some sc := (optI_inj (itm_by hA hlt) (o' := some sc) (fun v z => by cases z; omega)).mp c37
                rw [show hasDerBy A j sc = true from anyB_t (i := n) (by unfold derByAt derAt; rw [decide_eq_true hz, decide_eq_true hy, hg]; rfl) _ hlt] at hQ
                refine x_iconst (q := 41) (v := 1) F dX6_hasDerivedBy_40 rfl (by decide) ?_
                refine x_zret F dX6_hasDerivedBy_41 (xle rfl) (xle rfl) (by first | exact Or.inl rfl | exact Or.inr rfl) ?_
                exact hQ
  refine x_ls [(0, .ref (ad (1, 0))), (1, .int (nI j)), (2, .int (nI sc))] rfl ?_
  refine x_iconst (q := 1) (v := 0) F dX6_hasDerivedBy_0 rfl (by decide) ?_
  refine x_istore_n (q := 2) F dX6_hasDerivedBy_1 rfl (by decide) ?_
  refine x_ls [(0, .ref (ad (1, 0))), (1, .int (nI j)), (2, .int (nI sc)), (3, .int (nI 0))] rfl ?_
  exact loop 0 (Nat.zero_le _) (fun i hi => absurd hi (Nat.not_lt_zero i))
def s_against : xSp := fun ad h av Q => ∃ x : Int32, av = [.int x] ∧ Q (some (.int (if x < 0 then x else 0))) ad h
set_option maxRecDepth 100000 in
theorem c_X6_against : Ct yX6_against cX6_against 1 (some .int) (xrm 0 0 0) s_against := by
  refine Ct.of (by decide) ?_
  intro p l e s m args below meth c0 G ad h av Q F hsp
  obtain ⟨x, rfl, hQ⟩ := hsp
  refine ⟨x_ent rfl rfl, ?_⟩
  refine x_ls [(0, .int x)] rfl ?_
  refine x_iload_n (q := 1) F dX6_against_0 rfl rfl ?_
  refine x_if_lt (q := 4) F 8 dX6_against_1 (by decide) rfl (fun c1 => ?_) (fun c1 => ?_)
  · rw [if_pos c1] at hQ
    refine x_iload_n (q := 9) F dX6_against_8 rfl rfl ?_
    refine x_iret F dX6_against_9 (xle rfl) (xle rfl) ?_
    exact hQ
  · rw [if_neg c1] at hQ
    refine x_iconst (q := 5) (v := 0) F dX6_against_4 rfl (by decide) ?_
    refine x_goto F 9 dX6_against_5 (by decide) ?_
    refine x_iret F dX6_against_9 (xle rfl) (xle rfl) ?_
    exact hQ
def nextN (A : AS) (x : Int32) : Option Nat := (ixN (aS A) x).bind (fun s => sNx (aScr A s))
def s_nextOf : xSp := fun ad h av Q => ∃ A x, pC ad h A ∧ aOK A ∧ av = [.ref (ad (1, 0)), .int x] ∧ Q (some (.int (optI (nextN A x)))) ad h
set_option maxRecDepth 100000 in
theorem c_X6_nextOf : Ct yX6_nextOf cX6_nextOf 3 (some .int) (xrm 1 0 0) s_nextOf := by
  refine Ct.of (by decide) ?_
  intro p l e s m args below meth c0 G ad h av Q F hsp
  obtain ⟨A, x, hC, hA, rfl, hQ⟩ := hsp
  refine ⟨x_ent rfl rfl, ?_⟩
  refine x_ls [(0, .ref (ad (1, 0))), (1, .int x)] rfl ?_
  refine x_aload_n (q := 1) F dX6_nextOf_0 rfl rfl (by first | exact xref_r | exact xref_n | exact xref_f _ | assumption) ?_
  refine x_iload_n (q := 2) F dX6_nextOf_1 rfl rfl ?_
  refine x_callV1 (q := 5) F (1, 0) c_X6_scriptOf dX6_nextOf_2 rfl mv_X6_scriptOf ml_X6_108 ⟨⟨xle rfl, xle rfl⟩, xle rfl, xle rfl⟩ rfl hC.1 (xle rfl) ?_
  refine ⟨A, x, hC, hA, rfl, fun _ => ?_⟩
  cases hx : ixN (aS A) x with
  | none =>
    rw [show scrV ad A x = .null by unfold scrV; rw [hx]; rfl]
    rw [show nextN A x = none by unfold nextN; rw [hx]; rfl] at hQ
    refine x_astore_n (q := 6) F dX6_nextOf_5 rfl (by decide) (by first | exact xref_r | exact xref_n | exact xref_f _ | assumption) ?_
    refine x_aload_n (q := 7) F dX6_nextOf_6 rfl rfl (by first | exact xref_r | exact xref_n | exact xref_f _ | assumption) ?_
    refine x_ifnonnull (q := 10) F 14 dX6_nextOf_7 (by decide) rfl (by first | exact xref_r | exact xref_n | exact xref_f _ | assumption) (fun a7 c7 => ?_) (fun c7 => ?_)
    · cases c7
    · refine x_iconst (q := 11) (v := -1) F dX6_nextOf_10 rfl (by decide) ?_
      refine x_goto F 18 dX6_nextOf_11 (by decide) ?_
      refine x_iret F dX6_nextOf_18 (xle rfl) (xle rfl) ?_
      exact hQ
  | some i =>
    obtain ⟨hi, rfl⟩ := ixN_some (by have := hA.2.2.1.1; omega) hx
    rw [show scrV ad A (nI i) = .ref (ad (20, i)) by unfold scrV; rw [hx]; rfl]
    rw [show nextN A (nI i) = sNx (aScr A i) by unfold nextN; rw [hx]; rfl] at hQ
    have e1 := (hC.2.2.2.1.2.1 i hi).1
    refine x_astore_n (q := 6) F dX6_nextOf_5 rfl (by decide) (by first | exact xref_r | exact xref_n | exact xref_f _ | assumption) ?_
    refine x_aload_n (q := 7) F dX6_nextOf_6 rfl rfl (by first | exact xref_r | exact xref_n | exact xref_f _ | assumption) ?_
    refine x_ifnonnull (q := 10) F 14 dX6_nextOf_7 (by decide) rfl (by first | exact xref_r | exact xref_n | exact xref_f _ | assumption) (fun a7 c7 => ?_) (fun c7 => ?_)
    · refine x_aload_n (q := 15) F dX6_nextOf_14 rfl rfl (by first | exact xref_r | exact xref_n | exact xref_f _ | assumption) ?_
      refine x_getN (q := 18) F dX6_nextOf_15 rfl fn_X6_138 e1 rfl ?_
      refine x_iret F dX6_nextOf_18 (xle rfl) (xle rfl) ?_
      exact hQ
    · cases c7
theorem nextN_nI {A : AS} (hA : aOK A) {i : Nat} (h : i < aS A) : nextN A (nI i) = sNx (aScr A i) := by
  unfold nextN
  rw [ixN_nI h (by have := hA.2.2.1.1; omega)]
  rfl
/-- does one come from b on to w within f scripts -/
def comesF (A : AS) (w : Nat) : Nat → Option Nat → Bool
  | 0, _ => false
  | _ + 1, none => false
  | f + 1, some b => if b = w then true else comesF A w f (sNx (aScr A b))
def s_comesTo : xSp := fun ad h av Q => ∃ A b w, pC ad h A ∧ aOK A ∧ av = [.ref (ad (1, 0)), .int (optI b), .int (nI w)] ∧ (∀ v, b = some v → v < aS A) ∧ w < 1000 ∧ Q (some (.int (bI (comesF A w 10 b)))) ad h
set_option maxRecDepth 100000 in
theorem c_X6_comesTo : Ct yX6_comesTo cX6_comesTo 5 (some .boolean) (xrm 2 0 0) s_comesTo := by
  refine Ct.of (by decide) ?_
  intro p l e s m args below meth c0 G ad h av Q F hsp
  obtain ⟨A, b0, w, hC, hA, rfl, hb0, hw, hQ⟩ := hsp
  have hb := hA.2.2.1.1
  refine ⟨x_ent rfl rfl, ?_⟩
  have loop : ∀ (f n : Nat) (b : Option Nat), n + f = 10 → (∀ v, b = some v → v < aS A) → comesF A w f b = comesF A w 10 b0 → xX p l e (xrm 2 0 0) s m args below meth c0 G ad h 5 (xZ below G ad h Q args s (xrm 2 0 0)) 5 [(0, .ref (ad (1, 0))), (2, .int (nI w)), (3, .int (optI b)), (4, .int (nI n))] [] ad h 0 0 := by
    intro f
    induction f with
    | zero =>
      intro n b hn hbb he
      rw [← he] at hQ
      refine x_iload (q := 7) F dX6_comesTo_5 rfl rfl ?_
      refine x_bipush (q := 9) (v := 10) F dX6_comesTo_7 rfl (by decide) ?_
      refine x_icmp_ge (q := 12) F 36 dX6_comesTo_9 (by decide) rfl (fun c9 => ?_) (fun c9 => ?_)
      · refine x_iconst (q := 37) (v := 0) F dX6_comesTo_36 rfl (by decide) ?_
        refine x_zret F dX6_comesTo_37 (xle rfl) (xle rfl) (by first | exact Or.inl rfl | exact Or.inr rfl) ?_
        exact hQ
      · exact absurd ((nI_leI (a := 10) (b := n) (by omega) (by omega)).mpr (by omega)) c9
    | succ f ih =>
      intro n b hn hbb he
      refine x_iload (q := 7) F dX6_comesTo_5 rfl rfl ?_
      refine x_bipush (q := 9) (v := 10) F dX6_comesTo_7 rfl (by decide) ?_
      refine x_icmp_ge (q := 12) F 36 dX6_comesTo_9 (by decide) rfl (fun c9 => ?_) (fun c9 => ?_)
      · exact absurd ((nI_leI (a := 10) (b := n) (by omega) (by omega)).mp c9) (by omega)
      · refine x_iload_n (q := 13) F dX6_comesTo_12 rfl rfl ?_
        refine x_iconst (q := 14) (v := -1) F dX6_comesTo_13 rfl (by decide) ?_
        cases b with
        | none =>
          rw [← he] at hQ
          refine x_icmp_eq (q := 17) F 36 dX6_comesTo_14 (by decide) rfl (fun c14 => ?_) (fun c14 => ?_)
          · refine x_iconst (q := 37) (v := 0) F dX6_comesTo_36 rfl (by decide) ?_
            refine x_zret F dX6_comesTo_37 (xle rfl) (xle rfl) (by first | exact Or.inl rfl | exact Or.inr rfl) ?_
            exact hQ
          · exact absurd rfl c14
        | some v =>
          have hv := hbb v rfl
          refine x_icmp_eq (q := 17) F 36 dX6_comesTo_14 (by decide) rfl (fun c14 => ?_) (fun c14 => ?_)
          · exact absurd c14 (nI_neg1 (by omega))
          · refine x_iload_n (q := 18) F dX6_comesTo_17 rfl rfl ?_
            refine x_iload_n (q := 19) F dX6_comesTo_18 rfl rfl ?_
            refine x_icmp_ne (q := 22) F 24 dX6_comesTo_19 (by decide) rfl (fun c19 => ?_) (fun c19 => ?_)
            · have hz : ¬ v = w := fun z => c19 (by rw [z]; rfl)
              rw [comesF, if_neg hz] at he
              refine x_aload_n (q := 25) F dX6_comesTo_24 rfl rfl (by first | exact xref_r | exact xref_n | exact xref_f _ | assumption) ?_
              refine x_iload_n (q := 26) F dX6_comesTo_25 rfl rfl ?_
              refine x_callV1 (q := 29) F (1, 0) c_X6_nextOf dX6_comesTo_26 rfl mv_X6_nextOf ml_X6_141 ⟨⟨xle rfl, xle rfl⟩, xle rfl, xle rfl⟩ rfl hC.1 (xle rfl) ?_
              refine ⟨A, nI v, hC, hA, rfl, fun _ => ?_⟩
              rw [nextN_nI hA hv]
              refine x_istore_n (q := 30) F dX6_comesTo_29 rfl (by decide) ?_
              refine x_iinc (q := 33) F dX6_comesTo_30 rfl rfl (nI_1 n) (by decide) ?_
              refine x_goto F 5 dX6_comesTo_33 (by decide) ?_
              refine x_ls [(0, .ref (ad (1, 0))), (2, .int (nI w)), (3, .int (optI (sNx (aScr A v)))), (4, .int (nI (n + 1)))] rfl ?_
              exact ih (n + 1) _ (by omega) (fun u hu => (hA.2.2.1.2 v hv).2.2.2.2.2.2 u hu) he
            · have hz : v = w := (nI_eq (by omega) (by omega)).mp c19
              rw [← he, comesF, if_pos hz] at hQ
              refine x_iconst (q := 23) (v := 1) F dX6_comesTo_22 rfl (by decide) ?_
              refine x_zret F dX6_comesTo_23 (xle rfl) (xle rfl) (by first | exact Or.inl rfl | exact Or.inr rfl) ?_
              exact hQ
  refine x_ls [(0, .ref (ad (1, 0))), (1, .int (optI b0)), (2, .int (nI w))] rfl ?_
  refine x_iload_n (q := 1) F dX6_comesTo_0 rfl rfl ?_
  refine x_istore_n (q := 2) F dX6_comesTo_1 rfl (by decide) ?_
  refine x_iconst (q := 3) (v := 0) F dX6_comesTo_2 rfl (by decide) ?_
  refine x_istore (q := 5) F dX6_comesTo_3 rfl (by decide) ?_
  refine x_ls [(0, .ref (ad (1, 0))), (2, .int (nI w)), (3, .int (optI b0)), (4, .int (nI 0))] rfl ?_
  exact loop 10 0 b0 rfl hb0 rfl
end
section
/-! ===== the class's state under changes of its cells ===== -/
theorem pScr.congr {ad : xAd} {h h' : xH} {s : Nat} {d : ScrD} (H : pScr ad h s d) (e : ∀ k, 20 ≤ k → k ≤ 28 → h' (k, s) = h (k, s)) : pScr ad h' s d := by
  obtain ⟨a1, a2, a3, a4, a5, a6, a7, a8, a9⟩ := H
  exact ⟨(e 20 (by omega) (by omega)).trans a1, (e 21 (by omega) (by omega)).trans a2, (e 22 (by omega) (by omega)).trans a3, (e 23 (by omega) (by omega)).trans a4, (e 24 (by omega) (by omega)).trans a5, (e 25 (by omega) (by omega)).trans a6, (e 26 (by omega) (by omega)).trans a7, (e 27 (by omega) (by omega)).trans a8, (e 28 (by omega) (by omega)).trans a9⟩
theorem pItm.congr {ad : xAd} {h h' : xH} {i : Nat} {d : ItmD} (H : pItm ad h i d) (e : ∀ k, 30 ≤ k → k ≤ 32 → h' (k, i) = h (k, i)) : pItm ad h' i d := by
  obtain ⟨a1, a2, a3⟩ := H
  exact ⟨(e 30 (by omega) (by omega)).trans a1, (e 31 (by omega) (by omega)).trans a2, (e 32 (by omega) (by omega)).trans a3⟩
theorem pTx.congr {ad : xAd} {h h' : xH} {A : AS} (H : pTx ad h A) (e : ∀ k, 2 ≤ k → k ≤ 5 → h' (k, 0) = h (k, 0)) : pTx ad h' A := by
  obtain ⟨lt, nu, k, a1, a2, a3, a4⟩ := H
  exact ⟨lt, nu, k, (e 2 (by omega) (by omega)).trans a1, (e 3 (by omega) (by omega)).trans a2, (e 4 (by omega) (by omega)).trans a3, (e 5 (by omega) (by omega)).trans a4⟩
theorem pRn.congr {ad : xAd} {h h' : xH} {A : AS} (H : pRn ad h A) (e : ∀ k, 10 ≤ k → k ≤ 13 → h' (k, 0) = h (k, 0)) : pRn ad h' A := by
  obtain ⟨mem, a, i, p, fl, a1, a2, a3, a4⟩ := H
  exact ⟨mem, a, i, p, fl, (e 11 (by omega) (by omega)).trans a1, (e 13 (by omega) (by omega)).trans a2, (e 12 (by omega) (by omega)).trans a3, (e 10 (by omega) (by omega)).trans a4⟩
/-- nothing but tags of 40 and more has changed -/
theorem pC.congr {ad : xAd} {h h' : xH} {A : AS} (H : pC ad h A) (e : ∀ t : Tg, t.1 < 40 → h' t = h t) : pC ad h' A := by
  obtain ⟨hM, hT, ⟨c1, c2⟩, ⟨s1, s2, s3⟩, ⟨i1, i2, i3⟩, hR⟩ := H
  exact ⟨(e _ (by decide)).trans hM, hT.congr (fun k _ _ => e _ (by show k < 40; omega)), ⟨(e _ (by decide)).trans c1, (e _ (by decide)).trans c2⟩, ⟨(e _ (by decide)).trans s1, fun s hs => (s2 s hs).congr (fun k _ _ => e _ (by show k < 40; omega)), fun k s q1 q2 q3 => (e _ (by show k < 40; omega)).trans (s3 k s q1 q2 q3)⟩, ⟨(e _ (by decide)).trans i1, fun i hi => (i2 i hi).congr (fun k _ _ => e _ (by show k < 40; omega)), fun k i q1 q2 q3 => (e _ (by show k < 40; omega)).trans (i3 k i q1 q2 q3)⟩, hR.congr (fun k _ _ => e _ (by show k < 40; omega))⟩
def fr40 (h h' : xH) : Prop := ∀ t : Tg, 40 ≤ t.1 → h' t = h t
theorem fr40.rf {h : xH} : fr40 h h := fun _ _ => rfl
theorem fr40.tr {h h1 h2 : xH} (a : fr40 h h1) (b : fr40 h1 h2) : fr40 h h2 := fun t q => (b t q).trans (a t q)
theorem fr40.up {h : xH} {k i : Nat} {e : xE} (q : k < 40) : fr40 h (xup h (k, i) e) := fun t ht => xup_ne _ _ (fun z => by rw [z] at ht; have : 40 ≤ k := ht; omega)
theorem up_ne {h : xH} {k i : Nat} {e : xE} {t : Tg} (q : t.1 ≠ k) : xup h (k, i) e t = h t := xup_ne _ _ (fun z => q (congrArg Prod.fst z))
theorem pC.item {ad : xAd} {h : xH} {A : AS} (H : pC ad h A) {i : Nat} (hi : i < aI A) {d : ItmD} (hd : d.1 = (aItm A i).1) : pC ad (xup h (30, i) (cItem (ad (31, i)) (optI (iFr d)) (optI (iBy d)) (nI (iRt d)) (optI (iBt d)) (iGn d))) (setIt A (aI A, updI (aItm A) i d)) := by
  obtain ⟨hM, hT, ⟨c1, c2⟩, ⟨s1, s2, s3⟩, ⟨i1, i2, i3⟩, hR⟩ := H
  have o : ∀ t : Tg, t.1 ≠ 30 → xup h (30, i) (cItem (ad (31, i)) (optI (iFr d)) (optI (iBy d)) (nI (iRt d)) (optI (iBt d)) (iGn d)) t = h t := fun t q => up_ne q
  refine ⟨(o _ (by decide)).trans hM, hT.congr (fun k _ _ => o _ (by show k ≠ 30; omega)), ⟨(o _ (by decide)).trans c1, (o _ (by decide)).trans c2⟩, ⟨(o _ (by decide)).trans s1, fun s hs => (s2 s hs).congr (fun k _ _ => o _ (by show k ≠ 30; omega)), fun k s q1 q2 q3 => (o _ (by show k ≠ 30; omega)).trans (s3 k s q1 q2 q3)⟩, ⟨(o _ (by decide)).trans i1, fun j hj => ?_, fun k j q1 q2 q3 => ?_⟩, hR.congr (fun k _ _ => o _ (by show k ≠ 30; omega))⟩
  · have hj : j < aI A := hj
    by_cases z : j = i
    · subst z
      show pItm ad _ j (updI (aItm A) j d j)
      rw [show updI (aItm A) j d j = d from if_pos rfl]
      obtain ⟨a1, a2, a3⟩ := i2 j hi
      refine ⟨xup_self _ _ _, (o _ (by show 31 ≠ 30; omega)).trans ?_, (o _ (by show 32 ≠ 30; omega)).trans ?_⟩
      · rw [a2]; unfold iN; rw [hd]
      · rw [a3]; unfold iN iB; rw [hd]
    · show pItm ad _ j (updI (aItm A) i d j)
      rw [show updI (aItm A) i d j = aItm A j from if_neg z]
      refine (i2 j hj).congr (fun k q1 q2 => ?_)
      exact xup_ne _ _ (fun w => z (congrArg Prod.snd w))
  · have q3 : aI A ≤ j := q3
    rw [xup_ne _ _ (fun w => by have := congrArg Prod.snd w; have h2 : j = i := this; omega)]
    exact i3 k j q1 q2 q3
def s_dismiss : xSp := fun ad h av Q => ∃ A i, pC ad h A ∧ aOK A ∧ i < aI A ∧ av = [.ref (ad (1, 0)), .int (nI i)] ∧ (iGn (aItm A i) = true → Q (some (.int 0)) ad h) ∧
  (iGn (aItm A i) = false → ∀ h', pC ad h' (setIt A (aI A, updI (aItm A) i (setGn (aItm A i) true))) → fr40 h h' → Q (some (.int 1)) ad h')
set_option maxRecDepth 100000 in
theorem c_X6_dismiss : Ct yX6_dismiss cX6_dismiss 3 (some .int) (xrm 2 0 0) s_dismiss := by
  refine Ct.of (by decide) ?_
  intro p l e s m args below meth c0 G ad h av Q F hsp
  obtain ⟨A, i, hC, hA, hi, rfl, hQ0, hQ1⟩ := hsp
  refine ⟨x_ent rfl rfl, ?_⟩
  refine x_ls [(0, .ref (ad (1, 0))), (1, .int (nI i))] rfl ?_
  refine x_aload_n (q := 1) F dX6_dismiss_0 rfl rfl (by first | exact xref_r | exact xref_n | exact xref_f _ | assumption) ?_
  refine x_iload_n (q := 2) F dX6_dismiss_1 rfl rfl ?_
  refine x_callV1 (q := 5) F (1, 0) c_X6_liveItem dX6_dismiss_2 rfl mv_X6_liveItem ml_X6_123 ⟨⟨xle rfl, xle rfl⟩, xle rfl, xle rfl⟩ rfl hC.1 (xle rfl) ?_
  refine ⟨A, nI i, hC, hA, rfl, fun _ => ?_⟩
  have e1 := (hC.2.2.2.2.1.2.1 i hi).1
  cases hg : iGn (aItm A i) with
  | true =>
    rw [show liveV ad A (nI i) = .null by unfold liveV; rw [liveN_nI hA hi, if_pos hg]; rfl]
    refine x_astore_n (q := 6) F dX6_dismiss_5 rfl (by decide) (by first | exact xref_r | exact xref_n | exact xref_f _ | assumption) ?_
    refine x_aload_n (q := 7) F dX6_dismiss_6 rfl rfl (by first | exact xref_r | exact xref_n | exact xref_f _ | assumption) ?_
    refine x_ifnonnull (q := 10) F 12 dX6_dismiss_7 (by decide) rfl (by first | exact xref_r | exact xref_n | exact xref_f _ | assumption) (fun a7 c7 => ?_) (fun c7 => ?_)
    · cases c7
    · refine x_iconst (q := 11) (v := 0) F dX6_dismiss_10 rfl (by decide) ?_
      refine x_iret F dX6_dismiss_11 (xle rfl) (xle rfl) ?_
      exact hQ0 hg
  | false =>
    rw [show liveV ad A (nI i) = .ref (ad (30, i)) by unfold liveV; rw [liveN_nI hA hi, if_neg (by rw [hg]; decide)]; rfl]
    refine x_astore_n (q := 6) F dX6_dismiss_5 rfl (by decide) (by first | exact xref_r | exact xref_n | exact xref_f _ | assumption) ?_
    refine x_aload_n (q := 7) F dX6_dismiss_6 rfl rfl (by first | exact xref_r | exact xref_n | exact xref_f _ | assumption) ?_
    refine x_ifnonnull (q := 10) F 12 dX6_dismiss_7 (by decide) rfl (by first | exact xref_r | exact xref_n | exact xref_f _ | assumption) (fun a7 c7 => ?_) (fun c7 => ?_)
    · refine x_aload_n (q := 13) F dX6_dismiss_12 rfl rfl (by first | exact xref_r | exact xref_n | exact xref_f _ | assumption) ?_
      refine x_iconst (q := 14) (v := 1) F dX6_dismiss_13 rfl (by decide) ?_
      refine x_putN (q := 17) F dX6_dismiss_14 rfl fn_X6_181 e1 (xle rfl) rfl rfl ?_
      refine x_iconst (q := 18) (v := 1) F dX6_dismiss_17 rfl (by decide) ?_
      refine x_iret F dX6_dismiss_18 (xle rfl) (xle rfl) ?_
      exact hQ1 hg _ (hC.item hi (d := setGn (aItm A i) true) rfl) (fr40.up (by decide))
    · cases c7
def s_joinBatch : xSp := fun ad h av Q => ∃ A x, pC ad h A ∧ aOK A ∧ av = [.ref (ad (1, 0)), .int x] ∧ (ixN (aI A) x = none → Q (some (.int 0)) ad h) ∧
  (∀ i, ixN (aI A) x = some i → ∀ h', pC ad h' (setIt A (aI A, updI (aItm A) i (setBt (aItm A i) (some (aOb A))))) → fr40 h h' → Q (some (.int 1)) ad h')
set_option maxRecDepth 100000 in
theorem c_X6_joinBatch : Ct yX6_joinBatch cX6_joinBatch 3 (some .boolean) (xrm 1 0 0) s_joinBatch := by
  refine Ct.of (by decide) ?_
  intro p l e s m args below meth c0 G ad h av Q F hsp
  obtain ⟨A, x, hC, hA, rfl, hQ0, hQ1⟩ := hsp
  refine ⟨x_ent rfl rfl, ?_⟩
  refine x_ls [(0, .ref (ad (1, 0))), (1, .int x)] rfl ?_
  refine x_aload_n (q := 1) F dX6_joinBatch_0 rfl rfl (by first | exact xref_r | exact xref_n | exact xref_f _ | assumption) ?_
  refine x_iload_n (q := 2) F dX6_joinBatch_1 rfl rfl ?_
  refine x_callV1 (q := 5) F (1, 0) c_X6_itemOf dX6_joinBatch_2 rfl mv_X6_itemOf ml_X6_166 ⟨⟨xle rfl, xle rfl⟩, xle rfl, xle rfl⟩ rfl hC.1 (xle rfl) ?_
  refine ⟨A, x, hC, hA, rfl, fun _ => ?_⟩
  cases hx : ixN (aI A) x with
  | none =>
    rw [show itmV ad A x = .null by unfold itmV; rw [hx]; rfl]
    refine x_astore_n (q := 6) F dX6_joinBatch_5 rfl (by decide) (by first | exact xref_r | exact xref_n | exact xref_f _ | assumption) ?_
    refine x_aload_n (q := 7) F dX6_joinBatch_6 rfl rfl (by first | exact xref_r | exact xref_n | exact xref_f _ | assumption) ?_
    refine x_ifnonnull (q := 10) F 12 dX6_joinBatch_7 (by decide) rfl (by first | exact xref_r | exact xref_n | exact xref_f _ | assumption) (fun a7 c7 => ?_) (fun c7 => ?_)
    · cases c7
    · refine x_iconst (q := 11) (v := 0) F dX6_joinBatch_10 rfl (by decide) ?_
      refine x_zret F dX6_joinBatch_11 (xle rfl) (xle rfl) (by first | exact Or.inl rfl | exact Or.inr rfl) ?_
      exact hQ0 hx
  | some i =>
    obtain ⟨hi, rfl⟩ := ixN_some (by have := hA.2.2.2.1.1; omega) hx
    rw [show itmV ad A (nI i) = .ref (ad (30, i)) by unfold itmV; rw [hx]; rfl]
    have e1 := (hC.2.2.2.2.1.2.1 i hi).1
    refine x_astore_n (q := 6) F dX6_joinBatch_5 rfl (by decide) (by first | exact xref_r | exact xref_n | exact xref_f _ | assumption) ?_
    refine x_aload_n (q := 7) F dX6_joinBatch_6 rfl rfl (by first | exact xref_r | exact xref_n | exact xref_f _ | assumption) ?_
    refine x_ifnonnull (q := 10) F 12 dX6_joinBatch_7 (by decide) rfl (by first | exact xref_r | exact xref_n | exact xref_f _ | assumption) (fun a7 c7 => ?_) (fun c7 => ?_)
    · refine x_aload_n (q := 13) F dX6_joinBatch_12 rfl rfl (by first | exact xref_r | exact xref_n | exact xref_f _ | assumption) ?_
      refine x_aload_n (q := 14) F dX6_joinBatch_13 rfl rfl (by first | exact xref_r | exact xref_n | exact xref_f _ | assumption) ?_
      refine x_get (q := 17) F dX6_joinBatch_14 rfl fs_X6_44 hC.1 rfl ?_
      refine x_putN (q := 20) F dX6_joinBatch_17 rfl fn_X6_210 e1 (xle rfl) rfl rfl ?_
      refine x_iconst (q := 21) (v := 1) F dX6_joinBatch_20 rfl (by decide) ?_
      refine x_zret F dX6_joinBatch_21 (xle rfl) (xle rfl) (by first | exact Or.inl rfl | exact Or.inr rfl) ?_
      exact hQ1 i hx _ (hC.item hi (d := setBt (aItm A i) (some (aOb A))) rfl) (fr40.up (by decide))
    · cases c7
def s_leaveBatch : xSp := fun ad h av Q => ∃ A i, pC ad h A ∧ aOK A ∧ i < aI A ∧ av = [.ref (ad (1, 0)), .int (nI i)] ∧ (iBt (aItm A i) ≠ some (aOb A) → Q (some (.int 0)) ad h) ∧
  (iBt (aItm A i) = some (aOb A) → ∀ h', pC ad h' (setIt A (aI A, updI (aItm A) i (setBt (aItm A i) none))) → fr40 h h' → Q (some (.int 1)) ad h')
set_option maxRecDepth 100000 in
theorem c_X6_leaveBatch : Ct yX6_leaveBatch cX6_leaveBatch 3 (some .boolean) (xrm 1 0 0) s_leaveBatch := by
  refine Ct.of (by decide) ?_
  intro p l e s m args below meth c0 G ad h av Q F hsp
  obtain ⟨A, i, hC, hA, hi, rfl, hQ0, hQ1⟩ := hsp
  have hob := hA.2.2.2.2.2.2.2.1
  refine ⟨x_ent rfl rfl, ?_⟩
  refine x_ls [(0, .ref (ad (1, 0))), (1, .int (nI i))] rfl ?_
  refine x_aload_n (q := 1) F dX6_leaveBatch_0 rfl rfl (by first | exact xref_r | exact xref_n | exact xref_f _ | assumption) ?_
  refine x_iload_n (q := 2) F dX6_leaveBatch_1 rfl rfl ?_
  refine x_callV1 (q := 5) F (1, 0) c_X6_itemOf dX6_leaveBatch_2 rfl mv_X6_itemOf ml_X6_166 ⟨⟨xle rfl, xle rfl⟩, xle rfl, xle rfl⟩ rfl hC.1 (xle rfl) ?_
  refine ⟨A, nI i, hC, hA, rfl, fun _ => ?_⟩
  rw [show itmV ad A (nI i) = .ref (ad (30, i)) by unfold itmV; rw [ixN_nI hi (by have := hA.2.2.2.1.1; omega)]; rfl]
  have e1 := (hC.2.2.2.2.1.2.1 i hi).1
  have hbt : ∀ v, iBt (aItm A i) = some v → v < 2 ^ 31 := fun v hv => by have := (hA.2.2.2.1.2 i hi).2.2.2.2.2.1 v hv; omega
  refine x_astore_n (q := 6) F dX6_leaveBatch_5 rfl (by decide) (by first | exact xref_r | exact xref_n | exact xref_f _ | assumption) ?_
  refine x_aload_n (q := 7) F dX6_leaveBatch_6 rfl rfl (by first | exact xref_r | exact xref_n | exact xref_f _ | assumption) ?_
  refine x_ifnull (q := 10) F 21 dX6_leaveBatch_7 (by decide) rfl (by first | exact xref_r | exact xref_n | exact xref_f _ | assumption) (fun c7 => ?_) (fun a7 c7 => ?_)
  · cases c7
  · refine x_aload_n (q := 11) F dX6_leaveBatch_10 rfl rfl (by first | exact xref_r | exact xref_n | exact xref_f _ | assumption) ?_
    refine x_getN (q := 14) F dX6_leaveBatch_11 rfl fn_X6_210 e1 rfl ?_
    refine x_aload_n (q := 15) F dX6_leaveBatch_14 rfl rfl (by first | exact xref_r | exact xref_n | exact xref_f _ | assumption) ?_
    refine x_get (q := 18) F dX6_leaveBatch_15 rfl fs_X6_44 hC.1 rfl ?_
    refine x_icmp_eq (q := 21) F 23 dX6_leaveBatch_18 (by decide) rfl (fun c18 => ?_) (fun c18 => ?_)
    · have hz : iBt (aItm A i) = some (aOb A) := (optI_inj hbt (o' := some (aOb A)) (fun v z => by cases z; omega)).mp c18
      refine x_aload_n (q := 24) F dX6_leaveBatch_23 rfl rfl (by first | exact xref_r | exact xref_n | exact xref_f _ | assumption) ?_
      refine x_iconst (q := 25) (v := -1) F dX6_leaveBatch_24 rfl (by decide) ?_
      refine x_putN (q := 28) F dX6_leaveBatch_25 rfl fn_X6_210 e1 (xle rfl) rfl rfl ?_
      refine x_iconst (q := 29) (v := 1) F dX6_leaveBatch_28 rfl (by decide) ?_
      refine x_zret F dX6_leaveBatch_29 (xle rfl) (xle rfl) (by first | exact Or.inl rfl | exact Or.inr rfl) ?_
      exact hQ1 hz _ (hC.item hi (d := setBt (aItm A i) none) rfl) (fr40.up (by decide))
    · refine x_iconst (q := 22) (v := 0) F dX6_leaveBatch_21 rfl (by decide) ?_
      refine x_zret F dX6_leaveBatch_22 (xle rfl) (xle rfl) (by first | exact Or.inl rfl | exact Or.inr rfl) ?_
      exact hQ0 (fun z => c18 (by rw [z]; rfl))
theorem refN_s (ad : xAd) (k n : Nat) : va_up (refN ad k n) n (some (ad (k, n))) = refN ad k (n + 1) := by
  funext j
  unfold va_up refN
  by_cases q : j = n
  · rw [if_pos q, if_pos (by omega), q]
  · rw [if_neg q]
    by_cases z : j < n
    · rw [if_pos z, if_pos (by omega)]
    · rw [if_neg z, if_neg (by omega)]
def s_keep : xSp := fun ad h av Q => ∃ (A : AS) (vs : List Value), h (1, 0) = some (cMain ad A) ∧ h (9, 0) = some (cQ 5 60 (refN ad 30 (aI A))) ∧ aI A < 60 ∧ h (30, aI A) = some (.inr (2, vs)) ∧ av = [.ref (ad (1, 0)), .ref (ad (30, aI A))] ∧
  Q (some (.int (nI (aI A)))) ad (xup (xup h (9, 0) (cQ 5 60 (refN ad 30 (aI A + 1)))) (1, 0) (cMain ad (setIt A (aI A + 1, aItm A))))
set_option maxRecDepth 100000 in
theorem c_X6_keep : Ct yX6_keep cX6_keep 2 (some .int) (xrm 0 0 0) s_keep := by
  refine Ct.of (by decide) ?_
  intro p l e s m args below meth c0 G ad h av Q F hsp
  obtain ⟨A, vs, hM, hArr, hlt, hIt, rfl, hQ⟩ := hsp
  refine ⟨x_ent rfl rfl, ?_⟩
  refine x_ls [(0, .ref (ad (1, 0))), (1, .ref (ad (30, aI A)))] rfl ?_
  refine x_aload_n (q := 1) F dX6_keep_0 rfl rfl (by first | exact xref_r | exact xref_n | exact xref_f _ | assumption) ?_
  refine x_get (q := 4) F dX6_keep_1 rfl fs_X6_41 hM rfl ?_
  refine x_bipush (q := 6) (v := 60) F dX6_keep_4 rfl (by decide) ?_
  refine x_icmp_lt (q := 9) F 12 dX6_keep_6 (by decide) rfl (fun c6 => ?_) (fun c6 => ?_)
  · refine x_aload_n (q := 13) F dX6_keep_12 rfl rfl (by first | exact xref_r | exact xref_n | exact xref_f _ | assumption) ?_
    refine x_get (q := 16) F dX6_keep_13 rfl fs_X6_33 hM rfl ?_
    refine x_aload_n (q := 17) F dX6_keep_16 rfl rfl (by first | exact xref_r | exact xref_n | exact xref_f _ | assumption) ?_
    refine x_get (q := 20) F dX6_keep_17 rfl fs_X6_41 hM rfl ?_
    refine x_aload_n (q := 21) F dX6_keep_20 rfl rfl (by first | exact xref_r | exact xref_n | exact xref_f _ | assumption) ?_
    refine x_aast5 (q := 22) F dX6_keep_21 rfl hArr hIt rfl hlt (by omega) ?_
    rw [refN_s]
    refine x_aload_n (q := 23) F dX6_keep_22 rfl rfl (by first | exact xref_r | exact xref_n | exact xref_f _ | assumption) ?_
    refine x_dup (q := 24) F dX6_keep_23 rfl rfl ?_
    refine x_get (q := 27) F dX6_keep_24 rfl fs_X6_41 (xk hM) rfl ?_
    refine x_iconst (q := 28) (v := 1) F dX6_keep_27 rfl (by decide) ?_
    refine x_iadd (q := 29) F dX6_keep_28 rfl ?_
    refine x_topi (nI_1 _) ?_
    refine x_put (q := 32) F dX6_keep_29 rfl fs_X6_41 (xk hM) (xle rfl) rfl rfl ?_
    refine x_aload_n (q := 33) F dX6_keep_32 rfl rfl (by first | exact xref_r | exact xref_n | exact xref_f _ | assumption) ?_
    refine x_get (q := 36) F dX6_keep_33 rfl fs_X6_41 (xup_self _ _ _) rfl ?_
    refine x_iconst (q := 37) (v := 1) F dX6_keep_36 rfl (by decide) ?_
    refine x_isub (q := 38) F dX6_keep_37 rfl ?_
    refine x_topi (nI_pred (aI A)) ?_
    refine x_iret F dX6_keep_38 (xle rfl) (xle rfl) ?_
    exact hQ
  · exact absurd ((nI_ltI (a := aI A) (b := 60) (by omega) (by omega)).mpr hlt) c6
theorem pC.run {ad : xAd} {h : xH} {A : AS} (H : pC ad h A) (q : RS) (fa : Option Nat) (ct : Nat) : pC ad (wR h ad (aSt A) (aNc A) q (optI fa) (lN ct)) (setRn A (rNo q, rOut q) (fa, ct)) := by
  obtain ⟨mem, no, out, a, i, p, fl⟩ := q
  obtain ⟨hM, hT, ⟨c1, c2⟩, ⟨s1, s2, s3⟩, ⟨i1, i2, i3⟩, hR⟩ := H
  have o : ∀ t : Tg, ¬ (10 ≤ t.1 ∧ t.1 ≤ 13) → wR h ad (aSt A) (aNc A) (mem, no, out, a, i, p, fl) (optI fa) (lN ct) t = h t := by
    intro t ht
    have n1 : t.1 ≠ 10 := fun z => ht (by omega)
    have n2 : t.1 ≠ 11 := fun z => ht (by omega)
    have n3 : t.1 ≠ 12 := fun z => ht (by omega)
    have n4 : t.1 ≠ 13 := fun z => ht (by omega)
    show xup _ (10, 0) _ t = _
    rw [up_ne n1, up_ne n3, up_ne n4, up_ne n2]
  exact ⟨(o _ (by decide)).trans hM, hT.congr (fun k _ _ => o _ (by show ¬ (10 ≤ k ∧ k ≤ 13); omega)), ⟨(o _ (by decide)).trans c1, (o _ (by decide)).trans c2⟩, ⟨(o _ (by decide)).trans s1, fun s hs => (s2 s hs).congr (fun k _ _ => o _ (by show ¬ (10 ≤ k ∧ k ≤ 13); omega)), fun k s q1 q2 q3 => (o _ (by show ¬ (10 ≤ k ∧ k ≤ 13); omega)).trans (s3 k s q1 q2 q3)⟩, ⟨(o _ (by decide)).trans i1, fun j hj => (i2 j hj).congr (fun k _ _ => o _ (by show ¬ (10 ≤ k ∧ k ≤ 13); omega)), fun k j q1 q2 q3 => (o _ (by show ¬ (10 ≤ k ∧ k ≤ 13); omega)).trans (i3 k j q1 q2 q3)⟩, mem, a, i, p, fl, rfl, rfl, rfl, rfl⟩
theorem wR_fr40 {ad : xAd} {h : xH} {st nc : Nat} {q : RS} {fa : Int32} {all : Int64} : fr40 h (wR h ad st nc q fa all) := by
  obtain ⟨mem, no, out, a, i, p, fl⟩ := q
  intro t ht
  show xup _ (10, 0) _ t = _
  rw [up_ne (by omega), up_ne (by omega), up_ne (by omega), up_ne (by omega)]
theorem pRn.view {ad : xAd} {h : xH} {A : AS} (H : pRn ad h A) : ∃ q : RS, rOut q = aOut A ∧ rNo q = aNo A ∧ h = wR h ad (aSt A) (aNc A) q (optI (aFa A)) (lN (aCt A)) := by
  obtain ⟨mem, a, i, p, fl, a1, a2, a3, a4⟩ := H
  refine ⟨(mem, aNo A, aOut A, a, i, p, fl), rfl, rfl, ?_⟩
  show h = xup (xup (xup (xup h (11, 0) _) (13, 0) _) (12, 0) _) (10, 0) _
  rw [xup_same h a1, xup_same h a2, xup_same h a3, xup_same h a4]
end
section
/-! ===== to migrate ===== -/
theorem pC.move {ad ad' : xAd} {h : xH} {A : AS} (H : pC ad h A) (E : ∀ t, h t ≠ none → ad' t = ad t) : pC ad' h A := by
  obtain ⟨hM, ⟨lt, nu, k, t1, t2, t3, t4⟩, ⟨c1, c2⟩, ⟨s1, s2, s3⟩, ⟨i1, i2, i3⟩, mem, a, i, p, fl, r1, r2, r3, r4⟩ := H
  have lv : ∀ {t : Tg} {e : xE}, h t = some e → ad' t = ad t := fun {t e} q => E t (by rw [q]; exact fun z => by cases z)
  have eS : refN ad' 20 (aS A) = refN ad 20 (aS A) := by
    funext j
    unfold refN
    by_cases q : j < aS A
    · rw [if_pos q, if_pos q, lv (s2 j q).1]
    · rw [if_neg q, if_neg q]
  have eI : refN ad' 30 (aI A) = refN ad 30 (aI A) := by
    funext j
    unfold refN
    by_cases q : j < aI A
    · rw [if_pos q, if_pos q, lv (i2 j q).1]
    · rw [if_neg q, if_neg q]
  refine ⟨?_, ⟨lt, nu, k, ?_, t2, t3, t4⟩, ⟨?_, c2⟩, ⟨?_, fun s hs => ?_, s3⟩, ⟨?_, fun j hj => ?_, i3⟩, mem, a, i, p, fl, r1, r2, ?_, ?_⟩
  · rw [hM]
    unfold cMain
    rw [lv t1, lv c1, lv s1, lv i1, lv r4]
  · rw [t1, lv t2, lv t3, lv t4]
  · rw [c1, lv c2]
  · rw [s1, eS]
  · obtain ⟨a1, a2, a3, a4, a5, a6, a7, a8, a9⟩ := s2 s hs
    exact ⟨by rw [a1, lv a2, lv a3, lv a4, lv a5], a2, a3, by rw [a4, lv a6, lv a7], by rw [a5, lv a8, lv a9], a6, a7, a8, a9⟩
  · rw [i1, eI]
  · obtain ⟨a1, a2, a3⟩ := i2 j hj
    exact ⟨by rw [a1, lv a2], by rw [a2, lv a3], a3⟩
  · rw [r3, lv r2]
  · rw [r4, lv r1, lv r3]
theorem pC.push {ad : xAd} {h h' : xH} {A : AS} (H : pC ad h A) {d : ItmD} (h1 : h' (1, 0) = some (cMain ad (setIt A (aI A + 1, aItm A)))) (h9 : h' (9, 0) = some (cQ 5 60 (refN ad 30 (aI A + 1)))) (hd : pItm ad h' (aI A) d)
    (o : ∀ t : Tg, t ≠ (1, 0) → t ≠ (9, 0) → ¬ (30 ≤ t.1 ∧ t.1 ≤ 32 ∧ t.2 = aI A) → h' t = h t) : pC ad h' (setIt A (aI A + 1, updI (aItm A) (aI A) d)) := by
  obtain ⟨hM, hT, ⟨c1, c2⟩, ⟨s1, s2, s3⟩, ⟨i1, i2, i3⟩, hR⟩ := H
  have o2 : ∀ k i, k ≠ 1 → k ≠ 9 → (k < 30 ∨ 32 < k) → h' (k, i) = h (k, i) := fun k i q1 q2 q3 => o _ (tg_ne q1 _ _) (tg_ne q2 _ _) (fun z => by have := z.1; have := z.2.1; omega)
  refine ⟨h1, hT.congr (fun k _ _ => o2 k 0 (by omega) (by omega) (by omega)), ⟨(o2 6 0 (by omega) (by omega) (by omega)).trans c1, (o2 7 0 (by omega) (by omega) (by omega)).trans c2⟩, ⟨(o2 8 0 (by omega) (by omega) (by omega)).trans s1, fun s hs => (s2 s hs).congr (fun k _ _ => o2 k s (by omega) (by omega) (by omega)), fun k s q1 q2 q3 => (o2 k s (by omega) (by omega) (by omega)).trans (s3 k s q1 q2 q3)⟩, ⟨h9, fun j hj => ?_, fun k j q1 q2 q3 => ?_⟩, hR.congr (fun k _ _ => o2 k 0 (by omega) (by omega) (by omega))⟩
  · have hj : j < aI A + 1 := hj
    by_cases z : j = aI A
    · subst z
      show pItm ad h' (aI A) (updI (aItm A) (aI A) d (aI A))
      rw [show updI (aItm A) (aI A) d (aI A) = d from if_pos rfl]
      exact hd
    · show pItm ad h' j (updI (aItm A) (aI A) d j)
      rw [show updI (aItm A) (aI A) d j = aItm A j from if_neg z]
      exact (i2 j (by omega)).congr (fun k q1 q2 => o _ (tg_ne (by omega) _ _) (tg_ne (by omega) _ _) (fun w => z w.2.2))
  · have q3 : aI A + 1 ≤ j := q3
    rw [o (k, j) (tg_ne (by omega) _ _) (tg_ne (by omega) _ _) (fun w => by have : j = aI A := w.2.2; omega)]
    exact i3 k j q1 q2 (by omega)
/-- the checks before a script hold of these bytes; those behind -/
def chkB (d : ScrD) (n : Nat) (f : Nat → Nat) : Bool := holdA (fun j => nI (sBk d j)) (fun j => nI (sBv d j)) n (fun j => nI (f j)) (sBn d)
def chkH (d : ScrD) (n : Nat) (f : Nat → Nat) : Bool := holdA (fun j => nI (sHk d j)) (fun j => nI (sHv d j)) n (fun j => nI (f j)) (sHn d)
/-- the run of a script over an item -/
def runA (A : AS) (i sc : Nat) : RS × Option Nat × Nat := runF (aNc A) (iN (aItm A i)) (iB (aItm A i)) (sL (aScr A sc)) (sV (aScr A sc)) (sNk (aScr A sc)) (aSt A) (aOut A)
def ranA (A : AS) (i sc : Nat) : AS := setRn A (rNo (runA A i sc).1, rOut (runA A i sc).1) ((runA A i sc).2.1, aCt A + (runA A i sc).2.2)
def newI (A : AS) (i sc : Nat) : ItmD := ((rNo (runA A i sc).1, rOut (runA A i sc).1), (some i, some sc, iRt (aItm A i)), (none, false))
/-- TO MIGRATE: the number that came or what is against it, and the state behind it -/
def deriveF (A : AS) (i sc : Nat) : Int32 × AS :=
  if hasDerBy A i sc = true then (-11, A)
  else if chkB (aScr A sc) (iN (aItm A i)) (iB (aItm A i)) = false then (-12, A)
  else if rF (runA A i sc).1 ≠ 0 then (-12 - nI (rF (runA A i sc).1), ranA A i sc)
  else if chkH (aScr A sc) (rNo (runA A i sc).1) (rOut (runA A i sc).1) = false then (-17, ranA A i sc)
  else if 60 ≤ aI A then (-4, ranA A i sc)
  else (nI (aI A), setIt (ranA A i sc) (aI A + 1, updI (aItm A) (aI A) (newI A i sc)))
theorem runA_ok {A : AS} (hA : aOK A) {i sc : Nat} (hi : i < aI A) (hs : sc < aS A) : RSok (runA A i sc).1 :=
  runF_ok (fun j hj => ((hA.2.2.1.2 sc hs).2.1 j hj).2) (fun j hj => (hA.2.2.2.1.2 i hi).2.1 j hj) (hA.2.2.1.2 sc hs).1
theorem runF_d (nc sz : Nat) (f L V : Nat → Nat) (nk st : Nat) (out : Nat → Nat) : (runF nc sz f L V nk st out).2.2 ≤ st := by
  have := loopF_d (nc := nc) (sz := sz) (f := f) (L := L) (V := V) (nk := nk) st (fun _ => 0, 0, out, 0, 0, 0, 0) none 0
  unfold runF endF
  by_cases q : rF (loopF nc sz f L V nk st (fun _ => 0, 0, out, 0, 0, 0, 0) none 0).1 = 0 ∧ rP (loopF nc sz f L V nk st (fun _ => 0, 0, out, 0, 0, 0, 0) none 0).1 < nk
  · rw [if_pos q]; show (loopF nc sz f L V nk st (fun _ => 0, 0, out, 0, 0, 0, 0) none 0).2.2 ≤ st; omega
  · rw [if_neg q]; omega
def s_derive : xSp := fun ad h av Q => ∃ A i sc, pC ad h A ∧ aOK A ∧ i < aI A ∧ iGn (aItm A i) = false ∧ sc < aS A ∧ av = [.ref (ad (1, 0)), .int (nI i), .int (nI sc)] ∧
  ∀ ad' h', pC ad' h' (deriveF A i sc).2 → fr40 h h' → Q (some (.int (deriveF A i sc).1)) ad' h'
set_option maxRecDepth 100000 in
set_option maxHeartbeats 8000000 in
theorem c_X6_derive : Ct yX6_derive cX6_derive 6 (some .int) (xrm 4 3 48) s_derive := by
  refine Ct.of (by decide) ?_
  intro p l e s m args below meth c0 G ad h av Q F hsp
  obtain ⟨A, i, sc, hC, hA, hi, hg, hs, rfl, hQ⟩ := hsp
  have hnI := hA.2.2.2.1.1
  have hnS := hA.2.2.1.1
  refine ⟨x_ent rfl rfl, ?_⟩
  refine x_ls [(0, .ref (ad (1, 0))), (1, .int (nI i)), (2, .int (nI sc))] rfl ?_
  refine x_aload_n (q := 1) F dX6_derive_0 rfl rfl (by first | exact xref_r | exact xref_n | exact xref_f _ | assumption) ?_
  refine x_iload_n (q := 2) F dX6_derive_1 rfl rfl ?_
  refine x_callV1 (q := 5) F (1, 0) c_X6_liveItem dX6_derive_2 rfl mv_X6_liveItem ml_X6_123 ⟨⟨xle rfl, xle rfl⟩, xle rfl, xle rfl⟩ rfl hC.1 (xle rfl) ?_
  refine ⟨A, nI i, hC, hA, rfl, fun _ => ?_⟩
  rw [show liveV ad A (nI i) = .ref (ad (30, i)) by unfold liveV; rw [liveN_nI hA hi, if_neg (by rw [hg]; decide)]; rfl]
  refine x_astore_n (q := 6) F dX6_derive_5 rfl (by decide) (by first | exact xref_r | exact xref_n | exact xref_f _ | assumption) ?_
  refine x_aload_n (q := 7) F dX6_derive_6 rfl rfl (by first | exact xref_r | exact xref_n | exact xref_f _ | assumption) ?_
  refine x_iload_n (q := 8) F dX6_derive_7 rfl rfl ?_
  refine x_callV1 (q := 11) F (1, 0) c_X6_scriptOf dX6_derive_8 rfl mv_X6_scriptOf ml_X6_108 ⟨⟨xle rfl, xle rfl⟩, xle rfl, xle rfl⟩ rfl hC.1 (xle rfl) ?_
  refine ⟨A, nI sc, hC, hA, rfl, fun _ => ?_⟩
  rw [show scrV ad A (nI sc) = .ref (ad (20, sc)) by unfold scrV; rw [ixN_nI hs (by omega)]; rfl]
  refine x_astore (q := 13) F dX6_derive_11 rfl (by decide) (by first | exact xref_r | exact xref_n | exact xref_f _ | assumption) ?_
  refine x_aload_n (q := 14) F dX6_derive_13 rfl rfl (by first | exact xref_r | exact xref_n | exact xref_f _ | assumption) ?_
  refine x_ifnull (q := 17) F 22 dX6_derive_14 (by decide) rfl (by first | exact xref_r | exact xref_n | exact xref_f _ | assumption) (fun c14 => ?_) (fun a14 c14 => ?_)
  · cases c14
  refine x_aload (q := 19) F dX6_derive_17 rfl rfl (by first | exact xref_r | exact xref_n | exact xref_f _ | assumption) ?_
  refine x_ifnonnull (q := 22) F 24 dX6_derive_19 (by decide) rfl (by first | exact xref_r | exact xref_n | exact xref_f _ | assumption) (fun a19 c19 => ?_) (fun c19 => ?_)
  · clear c19 c14
    refine x_ls [(0, .ref (ad (1, 0))), (1, .int (nI i)), (2, .int (nI sc)), (3, .ref (ad (30, i))), (4, .ref (ad (20, sc)))] rfl ?_
    obtain ⟨I1, I2, I3⟩ := hC.2.2.2.2.1.2.1 i hi
    obtain ⟨S1, S2, S3, S4, S5, S6, S7, S8, S9⟩ := hC.2.2.2.1.2.1 sc hs
    obtain ⟨o1, o2, o3, o4, o5, o6, o7⟩ := hA.2.2.1.2 sc hs
    obtain ⟨q1, q2, q3, q4, q5, q6⟩ := hA.2.2.2.1.2 i hi
    refine x_aload_n (q := 25) F dX6_derive_24 rfl rfl (by first | exact xref_r | exact xref_n | exact xref_f _ | assumption) ?_
    refine x_iload_n (q := 26) F dX6_derive_25 rfl rfl ?_
    refine x_iload_n (q := 27) F dX6_derive_26 rfl rfl ?_
    refine x_callV2 (q := 30) F (1, 0) c_X6_hasDerivedBy dX6_derive_27 rfl mv_X6_hasDerivedBy ml_X6_199 ⟨⟨xle rfl, xle rfl⟩, xle rfl, xle rfl⟩ rfl hC.1 (xle rfl) ?_
    refine ⟨A, i, sc, hC, hA, rfl, by omega, by omega, fun _ => ?_⟩
    by_cases hd : hasDerBy A i sc = true
    · rw [hd]
      have hF : deriveF A i sc = (-11, A) := if_pos hd
      rw [hF] at hQ
      refine x_if_eq (q := 33) F 36 dX6_derive_30 (by decide) rfl (fun c30 => ?_) (fun c30 => ?_)
      · exact absurd c30 (by decide)
      · refine x_bipush (q := 35) (v := -11) F dX6_derive_33 rfl (by decide) ?_
        refine x_iret F dX6_derive_35 (xle rfl) (xle rfl) ?_
        exact hQ ad h hC fr40.rf
    rw [show hasDerBy A i sc = false by simpa using hd]
    refine x_if_eq (q := 33) F 36 dX6_derive_30 (by decide) rfl (fun c30 => ?_) (fun c30 => ?_)
    · clear c30
      refine x_aload (q := 38) F dX6_derive_36 rfl rfl (by first | exact xref_r | exact xref_n | exact xref_f _ | assumption) ?_
      refine x_getN (q := 41) F dX6_derive_38 rfl fn_X6_120 S1 rfl ?_
      refine x_aload_n (q := 42) F dX6_derive_41 rfl rfl (by first | exact xref_r | exact xref_n | exact xref_f _ | assumption) ?_
      refine x_getN (q := 45) F dX6_derive_42 rfl fn_X6_169 I1 rfl ?_
      refine x_callV1 (q := 48) F (23, sc) c_X1_hold dX6_derive_45 rfl mv_X1_hold ml_X6_202 ⟨⟨xle rfl, xle rfl⟩, xle rfl, xle rfl⟩ rfl S4 (xle rfl) ?_
      refine ⟨(23, sc), (25, sc), (26, sc), (31, i), (32, i), sBn (aScr A sc), _, _, iN (aItm A i), iN (aItm A i), _, rfl, S4, S6, S7, o3, fun j hj => ?_, I2, I3, Nat.le_refl _, by omega, fun _ => ?_⟩
      · have := (o4 j hj).1
        exact ⟨nI_pos' (by omega), (nI_leI (b := 3) (by omega) (by omega)).mpr this⟩
      show xX _ _ _ _ _ _ _ _ _ _ _ _ _ _ _ _ _ (((some (Value.int (bI (chkB (aScr A sc) (iN (aItm A i)) (iB (aItm A i)))))).toList) ++ _) _ _ _ _
      by_cases hb : chkB (aScr A sc) (iN (aItm A i)) (iB (aItm A i)) = false
      · rw [hb]
        have hF : deriveF A i sc = (-12, A) := by unfold deriveF; rw [if_neg hd, if_pos hb]
        rw [hF] at hQ
        refine x_if_ne (q := 51) F 54 dX6_derive_48 (by decide) rfl (fun c48 => ?_) (fun c48 => ?_)
        · exact absurd rfl c48
        · refine x_bipush (q := 53) (v := -12) F dX6_derive_51 rfl (by decide) ?_
          refine x_iret F dX6_derive_53 (xle rfl) (xle rfl) ?_
          exact hQ ad h hC fr40.rf
      rw [show chkB (aScr A sc) (iN (aItm A i)) (iB (aItm A i)) = true by simpa using hb]
      refine x_if_ne (q := 51) F 54 dX6_derive_48 (by decide) rfl (fun c48 => ?_) (fun c48 => ?_)
      · clear c48
        refine x_aload_n (q := 55) F dX6_derive_54 rfl rfl (by first | exact xref_r | exact xref_n | exact xref_f _ | assumption) ?_
        refine x_get (q := 58) F dX6_derive_55 rfl fs_X6_67 hC.1 rfl ?_
        refine x_aload (q := 60) F dX6_derive_58 rfl rfl (by first | exact xref_r | exact xref_n | exact xref_f _ | assumption) ?_
        refine x_aload_n (q := 61) F dX6_derive_60 rfl rfl (by first | exact xref_r | exact xref_n | exact xref_f _ | assumption) ?_
        refine x_getN (q := 64) F dX6_derive_61 rfl fn_X6_169 I1 rfl ?_
        obtain ⟨q, hqo, hqn, hview⟩ := hC.2.2.2.2.2.view
        have hrn : h (10, 0) = some (.inr (3, [.int (nI (aSt A)), .ref (ad (11, 0)), .ref (ad (12, 0)), .int (nI (rA q)), .int (nI (rI q)), .int (nI (rP q)), .int (nI (rF q)), .int (optI (aFa A)), .long (lN (aCt A))])) := by
          rw [hview]; obtain ⟨mem, no, out, a, ii, pp, fl⟩ := q; rfl
        refine x_callV2 (q := 67) F (10, 0) c_X3_run dX6_derive_64 rfl mv_X3_run ml_X6_206 ⟨⟨xle rfl, xle rfl⟩, xle rfl, xle rfl⟩ rfl hrn (xle rfl) ?_
        refine ⟨h, aSt A, aNc A, q, optI (aFa A), lN (aCt A), sc, i, iN (aItm A i), iN (aItm A i), iB (aItm A i), sNk (aScr A sc), sL (aScr A sc), sV (aScr A sc), _, _, _, hview, rfl, S1, S2, S3, o1, fun j hj => (o2 j hj).1, fun j hj => (o2 j hj).2, I2, I3, Nat.le_refl _, by omega, q2, hA.2.2.2.2.1.2, hA.2.2.2.2.1.1, fun _ => ?_⟩
        rw [hqo]
        have hok := runA_ok hA hi hs
        have hdd : (runA A i sc).2.2 ≤ 2000 := Nat.le_trans (runF_d _ _ _ _ _ _ _ _) hA.2.2.2.2.1.1
        change xX _ _ _ _ _ _ _ _ _ _ _ _ _ _ _ _ _ ((some (Value.int (nI (rF (runA A i sc).1)))).toList ++ _) _ (wR h ad (aSt A) (aNc A) (runA A i sc).1 (optI (runA A i sc).2.1) (lN (aCt A) + (nI (runA A i sc).2.2).toInt64)) _ _
        rw [nI_l (by omega), lN_add]
        have hC2 : pC ad (wR h ad (aSt A) (aNc A) (runA A i sc).1 (optI (runA A i sc).2.1) (lN (aCt A + (runA A i sc).2.2))) (ranA A i sc) := hC.run _ _ _
        have hfr2 : fr40 h (wR h ad (aSt A) (aNc A) (runA A i sc).1 (optI (runA A i sc).2.1) (lN (aCt A + (runA A i sc).2.2))) := wR_fr40
        generalize wR h ad (aSt A) (aNc A) (runA A i sc).1 (optI (runA A i sc).2.1) (lN (aCt A + (runA A i sc).2.2)) = h2 at hC2 hfr2 ⊢
        have hfl : rF (runA A i sc).1 ≤ 4 := hok.2.2.2.2.2.1
        refine x_istore (q := 69) F dX6_derive_67 rfl (by decide) ?_
        refine x_iload (q := 71) F dX6_derive_69 rfl rfl ?_
        by_cases hz : rF (runA A i sc).1 = 0
        · rw [hz]
          refine x_if_eq (q := 74) F 80 dX6_derive_71 (by decide) rfl (fun c71 => ?_) (fun c71 => ?_)
          · clear c71
            obtain ⟨T1, T2, T3, T4, T5, T6, T7, T8, T9⟩ := hC2.2.2.2.1.2.1 sc hs
            obtain ⟨mem2, a2, i2, p2, fl2, R1, R2, R3, R4⟩ := hC2.2.2.2.2.2
            have hno : rNo (runA A i sc).1 ≤ 40 := hok.2.2.1
            refine x_aload (q := 82) F dX6_derive_80 rfl rfl (by first | exact xref_r | exact xref_n | exact xref_f _ | assumption) ?_
            refine x_getN (q := 85) F dX6_derive_82 rfl fn_X6_112 T1 rfl ?_
            refine x_aload_n (q := 86) F dX6_derive_85 rfl rfl (by first | exact xref_r | exact xref_n | exact xref_f _ | assumption) ?_
            refine x_get (q := 89) F dX6_derive_86 rfl fs_X6_67 hC2.1 rfl ?_
            refine x_getN (q := 92) F dX6_derive_89 rfl fn_X6_196 R4 rfl ?_
            refine x_callV1 (q := 95) F (24, sc) c_X1_hold dX6_derive_92 rfl mv_X1_hold ml_X6_202 ⟨⟨xle rfl, xle rfl⟩, xle rfl, xle rfl⟩ rfl T5 (xle rfl) ?_
            refine ⟨(24, sc), (27, sc), (28, sc), (12, 0), (13, 0), sHn (aScr A sc), _, _, rNo (runA A i sc).1, 40, _, rfl, T5, T8, T9, o5, fun j hj => ?_, R3, R2, hno, by omega, fun _ => ?_⟩
            · have : sHk (aScr (ranA A i sc) sc) j ≤ 3 := (o6 j hj).1
              exact ⟨nI_pos' (by omega), (nI_leI (b := 3) (by omega) (by omega)).mpr this⟩
            show xX _ _ _ _ _ _ _ _ _ _ _ _ _ _ _ _ _ (((some (Value.int (bI (chkH (aScr A sc) (rNo (runA A i sc).1) (rOut (runA A i sc).1))))).toList) ++ _) _ _ _ _
            by_cases hh : chkH (aScr A sc) (rNo (runA A i sc).1) (rOut (runA A i sc).1) = false
            · rw [hh]
              have hF : deriveF A i sc = (-17, ranA A i sc) := by unfold deriveF; rw [if_neg hd, if_neg hb, if_neg (fun z => z hz), if_pos hh]
              rw [hF] at hQ
              refine x_if_ne (q := 98) F 101 dX6_derive_95 (by decide) rfl (fun c95 => ?_) (fun c95 => ?_)
              · exact absurd rfl c95
              · refine x_bipush (q := 100) (v := -17) F dX6_derive_98 rfl (by decide) ?_
                refine x_iret F dX6_derive_100 (xle rfl) (xle rfl) ?_
                exact hQ ad h2 hC2 hfr2
            rw [show chkH (aScr A sc) (rNo (runA A i sc).1) (rOut (runA A i sc).1) = true by simpa using hh]
            refine x_if_ne (q := 98) F 101 dX6_derive_95 (by decide) rfl (fun c95 => ?_) (fun c95 => ?_)
            · clear c95
              refine x_aload_n (q := 102) F dX6_derive_101 rfl rfl (by first | exact xref_r | exact xref_n | exact xref_f _ | assumption) ?_
              refine x_get (q := 105) F dX6_derive_102 rfl fs_X6_41 hC2.1 rfl ?_
              refine x_bipush (q := 107) (v := 60) F dX6_derive_105 rfl (by decide) ?_
              refine x_icmp_lt (q := 110) F 113 dX6_derive_107 (by decide) rfl (fun c107 => ?_) (fun c107 => ?_)
              · have hlt : aI A < 60 := (nI_ltI (a := aI A) (b := 60) (by omega) (by omega)).mp c107
                clear c107
                have hF : deriveF A i sc = (nI (aI A), setIt (ranA A i sc) (aI A + 1, updI (aItm A) (aI A) (newI A i sc))) := by unfold deriveF; rw [if_neg hd, if_neg hb, if_neg (fun z => z hz), if_neg hh, if_neg (by omega)]
                rw [hF] at hQ
                have n30 : h2 (30, aI A) = none := hC2.2.2.2.2.1.2.2 30 (aI A) (by omega) (by omega) (Nat.le_refl _)
                have n31 : h2 (31, aI A) = none := hC2.2.2.2.2.1.2.2 31 (aI A) (by omega) (by omega) (Nat.le_refl _)
                have n32 : h2 (32, aI A) = none := hC2.2.2.2.2.1.2.2 32 (aI A) (by omega) (by omega) (Nat.le_refl _)
                refine x_aload_n (q := 114) F dX6_derive_113 rfl rfl (by first | exact xref_r | exact xref_n | exact xref_f _ | assumption) ?_
                refine x_new (q := 117) F (30, aI A) [.null, .int 0, .int 0, .int 0, .int 0, .int 0] dX6_derive_114 rfl (ci := 2) rfl ⟨cl_X6_31, im_X2, iz_X2⟩ n30 df_X2 (xle rfl) (xle rfl) (fun ad1 E1 => ?_)
                have E1' : ∀ {k j : Nat}, k ≠ 30 → ad1 (k, j) = ad (k, j) := fun q => E1 _ (tg_ne q _ _)
                have E1i : ad1 (30, i) = ad (30, i) := E1 _ (fun z => by have := congrArg Prod.snd z; have h3 : i = aI A := this; omega)
                rw [← E1' (k := 1) (by decide), ← E1' (k := 20) (by decide), ← E1i]
                have hC3 := hC2.move (ad' := ad1) (fun t ht => E1 t (fun z => ht (by rw [z]; exact n30)))
                obtain ⟨mem3, a3, i3, p3, fl3, U1, U2, U3, U4⟩ := hC3.2.2.2.2.2
                have hM3 := hC3.1
                have hI3 := (hC3.2.2.2.2.1.2.1 i hi).1
                refine x_dup (q := 118) F dX6_derive_117 rfl rfl ?_
                refine x_aload_n (q := 119) F dX6_derive_118 rfl rfl (by first | exact xref_r | exact xref_n | exact xref_f _ | assumption) ?_
                refine x_get (q := 122) F dX6_derive_119 rfl fs_X6_67 (xk hM3) rfl ?_
                refine x_getN (q := 125) F dX6_derive_122 rfl fn_X6_196 (xk U4) rfl ?_
                refine x_callV0 (q := 128) F (12, 0) c_X0_copy dX6_derive_125 rfl mv_X0_copy ml_X6_96 ⟨⟨xle rfl, xle rfl⟩, xle rfl, xle rfl⟩ rfl (xk U3) (xle rfl) ?_
                refine ⟨(12, 0), (13, 0), (31, aI A), (32, aI A), rNo (runA A i sc).1, 40, _, rfl, xk U3, xk U2, hno, by omega, xkn n31, xkn n32, tg_ne (by decide) _ _, fun ad2 g E2 hgg _ => ?_⟩
                have E2' : ∀ {k j : Nat}, k ≠ 31 → k ≠ 32 → ad2 (k, j) = ad1 (k, j) := fun q q' => E2 _ (tg_ne q _ _) (tg_ne q' _ _)
                rw [← E2' (k := 1) (by decide) (by decide), ← E2' (k := 20) (by decide) (by decide), ← E2' (k := 30) (by decide) (by decide), ← E2' (k := 30) (by decide) (by decide)]
                have hC4 := hC3.move (ad' := ad2) (fun t ht => E2 t (fun z => ht (by rw [z]; exact n31)) (fun z => ht (by rw [z]; exact n32)))
                refine x_h (xup_comm _ _ _ (tg_ne (a := 32) (b := 31) (by decide) _ _)) ?_
                refine x_cell (g := fun j => nI (rOut (runA A i sc).1 j)) (fun j hj => hgg j hj) ?_
                have hM4 := hC4.1
                have hI4 := (hC4.2.2.2.2.1.2.1 i hi).1
                have hI4' : xup h2 (30, aI A) (.inr (2, [.null, .int 0, .int 0, .int 0, .int 0, .int 0])) (30, i) = h2 (30, i) := xup_ne _ _ (fun z => by have := congrArg Prod.snd z; have h3 : i = aI A := this; omega)
                refine x_iload_n (q := 129) F dX6_derive_128 rfl rfl ?_
                refine x_iload_n (q := 130) F dX6_derive_129 rfl rfl ?_
                refine x_aload_n (q := 131) F dX6_derive_130 rfl rfl (by first | exact xref_r | exact xref_n | exact xref_f _ | assumption) ?_
                refine x_getN (q := 134) F dX6_derive_131 rfl fn_X6_185 (xk (xk (hI4'.trans hI4))) rfl ?_
                refine x_callI4 (q := 137) F (30, aI A) c_X2_init dX6_derive_134 rfl mi_X2_init ml_X6_100 ⟨⟨xle rfl, xle rfl⟩, xle rfl, xle rfl⟩ (xle rfl) ?_
                refine ⟨(30, aI A), (31, aI A), _, _, _, rfl, xk (xk (xup_self _ _ _)), fun _ => ?_⟩
                refine x_callV1 (q := 140) F (1, 0) c_X6_keep dX6_derive_137 rfl mv_X6_keep ml_X6_103 ⟨⟨xle rfl, xle rfl⟩, xle rfl, xle rfl⟩ rfl (xk (xk (xk (xk hM4)))) (xle rfl) ?_
                refine ⟨ranA A i sc, _, xk (xk (xk (xk hM4))), xk (xk (xk (xk hC4.2.2.2.2.1.1))), hlt, xup_self _ _ _, rfl, fun _ => ?_⟩
                refine x_iret F dX6_derive_140 (xle rfl) (xle rfl) ?_
                refine hQ ad2 _ (hC4.push (d := newI A i sc) (xup_self _ _ _) (xk (xup_self _ _ _)) ⟨xk (xk (xup_self _ _ _)), xk (xk (xk (xk (xup_self _ _ _)))), xk (xk (xk (xup_self _ _ _)))⟩ (fun t r1 r2 r3 => ?_)) (hfr2.tr (fun t ht => ?_))
                · have z : ∀ k, 30 ≤ k → k ≤ 32 → t ≠ (k, aI A) := fun k z1 z2 w => r3 (by rw [w]; exact ⟨z1, z2, rfl⟩)
                  rw [xup_ne _ _ r1, xup_ne _ _ r2, xup_ne _ _ (show t ≠ (30, aI A) from z 30 (by omega) (by omega)), xup_ne _ _ (z 32 (by omega) (by omega)), xup_ne _ _ (z 31 (by omega) (by omega)), xup_ne _ _ (z 30 (by omega) (by omega))]
                · rw [up_ne (by omega), up_ne (by omega), up_ne (by omega), up_ne (by omega), up_ne (by omega), up_ne (by omega)]
              · have hge : 60 ≤ aI A := by
                  rcases Nat.lt_or_ge (aI A) 60 with q | q
                  · exact absurd ((nI_ltI (a := aI A) (b := 60) (by omega) (by omega)).mpr q) c107
                  · exact q
                have hF : deriveF A i sc = (-4, ranA A i sc) := by unfold deriveF; rw [if_neg hd, if_neg hb, if_neg (fun z => z hz), if_neg hh, if_pos hge]
                rw [hF] at hQ
                refine x_bipush (q := 112) (v := -4) F dX6_derive_110 rfl (by decide) ?_
                refine x_iret F dX6_derive_112 (xle rfl) (xle rfl) ?_
                exact hQ ad h2 hC2 hfr2
            · exact absurd c95 (by decide)
          · exact absurd rfl c71
        · have hF : deriveF A i sc = (-12 - nI (rF (runA A i sc).1), ranA A i sc) := by unfold deriveF; rw [if_neg hd, if_neg hb, if_pos hz]
          rw [hF] at hQ
          refine x_if_eq (q := 74) F 80 dX6_derive_71 (by decide) rfl (fun c71 => ?_) (fun c71 => ?_)
          · exact absurd ((nI_eq (b := 0) (by omega) (by omega)).mp c71) hz
          · refine x_bipush (q := 76) (v := -12) F dX6_derive_74 rfl (by decide) ?_
            refine x_iload (q := 78) F dX6_derive_76 rfl rfl ?_
            refine x_isub (q := 79) F dX6_derive_78 rfl ?_
            refine x_iret F dX6_derive_79 (xle rfl) (xle rfl) ?_
            exact hQ ad h2 hC2 hfr2
      · exact absurd c48 (by decide)
    · exact absurd rfl c30
  · cases c19
end
section
/-! ===== the pure side of what the class's public methods do ===== -/
theorem loopF_fa {nc sz : Nat} {f L V : Nat → Nat} {nk : Nat} : ∀ (k : Nat) (q : RS) (fa : Option Nat) (d : Nat), (∀ x, fa = some x → x < nk) → ∀ x, (loopF nc sz f L V nk k q fa d).2.1 = some x → x < nk := by
  intro k
  induction k with
  | zero => intro q fa d h; exact h
  | succ k ih =>
    intro q fa d h
    unfold loopF
    by_cases z : rP q < nk ∧ rF q = 0
    · rw [if_pos z]
      refine ih _ _ _ (fun x hx => ?_)
      by_cases y : rF (stepF nc sz f (L (rP q)) (V (rP q)) (setP q (rP q + 1))) = 0
      · rw [if_pos y] at hx; exact h x hx
      · rw [if_neg y] at hx; cases hx; exact z.1
    · rw [if_neg z]; exact h
theorem runF_fa {nc sz : Nat} {f L V : Nat → Nat} {nk st : Nat} {out : Nat → Nat} : ∀ x, (runF nc sz f L V nk st out).2.1 = some x → x < nk := by
  intro x
  have h := loopF_fa (nc := nc) (sz := sz) (f := f) (L := L) (V := V) (nk := nk) st (fun _ => 0, 0, out, 0, 0, 0, 0) none 0 (fun x z => by cases z) x
  unfold runF endF
  by_cases q : rF (loopF nc sz f L V nk st (fun _ => 0, 0, out, 0, 0, 0, 0) none 0).1 = 0 ∧ rP (loopF nc sz f L V nk st (fun _ => 0, 0, out, 0, 0, 0, 0) none 0).1 < nk
  · rw [if_pos q]
    intro z
    cases z
    exact q.2
  · rw [if_neg q]; exact h
theorem ranA_ok {A : AS} (hA : aOK A) {i sc : Nat} (hi : i < aI A) (hs : sc < aS A) : aOK (ranA A i sc) := by
  have hok := runA_ok hA hi hs
  obtain ⟨h1, h2, h3, h4, h5, h6, h7, h8⟩ := hA
  refine ⟨h1, h2, h3, h4, h5, ⟨hok.2.2.1, hok.2.2.2.2.2.2⟩, fun x hx => ?_, h8⟩
  have := runF_fa x hx
  have := (h3.2 sc hs).1
  omega
theorem itmOK_mono {n m i : Nat} {d : ItmD} (h : itmOK n i d) (hm : n ≤ m) : itmOK m i d := ⟨h.1, h.2.1, h.2.2.1, h.2.2.2.1, Nat.lt_of_lt_of_le h.2.2.2.2.1 hm, h.2.2.2.2.2⟩
/-- one item more -/
theorem aOK.push {A : AS} (hA : aOK A) (hlt : aI A < 60) {d : ItmD} (hd : itmOK (aI A + 1) (aI A) d) : aOK (setIt A (aI A + 1, updI (aItm A) (aI A) d)) := by
  obtain ⟨h1, h2, h3, h4, h5, h6, h7, h8⟩ := hA
  refine ⟨h1, h2, h3, ⟨by show aI A + 1 ≤ 60; omega, fun j hj => ?_⟩, h5, h6, h7, h8⟩
  have hj : j < aI A + 1 := hj
  show itmOK (aI A + 1) j (updI (aItm A) (aI A) d j)
  by_cases z : j = aI A
  · subst z; rw [show updI (aItm A) (aI A) d (aI A) = d from if_pos rfl]; exact hd
  · rw [show updI (aItm A) (aI A) d j = aItm A j from if_neg z]; exact itmOK_mono (h4.2 j (by omega)) (by omega)
/-- an item changed -/
theorem aOK.item {A : AS} (hA : aOK A) {i : Nat} {d : ItmD} (hd : itmOK (aI A) i d) : aOK (setIt A (aI A, updI (aItm A) i d)) := by
  obtain ⟨h1, h2, h3, h4, h5, h6, h7, h8⟩ := hA
  refine ⟨h1, h2, h3, ⟨h4.1, fun j hj => ?_⟩, h5, h6, h7, h8⟩
  have hj : j < aI A := hj
  show itmOK (aI A) j (updI (aItm A) i d j)
  by_cases z : j = i
  · subst z; rw [show updI (aItm A) j d j = d from if_pos rfl]; exact hd
  · rw [show updI (aItm A) i d j = aItm A j from if_neg z]; exact h4.2 j hj
theorem newI_ok {A : AS} (hA : aOK A) {i sc : Nat} (hi : i < aI A) (hs : sc < aS A) : itmOK (aI A + 1) (aI A) (newI A i sc) := by
  have hok := runA_ok hA hi hs
  have hS := hA.2.2.1.1
  have hr := (hA.2.2.2.1.2 i hi).2.2.2.2.1
  exact ⟨hok.2.2.1, hok.2.2.2.2.2.2, fun x hx => (by cases hx; exact hi), fun x hx => (by cases hx; omega), (by show iRt (aItm A i) < aI A + 1; omega), fun x hx => (by cases hx), fun z => (by cases z)⟩
/-- what can come of it -/
theorem deriveF_cases {A : AS} (hA : aOK A) {i sc : Nat} (hi : i < aI A) (hs : sc < aS A) : ((deriveF A i sc).1 < 0 ∧ aOK (deriveF A i sc).2 ∧ aI (deriveF A i sc).2 = aI A ∧ aItm (deriveF A i sc).2 = aItm A) ∨ (aI A < 60 ∧ (deriveF A i sc).1 = nI (aI A) ∧ (deriveF A i sc).2 = setIt (ranA A i sc) (aI A + 1, updI (aItm A) (aI A) (newI A i sc)) ∧ aOK (deriveF A i sc).2) := by
  unfold deriveF
  have hfl : rF (runA A i sc).1 ≤ 4 := (runA_ok hA hi hs).2.2.2.2.2.1
  by_cases a1 : hasDerBy A i sc = true
  · rw [if_pos a1]; exact Or.inl ⟨(by show (-11 : Int32) < 0; decide), hA, rfl, rfl⟩
  rw [if_neg a1]
  by_cases a2 : chkB (aScr A sc) (iN (aItm A i)) (iB (aItm A i)) = false
  · rw [if_pos a2]; exact Or.inl ⟨(by show (-12 : Int32) < 0; decide), hA, rfl, rfl⟩
  rw [if_neg a2]
  by_cases a3 : rF (runA A i sc).1 ≠ 0
  · rw [if_pos a3]
    refine Or.inl ⟨?_, ranA_ok hA hi hs, rfl, rfl⟩
    show -12 - nI (rF (runA A i sc).1) < 0
    rcases (show rF (runA A i sc).1 = 0 ∨ rF (runA A i sc).1 = 1 ∨ rF (runA A i sc).1 = 2 ∨ rF (runA A i sc).1 = 3 ∨ rF (runA A i sc).1 = 4 by omega) with z | z | z | z | z <;> rw [z] <;> decide
  rw [if_neg a3]
  by_cases a4 : chkH (aScr A sc) (rNo (runA A i sc).1) (rOut (runA A i sc).1) = false
  · rw [if_pos a4]; exact Or.inl ⟨(by show (-17 : Int32) < 0; decide), ranA_ok hA hi hs, rfl, rfl⟩
  rw [if_neg a4]
  by_cases a5 : 60 ≤ aI A
  · rw [if_pos a5]; exact Or.inl ⟨(by show (-4 : Int32) < 0; decide), ranA_ok hA hi hs, rfl, rfl⟩
  rw [if_neg a5]
  exact Or.inr ⟨by omega, rfl, rfl, (ranA_ok hA hi hs).push (show aI A < 60 by omega) (newI_ok hA hi hs)⟩
/-- what stays of a state when items come -/
def sameS (A B : AS) : Prop := aS B = aS A ∧ aScr B = aScr A ∧ aOb B = aOb A ∧ aMl B = aMl A ∧ aWr B = aWr A
theorem deriveF_same (A : AS) (i sc : Nat) : sameS A (deriveF A i sc).2 := by
  unfold deriveF
  by_cases a1 : hasDerBy A i sc = true
  · rw [if_pos a1]; exact ⟨rfl, rfl, rfl, rfl, rfl⟩
  rw [if_neg a1]
  by_cases a2 : chkB (aScr A sc) (iN (aItm A i)) (iB (aItm A i)) = false
  · rw [if_pos a2]; exact ⟨rfl, rfl, rfl, rfl, rfl⟩
  rw [if_neg a2]
  by_cases a3 : rF (runA A i sc).1 ≠ 0
  · rw [if_pos a3]; exact ⟨rfl, rfl, rfl, rfl, rfl⟩
  rw [if_neg a3]
  by_cases a4 : chkH (aScr A sc) (rNo (runA A i sc).1) (rOut (runA A i sc).1) = false
  · rw [if_pos a4]; exact ⟨rfl, rfl, rfl, rfl, rfl⟩
  rw [if_neg a4]
  by_cases a5 : 60 ≤ aI A
  · rw [if_pos a5]; exact ⟨rfl, rfl, rfl, rfl, rfl⟩
  rw [if_neg a5]; exact ⟨rfl, rfl, rfl, rfl, rfl⟩
def lowB (x : Int32) : Nat := x.toBitVec.toNat % 256
theorem lowB_eq (x : Int32) : x &&& 255 = nI (lowB x) := pk_and x 8 (by decide)
theorem lowB_lt (x : Int32) : lowB x < 256 := Nat.mod_lt _ (by decide)
def ag (x : Int32) : Int32 := if x < 0 then x else 0
def signF (A : AS) (x : Int32) : AS := if aNs A < 200 then setTx A (aNs A + 1, updN (aSg A) (aNs A) (lowB x)) else A
def octetF (A : AS) (x : Int32) : AS := if aCn A < 40 then setCo A (aCn A + 1, updN (aCb A) (aCn A) (lowB x)) else A
def origI (A : AS) : ItmD := ((aCn A, aCb A), (none, none, aI A), (none, false))
def originalF (A : AS) : Int32 × AS := if 60 ≤ aI A then (-4, A) else (nI (aI A), setCo (setIt A (aI A + 1, updI (aItm A) (aI A) (origI A))) (0, aCb A))
def addB (d : ScrD) (k v : Nat) : ScrD := (d.1, (sBn d + 1, updN (sBk d) (sBn d) k, updN (sBv d) (sBn d) v), d.2.2.1, d.2.2.2)
def addH (d : ScrD) (k v : Nat) : ScrD := (d.1, d.2.1, (sHn d + 1, updN (sHk d) (sHn d) k, updN (sHv d) (sHn d) v), d.2.2.2)
def checkF (A : AS) (x : Int32) (bh : Bool) (kd v : Int32) : Int32 × AS := match ixN (aS A) x with
  | none => (-1, A)
  | some s => match ixN 4 kd, ixN 256 v with
    | some k, some w => if bh = true then (if sHn (aScr A s) < 4 then (nI (sHn (aScr A s) + 1), setSc A (aS A, updS (aScr A) s (addH (aScr A s) k w))) else (-4, A)) else (if sBn (aScr A s) < 4 then (nI (sBn (aScr A s) + 1), setSc A (aS A, updS (aScr A) s (addB (aScr A s) k w))) else (-4, A))
    | _, _ => (-2, A)
def migrateF (A : AS) (x y : Int32) : Int32 × AS := match liveN A x, ixN (aS A) y with
  | some i, some sc => ((deriveF A i sc).1, setMl (deriveF A i sc).2 (ag (deriveF A i sc).1))
  | _, _ => (-1, A)
def chainF (A : AS) (x y : Int32) : Int32 × AS := match ixN (aS A) x with
  | none => (-1, A)
  | some s => if y = -1 then (1, setSc A (aS A, updS (aScr A) s (setNx (aScr A s) none))) else match ixN (aS A) y with
    | none => (-1, A)
    | some t => if comesF A s 10 (some t) = true then (-3, A) else (1, setSc A (aS A, updS (aScr A) s (setNx (aScr A s) (some t))))
def goesF : Nat → AS → Nat → Option Nat → Nat × AS
  | 0, A, _, _ => (0, A)
  | _ + 1, A, _, none => (0, A)
  | f + 1, A, i, some sc => if (deriveF A i sc).1 < 0 then (0, setMl (deriveF A i sc).2 (ag (deriveF A i sc).1)) else ((goesF f (setMl (deriveF A i sc).2 (ag (deriveF A i sc).1)) (aI A) (sNx (aScr A sc))).1 + 1, (goesF f (setMl (deriveF A i sc).2 (ag (deriveF A i sc).1)) (aI A) (sNx (aScr A sc))).2)
def goesOnF (A : AS) (x y : Int32) : Int32 × AS := match liveN A x, ixN (aS A) y with
  | some i, some sc => (nI (goesF 10 A i (some sc)).1, (goesF 10 A i (some sc)).2)
  | _, _ => (-1, A)
/-- an item that came joins the batch -/
def joinA (A : AS) (n : Nat) : AS := setIt A (aI A, updI (aItm A) n (setBt (aItm A n) (some (aOb A))))
def batF (sc : Nat) : Nat → Nat → AS → Nat × AS
  | 0, _, A => (0, A)
  | f + 1, n, A => if iFr (aItm A n) = none then (if (deriveF A n sc).1 < 0 then batF sc f (n + 1) (deriveF A n sc).2 else ((batF sc f (n + 1) (joinA (deriveF A n sc).2 (aI A))).1 + 1, (batF sc f (n + 1) (joinA (deriveF A n sc).2 (aI A))).2)) else batF sc f (n + 1) A
def batchF (A : AS) (x : Int32) : Int32 × AS := match ixN (aS A) x with
  | none => (-1, A)
  | some sc => (nI (batF sc (aI A) 0 A).1, if 0 < (batF sc (aI A) 0 A).1 then setOb (batF sc (aI A) 0 A).2 (aOb (batF sc (aI A) 0 A).2 + 1) else (batF sc (aI A) 0 A).2)
def leftA (A : AS) (n : Nat) : AS := setIt A (aI A, updI (aItm A) n (setBt (aItm A n) none))
def goneA (A : AS) (n : Nat) : AS := setIt A (aI A, updI (aItm A) n (setGn (aItm A n) true))
def undF : Nat → AS → Nat × AS
  | 0, A => (0, A)
  | n + 1, A => if iBt (aItm A n) = some (aOb A) then
      (if hasDer (leftA A n) n = true ∨ iGn (aItm (leftA A n) n) = true then undF n (leftA A n) else ((undF n (goneA (leftA A n) n)).1 + 1, (undF n (goneA (leftA A n) n)).2))
    else undF n A
def undoF (A : AS) : Int32 × AS := if aOb A = 0 then (-1, A) else (nI (undF (aI A) (setOb A (aOb A - 1))).1, (undF (aI A) (setOb A (aOb A - 1))).2)
def dropF (A : AS) (x : Int32) : Int32 × AS := match liveN A x with
  | none => (-1, A)
  | some i => if iFr (aItm A i) = none ∨ hasDer A i = true then (-3, A) else (1, goneA A i)
def aboutF (A : AS) (x y : Int32) : Int32 := match ixN (aI A) x with
  | none => -1
  | some i => if y = 0 then nI (iN (aItm A i)) else if y = 1 then optI (iFr (aItm A i)) else if y = 2 then optI (iBy (aItm A i)) else if y = 3 then bI (iGn (aItm A i)) else if y = 4 then nI (iRt (aItm A i)) else -1
def triedF (A : AS) (x : Int32) : Int32 := rowAt (aNo A) (fun j => nI (aOut A j)) x
end
section
/-! ===== the class's public methods ===== -/
theorem pC.text {ad : xAd} {h : xH} {A : AS} (H : pC ad h A) (ns : Nat) (sg lt nu : Nat → Nat) (k : Nat) : pC ad (wT h ad ns sg lt nu k) (setTx A (ns, sg)) := by
  obtain ⟨hM, hT, ⟨c1, c2⟩, ⟨s1, s2, s3⟩, ⟨i1, i2, i3⟩, hR⟩ := H
  have o : ∀ t : Tg, ¬ (2 ≤ t.1 ∧ t.1 ≤ 5) → wT h ad ns sg lt nu k t = h t := by
    intro t ht
    show xup _ (2, 0) _ t = _
    rw [up_ne (fun z => ht (by omega)), up_ne (fun z => ht (by omega)), up_ne (fun z => ht (by omega)), up_ne (fun z => ht (by omega))]
  exact ⟨(o _ (by decide)).trans hM, ⟨lt, nu, k, rfl, rfl, rfl, rfl⟩, ⟨(o _ (by decide)).trans c1, (o _ (by decide)).trans c2⟩, ⟨(o _ (by decide)).trans s1, fun s hs => (s2 s hs).congr (fun k _ _ => o _ (by show ¬ (2 ≤ k ∧ k ≤ 5); omega)), fun k s q1 q2 q3 => (o _ (by show ¬ (2 ≤ k ∧ k ≤ 5); omega)).trans (s3 k s q1 q2 q3)⟩, ⟨(o _ (by decide)).trans i1, fun j hj => (i2 j hj).congr (fun k _ _ => o _ (by show ¬ (2 ≤ k ∧ k ≤ 5); omega)), fun k j q1 q2 q3 => (o _ (by show ¬ (2 ≤ k ∧ k ≤ 5); omega)).trans (i3 k j q1 q2 q3)⟩, hR.congr (fun k _ _ => o _ (by show ¬ (2 ≤ k ∧ k ≤ 5); omega))⟩
theorem wT_fr40 {ad : xAd} {h : xH} {ns : Nat} {sg lt nu : Nat → Nat} {k : Nat} : fr40 h (wT h ad ns sg lt nu k) := by
  intro t ht
  show xup _ (2, 0) _ t = _
  rw [up_ne (by omega), up_ne (by omega), up_ne (by omega), up_ne (by omega)]
theorem pTx.view {ad : xAd} {h : xH} {A : AS} (H : pTx ad h A) : ∃ lt nu k, h = wT h ad (aNs A) (aSg A) lt nu k := by
  obtain ⟨lt, nu, k, a1, a2, a3, a4⟩ := H
  refine ⟨lt, nu, k, ?_⟩
  show h = xup (xup (xup (xup h (3, 0) _) (4, 0) _) (5, 0) _) (2, 0) _
  rw [xup_same h a2, xup_same h a3, xup_same h a4, xup_same h a1]
theorem pC.co {ad : xAd} {h : xH} {A : AS} (H : pC ad h A) {h' : xH} (n : Nat) (f : Nat → Nat) (h6 : h' (6, 0) = some (cRow (ad (7, 0)) (nI n))) (h7 : h' (7, 0) = some (cN 40 f)) (o : ∀ t : Tg, t ≠ (6, 0) → t ≠ (7, 0) → h' t = h t) : pC ad h' (setCo A (n, f)) := by
  obtain ⟨hM, hT, ⟨c1, c2⟩, ⟨s1, s2, s3⟩, ⟨i1, i2, i3⟩, hR⟩ := H
  have o2 : ∀ k i, k ≠ 6 → k ≠ 7 → h' (k, i) = h (k, i) := fun k i q1 q2 => o _ (tg_ne q1 _ _) (tg_ne q2 _ _)
  exact ⟨(o2 1 0 (by omega) (by omega)).trans hM, hT.congr (fun k _ _ => o2 k 0 (by omega) (by omega)), ⟨h6, h7⟩, ⟨(o2 8 0 (by omega) (by omega)).trans s1, fun s hs => (s2 s hs).congr (fun k _ _ => o2 k s (by omega) (by omega)), fun k s q1 q2 q3 => (o2 k s (by omega) (by omega)).trans (s3 k s q1 q2 q3)⟩, ⟨(o2 9 0 (by omega) (by omega)).trans i1, fun j hj => (i2 j hj).congr (fun k _ _ => o2 k j (by omega) (by omega)), fun k j q1 q2 q3 => (o2 k j (by omega) (by omega)).trans (i3 k j q1 q2 q3)⟩, hR.congr (fun k _ _ => o2 k 0 (by omega) (by omega))⟩
theorem pC.main {ad : xAd} {h : xH} {A B : AS} (H : pC ad h A) (e : B.1 = A.1 ∧ B.2.1 = A.2.1 ∧ B.2.2.1 = A.2.2.1 ∧ B.2.2.2.1 = A.2.2.2.1 ∧ B.2.2.2.2.1 = A.2.2.2.2.1 ∧ B.2.2.2.2.2.1 = A.2.2.2.2.2.1 ∧ B.2.2.2.2.2.2.1 = A.2.2.2.2.2.2.1) : pC ad (xup h (1, 0) (cMain ad B)) B := by
  obtain ⟨x1, x2, x3, x4, x5, x6, x7, x8⟩ := A
  obtain ⟨y1, y2, y3, y4, y5, y6, y7, y8⟩ := B
  obtain ⟨e1, e2, e3, e4, e5, e6, e7⟩ := e
  have e1 : y1 = x1 := e1
  have e2 : y2 = x2 := e2
  have e3 : y3 = x3 := e3
  have e4 : y4 = x4 := e4
  have e5 : y5 = x5 := e5
  have e6 : y6 = x6 := e6
  have e7 : y7 = x7 := e7
  subst e1; subst e2; subst e3; subst e4; subst e5; subst e6; subst e7
  obtain ⟨hM, hT, ⟨c1, c2⟩, ⟨s1, s2, s3⟩, ⟨i1, i2, i3⟩, hR⟩ := H
  have o : ∀ k i, k ≠ 1 → xup h (1, 0) (cMain ad (y1, y2, y3, y4, y5, y6, y7, y8)) (k, i) = h (k, i) := fun k i q => up_ne q
  exact ⟨xup_self _ _ _, pTx.congr (A := (y1, y2, y3, y4, y5, y6, y7, y8)) hT (fun k _ _ => o k 0 (by omega)), ⟨(o 6 0 (by omega)).trans c1, (o 7 0 (by omega)).trans c2⟩, ⟨(o 8 0 (by omega)).trans s1, fun s hs => (s2 s hs).congr (fun k _ _ => o k s (by omega)), fun k s q1 q2 q3 => (o k s (by omega)).trans (s3 k s q1 q2 q3)⟩, ⟨(o 9 0 (by omega)).trans i1, fun j hj => (i2 j hj).congr (fun k _ _ => o k j (by omega)), fun k j q1 q2 q3 => (o k j (by omega)).trans (i3 k j q1 q2 q3)⟩, pRn.congr (A := (y1, y2, y3, y4, y5, y6, y7, y8)) hR (fun k _ _ => o k 0 (by omega))⟩
/-- a public call: from the state A, the answer r and the state B -/
def pub (f : AS → List Value → Option (Option Value × AS)) : xSp := fun ad h av Q => ∃ A as r B, pC ad h A ∧ aOK A ∧ av = .ref (ad (1, 0)) :: as ∧ f A as = some (r, B) ∧ ∀ ad' h', pC ad' h' B → fr40 h h' → Q r ad' h'
def p_sign : AS → List Value → Option (Option Value × AS) := fun A as => match as with
  | [.int x] => some (none, signF A x)
  | _ => none
set_option maxRecDepth 100000 in
theorem c_X6_sign : Ct yX6_sign cX6_sign 2 none (xrm 1 0 0) (fun ad h av Q => ∃ A x, pC ad h A ∧ aOK A ∧ av = [.ref (ad (1, 0)), .int x] ∧ ∀ ad' h', pC ad' h' (signF A x) → fr40 h h' → Q none ad' h') := by
  refine Ct.of (by decide) ?_
  intro p l e s m args below meth c0 G ad h av Q F hsp
  obtain ⟨A, x, hC, hA, rfl, hQ⟩ := hsp
  refine ⟨x_ent rfl rfl, ?_⟩
  refine x_ls [(0, .ref (ad (1, 0))), (1, .int x)] rfl ?_
  refine x_aload_n (q := 1) F dX6_sign_0 rfl rfl (by first | exact xref_r | exact xref_n | exact xref_f _ | assumption) ?_
  refine x_get (q := 4) F dX6_sign_1 rfl fs_X6_10 hC.1 rfl ?_
  refine x_iload_n (q := 5) F dX6_sign_4 rfl rfl ?_
  refine x_sipush (q := 8) (v := 255) F dX6_sign_5 rfl (by decide) ?_
  refine x_iand (q := 9) F dX6_sign_8 rfl ?_
  rw [lowB_eq]
  obtain ⟨lt, nu, k, hv⟩ := hC.2.1.view
  refine x_callV1 (q := 12) F (2, 0) c_X5_add dX6_sign_9 rfl mv_X5_add ml_X6_71 ⟨⟨xle rfl, xle rfl⟩, xle rfl, xle rfl⟩ rfl (by rw [hv]; rfl) (xle rfl) ?_
  refine ⟨h, aNs A, aSg A, lt, nu, k, lowB x, hv, rfl, hA.1.1, lowB_lt x, fun _ => ?_⟩
  refine x_vret F dX6_sign_12 (xle rfl) (xle rfl) ?_
  unfold signF at hQ
  by_cases z : aNs A < 200
  · rw [if_pos z] at hQ ⊢
    exact hQ ad _ (hC.text _ _ _ _ _) wT_fr40
  · rw [if_neg z] at hQ ⊢
    rw [← hv]
    exact hQ ad h hC fr40.rf
set_option maxRecDepth 100000 in
theorem c_X6_place : Ct yX6_place cX6_place 1 (some .int) (xrm 0 0 0) (fun ad h av Q => ∃ A, pC ad h A ∧ av = [.ref (ad (1, 0))] ∧ Q (some (.int (optI (aWr A)))) ad h) := by
  refine Ct.of (by decide) ?_
  intro p l e s m args below meth c0 G ad h av Q F hsp
  obtain ⟨A, hC, rfl, hQ⟩ := hsp
  refine ⟨x_ent rfl rfl, ?_⟩
  refine x_aload_n (q := 1) F dX6_place_0 rfl rfl (by first | exact xref_r | exact xref_n | exact xref_f _ | assumption) ?_
  refine x_get (q := 4) F dX6_place_1 rfl fs_X6_47 hC.1 rfl ?_
  refine x_iret F dX6_place_4 (xle rfl) (xle rfl) ?_
  exact hQ
set_option maxRecDepth 100000 in
theorem c_X6_what : Ct yX6_what cX6_what 1 (some .int) (xrm 0 0 0) (fun ad h av Q => ∃ A, pC ad h A ∧ av = [.ref (ad (1, 0))] ∧ Q (some (.int (aMl A))) ad h) := by
  refine Ct.of (by decide) ?_
  intro p l e s m args below meth c0 G ad h av Q F hsp
  obtain ⟨A, hC, rfl, hQ⟩ := hsp
  refine ⟨x_ent rfl rfl, ?_⟩
  refine x_aload_n (q := 1) F dX6_what_0 rfl rfl (by first | exact xref_r | exact xref_n | exact xref_f _ | assumption) ?_
  refine x_get (q := 4) F dX6_what_1 rfl fs_X6_50 hC.1 rfl ?_
  refine x_iret F dX6_what_4 (xle rfl) (xle rfl) ?_
  exact hQ
set_option maxRecDepth 100000 in
theorem c_X6_failed : Ct yX6_failed cX6_failed 1 (some .int) (xrm 0 0 0) (fun ad h av Q => ∃ A, pC ad h A ∧ av = [.ref (ad (1, 0))] ∧ Q (some (.int (optI (aFa A)))) ad h) := by
  refine Ct.of (by decide) ?_
  intro p l e s m args below meth c0 G ad h av Q F hsp
  obtain ⟨A, hC, rfl, hQ⟩ := hsp
  obtain ⟨mem, a, i, p1, fl, r1, r2, r3, r4⟩ := hC.2.2.2.2.2
  refine ⟨x_ent rfl rfl, ?_⟩
  refine x_aload_n (q := 1) F dX6_failed_0 rfl rfl (by first | exact xref_r | exact xref_n | exact xref_f _ | assumption) ?_
  refine x_get (q := 4) F dX6_failed_1 rfl fs_X6_67 hC.1 rfl ?_
  refine x_getN (q := 7) F dX6_failed_4 rfl fn_X6_144 r4 rfl ?_
  refine x_iret F dX6_failed_7 (xle rfl) (xle rfl) ?_
  exact hQ
set_option maxRecDepth 100000 in
theorem c_X6_counted : Ct yX6_counted cX6_counted 1 (some .long) (xrm 0 0 0) (fun ad h av Q => ∃ A, pC ad h A ∧ av = [.ref (ad (1, 0))] ∧ Q (some (.long (lN (aCt A)))) ad h) := by
  refine Ct.of (by decide) ?_
  intro p l e s m args below meth c0 G ad h av Q F hsp
  obtain ⟨A, hC, rfl, hQ⟩ := hsp
  obtain ⟨mem, a, i, p1, fl, r1, r2, r3, r4⟩ := hC.2.2.2.2.2
  refine ⟨x_ent rfl rfl, ?_⟩
  refine x_aload_n (q := 1) F dX6_counted_0 rfl rfl (by first | exact xref_r | exact xref_n | exact xref_f _ | assumption) ?_
  refine x_get (q := 4) F dX6_counted_1 rfl fs_X6_67 hC.1 rfl ?_
  refine x_getN (q := 7) F dX6_counted_4 rfl fn_X6_147 r4 rfl ?_
  refine x_lret F dX6_counted_7 (xle rfl) (xle rfl) ?_
  exact hQ
set_option maxRecDepth 100000 in
theorem c_X6_tried : Ct yX6_tried cX6_tried 2 (some .int) (xrm 1 0 0) (fun ad h av Q => ∃ A x, pC ad h A ∧ aOK A ∧ av = [.ref (ad (1, 0)), .int x] ∧ Q (some (.int (triedF A x))) ad h) := by
  refine Ct.of (by decide) ?_
  intro p l e s m args below meth c0 G ad h av Q F hsp
  obtain ⟨A, x, hC, hA, rfl, hQ⟩ := hsp
  obtain ⟨mem, a, i, p1, fl, r1, r2, r3, r4⟩ := hC.2.2.2.2.2
  refine ⟨x_ent rfl rfl, ?_⟩
  refine x_ls [(0, .ref (ad (1, 0))), (1, .int x)] rfl ?_
  refine x_aload_n (q := 1) F dX6_tried_0 rfl rfl (by first | exact xref_r | exact xref_n | exact xref_f _ | assumption) ?_
  refine x_get (q := 4) F dX6_tried_1 rfl fs_X6_67 hC.1 rfl ?_
  refine x_getN (q := 7) F dX6_tried_4 rfl fn_X6_196 r4 rfl ?_
  refine x_iload_n (q := 8) F dX6_tried_7 rfl rfl ?_
  refine x_callV1 (q := 11) F (12, 0) c_X0_byteAt dX6_tried_8 rfl mv_X0_byteAt ml_X6_188 ⟨⟨xle rfl, xle rfl⟩, xle rfl, xle rfl⟩ rfl r3 (xle rfl) ?_
  refine ⟨(12, 0), (13, 0), aNo A, 40, _, x, rfl, r3, r2, hA.2.2.2.2.2.1.1, by omega, fun _ => ?_⟩
  refine x_iret F dX6_tried_11 (xle rfl) (xle rfl) ?_
  exact hQ
set_option maxRecDepth 100000 in
theorem c_X6_octet : Ct yX6_octet cX6_octet 2 none (xrm 1 0 0) (fun ad h av Q => ∃ A x, pC ad h A ∧ aOK A ∧ av = [.ref (ad (1, 0)), .int x] ∧ ∀ ad' h', pC ad' h' (octetF A x) → fr40 h h' → Q none ad' h') := by
  refine Ct.of (by decide) ?_
  intro p l e s m args below meth c0 G ad h av Q F hsp
  obtain ⟨A, x, hC, hA, rfl, hQ⟩ := hsp
  refine ⟨x_ent rfl rfl, ?_⟩
  refine x_ls [(0, .ref (ad (1, 0))), (1, .int x)] rfl ?_
  refine x_aload_n (q := 1) F dX6_octet_0 rfl rfl (by first | exact xref_r | exact xref_n | exact xref_f _ | assumption) ?_
  refine x_get (q := 4) F dX6_octet_1 rfl fs_X6_21 hC.1 rfl ?_
  refine x_iload_n (q := 5) F dX6_octet_4 rfl rfl ?_
  refine x_sipush (q := 8) (v := 255) F dX6_octet_5 rfl (by decide) ?_
  refine x_iand (q := 9) F dX6_octet_8 rfl ?_
  rw [lowB_eq]
  obtain ⟨c1, c2⟩ := hC.2.2.1
  refine x_callV1 (q := 12) F (6, 0) c_X0_add dX6_octet_9 rfl mv_X0_add ml_X6_93 ⟨⟨xle rfl, xle rfl⟩, xle rfl, xle rfl⟩ rfl c1 (xle rfl) ?_
  unfold octetF at hQ
  refine ⟨(6, 0), (7, 0), aCn A, 40, _, _, rfl, c1, c2, by decide, by omega, hA.2.1.1, fun z _ => ?_, fun z _ => ?_⟩
  · rw [if_neg (by omega)] at hQ
    refine x_pop (q := 13) F dX6_octet_12 rfl rfl ?_
    refine x_vret F dX6_octet_13 (xle rfl) (xle rfl) ?_
    exact hQ ad h hC fr40.rf
  · rw [if_pos z] at hQ
    refine x_pop (q := 13) F dX6_octet_12 rfl rfl ?_
    refine x_vret F dX6_octet_13 (xle rfl) (xle rfl) ?_
    refine hQ ad _ (hC.co _ _ rfl ?_ (fun t q1 q2 => ?_)) (fun t ht => ?_)
    · rw [upd_N]; rfl
    · rw [xup_ne _ _ q1, xup_ne _ _ q2]
    · rw [up_ne (by omega), up_ne (by omega)]
set_option maxRecDepth 100000 in
set_option maxHeartbeats 2000000 in
theorem c_X6_original : Ct yX6_original cX6_original 2 (some .int) (xrm 3 3 48) (fun ad h av Q => ∃ A, pC ad h A ∧ aOK A ∧ av = [.ref (ad (1, 0))] ∧ ∀ ad' h', pC ad' h' (originalF A).2 → fr40 h h' → Q (some (.int (originalF A).1)) ad' h') := by
  refine Ct.of (by decide) ?_
  intro p l e s m args below meth c0 G ad h av Q F hsp
  obtain ⟨A, hC, hA, rfl, hQ⟩ := hsp
  have hnI := hA.2.2.2.1.1
  refine ⟨x_ent rfl rfl, ?_⟩
  refine x_ls [(0, .ref (ad (1, 0)))] rfl ?_
  refine x_aload_n (q := 1) F dX6_original_0 rfl rfl (by first | exact xref_r | exact xref_n | exact xref_f _ | assumption) ?_
  refine x_get (q := 4) F dX6_original_1 rfl fs_X6_41 hC.1 rfl ?_
  refine x_bipush (q := 6) (v := 60) F dX6_original_4 rfl (by decide) ?_
  refine x_icmp_lt (q := 9) F 12 dX6_original_6 (by decide) rfl (fun c6 => ?_) (fun c6 => ?_)
  · have hlt : aI A < 60 := (nI_ltI (a := aI A) (b := 60) (by omega) (by omega)).mp c6
    have hF : originalF A = (nI (aI A), setCo (setIt A (aI A + 1, updI (aItm A) (aI A) (origI A))) (0, aCb A)) := if_neg (by omega)
    rw [hF] at hQ
    have n30 : h (30, aI A) = none := hC.2.2.2.2.1.2.2 30 (aI A) (by omega) (by omega) (Nat.le_refl _)
    have n31 : h (31, aI A) = none := hC.2.2.2.2.1.2.2 31 (aI A) (by omega) (by omega) (Nat.le_refl _)
    have n32 : h (32, aI A) = none := hC.2.2.2.2.1.2.2 32 (aI A) (by omega) (by omega) (Nat.le_refl _)
    refine x_aload_n (q := 13) F dX6_original_12 rfl rfl (by first | exact xref_r | exact xref_n | exact xref_f _ | assumption) ?_
    refine x_new (q := 16) F (30, aI A) [.null, .int 0, .int 0, .int 0, .int 0, .int 0] dX6_original_13 rfl (ci := 2) rfl ⟨cl_X6_31, im_X2, iz_X2⟩ n30 df_X2 (xle rfl) (xle rfl) (fun ad1 E1 => ?_)
    have E1' : ∀ {k j : Nat}, k ≠ 30 → ad1 (k, j) = ad (k, j) := fun q => E1 _ (tg_ne q _ _)
    rw [← E1' (k := 1) (by decide)]
    have hC3 := hC.move (ad' := ad1) (fun t ht => E1 t (fun z => ht (by rw [z]; exact n30)))
    obtain ⟨c1, c2⟩ := hC3.2.2.1
    refine x_dup (q := 17) F dX6_original_16 rfl rfl ?_
    refine x_aload_n (q := 18) F dX6_original_17 rfl rfl (by first | exact xref_r | exact xref_n | exact xref_f _ | assumption) ?_
    refine x_get (q := 21) F dX6_original_18 rfl fs_X6_21 (xk hC3.1) rfl ?_
    refine x_callV0 (q := 24) F (6, 0) c_X0_copy dX6_original_21 rfl mv_X0_copy ml_X6_96 ⟨⟨xle rfl, xle rfl⟩, xle rfl, xle rfl⟩ rfl (xk c1) (xle rfl) ?_
    refine ⟨(6, 0), (7, 0), (31, aI A), (32, aI A), aCn A, 40, _, rfl, xk c1, xk c2, hA.2.1.1, by omega, xkn n31, xkn n32, tg_ne (by decide) _ _, fun ad2 g E2 hgg _ => ?_⟩
    have E2' : ∀ {k j : Nat}, k ≠ 31 → k ≠ 32 → ad2 (k, j) = ad1 (k, j) := fun q q' => E2 _ (tg_ne q _ _) (tg_ne q' _ _)
    rw [← E2' (k := 1) (by decide) (by decide), ← E2' (k := 30) (by decide) (by decide)]
    have hC4 := hC3.move (ad' := ad2) (fun t ht => E2 t (fun z => ht (by rw [z]; exact n31)) (fun z => ht (by rw [z]; exact n32)))
    refine x_h (xup_comm _ _ _ (tg_ne (a := 32) (b := 31) (by decide) _ _)) ?_
    refine x_cell (g := fun j => nI (aCb A j)) (fun j hj => hgg j hj) ?_
    refine x_iconst (q := 25) (v := -1) F dX6_original_24 rfl (by decide) ?_
    refine x_iconst (q := 26) (v := -1) F dX6_original_25 rfl (by decide) ?_
    refine x_aload_n (q := 27) F dX6_original_26 rfl rfl (by first | exact xref_r | exact xref_n | exact xref_f _ | assumption) ?_
    refine x_get (q := 30) F dX6_original_27 rfl fs_X6_41 (xk (xk (xk hC4.1))) rfl ?_
    refine x_callI4 (q := 33) F (30, aI A) c_X2_init dX6_original_30 rfl mi_X2_init ml_X6_100 ⟨⟨xle rfl, xle rfl⟩, xle rfl, xle rfl⟩ (xle rfl) ?_
    refine ⟨(30, aI A), (31, aI A), _, _, _, rfl, xk (xk (xup_self _ _ _)), fun _ => ?_⟩
    refine x_callV1 (q := 36) F (1, 0) c_X6_keep dX6_original_33 rfl mv_X6_keep ml_X6_103 ⟨⟨xle rfl, xle rfl⟩, xle rfl, xle rfl⟩ rfl (xk (xk (xk (xk hC4.1)))) (xle rfl) ?_
    refine ⟨A, _, xk (xk (xk (xk hC4.1))), xk (xk (xk (xk hC4.2.2.2.2.1.1))), hlt, xup_self _ _ _, rfl, fun _ => ?_⟩
    have hC5 : pC ad2 _ (setIt A (aI A + 1, updI (aItm A) (aI A) (origI A))) := hC4.push (d := origI A) (h' := xup (xup (xup (xup (xup (xup h (30, aI A) (.inr (2, [.null, .int 0, .int 0, .int 0, .int 0, .int 0]))) (31, aI A) (cRow (ad2 (32, aI A)) (nI (aCn A)))) (32, aI A) (cN (aCn A) (aCb A))) (30, aI A) (cItem (ad2 (31, aI A)) (-1) (-1) (nI (aI A)) (-1) false)) (9, 0) (cQ 5 60 (refN ad2 30 (aI A + 1)))) (1, 0) (cMain ad2 (setIt A (aI A + 1, aItm A)))) (xup_self _ _ _) (xk (xup_self _ _ _)) ⟨xk (xk (xup_self _ _ _)), xk (xk (xk (xk (xup_self _ _ _)))), xk (xk (xk (xup_self _ _ _)))⟩ (fun t r1 r2 r3 => by
      have z : ∀ k, 30 ≤ k → k ≤ 32 → t ≠ (k, aI A) := fun k z1 z2 w => r3 (by rw [w]; exact ⟨z1, z2, rfl⟩)
      rw [xup_ne _ _ r1, xup_ne _ _ r2, xup_ne _ _ (show t ≠ (30, aI A) from z 30 (by omega) (by omega)), xup_ne _ _ (z 32 (by omega) (by omega)), xup_ne _ _ (z 31 (by omega) (by omega)), xup_ne _ _ (z 30 (by omega) (by omega))])
    have hfr5 : fr40 h (xup (xup (xup (xup (xup (xup h (30, aI A) (.inr (2, [.null, .int 0, .int 0, .int 0, .int 0, .int 0]))) (31, aI A) (cRow (ad2 (32, aI A)) (nI (aCn A)))) (32, aI A) (cN (aCn A) (aCb A))) (30, aI A) (cItem (ad2 (31, aI A)) (-1) (-1) (nI (aI A)) (-1) false)) (9, 0) (cQ 5 60 (refN ad2 30 (aI A + 1)))) (1, 0) (cMain ad2 (setIt A (aI A + 1, aItm A)))) := fun t ht => by
      rw [up_ne (by omega), up_ne (by omega), up_ne (by omega), up_ne (by omega), up_ne (by omega), up_ne (by omega)]
    refine x_h (h2 := xup (xup (xup (xup (xup (xup h (30, aI A) (.inr (2, [.null, .int 0, .int 0, .int 0, .int 0, .int 0]))) (31, aI A) (cRow (ad2 (32, aI A)) (nI (aCn A)))) (32, aI A) (cN (aCn A) (aCb A))) (30, aI A) (cItem (ad2 (31, aI A)) (-1) (-1) (nI (aI A)) (-1) false)) (9, 0) (cQ 5 60 (refN ad2 30 (aI A + 1)))) (1, 0) (cMain ad2 (setIt A (aI A + 1, aItm A)))) rfl ?_
    generalize xup (xup (xup (xup (xup (xup h (30, aI A) (.inr (2, [.null, .int 0, .int 0, .int 0, .int 0, .int 0]))) (31, aI A) (cRow (ad2 (32, aI A)) (nI (aCn A)))) (32, aI A) (cN (aCn A) (aCb A))) (30, aI A) (cItem (ad2 (31, aI A)) (-1) (-1) (nI (aI A)) (-1) false)) (9, 0) (cQ 5 60 (refN ad2 30 (aI A + 1)))) (1, 0) (cMain ad2 (setIt A (aI A + 1, aItm A))) = h5 at hC5 hfr5 ⊢
    obtain ⟨d1, d2⟩ := hC5.2.2.1
    refine x_istore_n (q := 37) F dX6_original_36 rfl (by decide) ?_
    refine x_aload_n (q := 38) F dX6_original_37 rfl rfl (by first | exact xref_r | exact xref_n | exact xref_f _ | assumption) ?_
    refine x_get (q := 41) F dX6_original_38 rfl fs_X6_21 hC5.1 rfl ?_
    refine x_callV0 (q := 44) F (6, 0) c_X0_clear dX6_original_41 rfl mv_X0_clear ml_X6_107 ⟨⟨xle rfl, xle rfl⟩, xle rfl, xle rfl⟩ rfl d1 (xle rfl) ?_
    refine ⟨(6, 0), _, _, rfl, d1, fun _ => ?_⟩
    refine x_iload_n (q := 45) F dX6_original_44 rfl rfl ?_
    refine x_iret F dX6_original_45 (xle rfl) (xle rfl) ?_
    refine hQ ad2 _ (hC5.co 0 (aCb A) (xup_self _ _ _) (xk d2) (fun t q1 q2 => xup_ne _ _ q1)) (hfr5.tr (fr40.up (by decide)))
  · have hge : 60 ≤ aI A := by
      rcases Nat.lt_or_ge (aI A) 60 with q | q
      · exact absurd ((nI_ltI (a := aI A) (b := 60) (by omega) (by omega)).mpr q) c6
      · exact q
    have hF : originalF A = (-4, A) := if_pos hge
    rw [hF] at hQ
    refine x_bipush (q := 11) (v := -4) F dX6_original_9 rfl (by decide) ?_
    refine x_iret F dX6_original_11 (xle rfl) (xle rfl) ?_
    exact hQ ad h hC fr40.rf
end
section
/-! ===== the class's public methods, on ===== -/
theorem pC.script {ad : xAd} {h h' : xH} {A : AS} (H : pC ad h A) {s : Nat} {d : ScrD} (hd : pScr ad h' s d) (o : ∀ t : Tg, ¬ (20 ≤ t.1 ∧ t.1 ≤ 28 ∧ t.2 = s) → h' t = h t) (hs : s < aS A) : pC ad h' (setSc A (aS A, updS (aScr A) s d)) := by
  obtain ⟨hM, hT, ⟨c1, c2⟩, ⟨s1, s2, s3⟩, ⟨i1, i2, i3⟩, hR⟩ := H
  have o2 : ∀ k i, (k < 20 ∨ 28 < k) → h' (k, i) = h (k, i) := fun k i q => o _ (fun z => by have := z.1; have := z.2.1; omega)
  refine ⟨(o2 1 0 (by omega)).trans hM, hT.congr (fun k _ _ => o2 k 0 (by omega)), ⟨(o2 6 0 (by omega)).trans c1, (o2 7 0 (by omega)).trans c2⟩, ⟨(o2 8 0 (by omega)).trans s1, fun j hj => ?_, fun k j q1 q2 q3 => ?_⟩, ⟨(o2 9 0 (by omega)).trans i1, fun j hj => (i2 j hj).congr (fun k _ _ => o2 k j (by omega)), fun k j q1 q2 q3 => (o2 k j (by omega)).trans (i3 k j q1 q2 q3)⟩, hR.congr (fun k _ _ => o2 k 0 (by omega))⟩
  · have hj : j < aS A := hj
    by_cases z : j = s
    · subst z
      show pScr ad h' j (updS (aScr A) j d j)
      rw [show updS (aScr A) j d j = d from if_pos rfl]
      exact hd
    · show pScr ad h' j (updS (aScr A) s d j)
      rw [show updS (aScr A) s d j = aScr A j from if_neg z]
      exact (s2 j hj).congr (fun k _ _ => o _ (fun w => z w.2.2))
  · have q3 : aS A ≤ j := q3
    rw [o (k, j) (fun w => by have : j = s := w.2.2; omega)]
    exact s3 k j q1 q2 q3
theorem i32_lt {a b : Int32} (h : a.toInt < b.toInt) : a < b := Int32.lt_iff_toInt_lt.mpr h
theorem i32_gt4 {n : Nat} {x c : Int32} (h : nI (n + 1) ≤ x) (hn : n < 2 ^ 30) (hc : c = nI n) : c < x := by
  subst hc
  apply i32_lt
  have h1 := Int32.le_iff_toInt_le.mp h
  rw [nI_toInt (by omega)] at h1
  rw [nI_toInt (by omega)]
  omega
set_option maxRecDepth 100000 in
set_option maxHeartbeats 2000000 in
theorem c_X6_check : Ct yX6_check cX6_check 6 (some .int) (xrm 1 0 0) (fun ad h av Q => ∃ A x bh kd v, pC ad h A ∧ aOK A ∧ av = [.ref (ad (1, 0)), .int x, .int (bI bh), .int kd, .int v] ∧ ∀ ad' h', pC ad' h' (checkF A x bh kd v).2 → fr40 h h' → Q (some (.int (checkF A x bh kd v).1)) ad' h') := by
  refine Ct.of (by decide) ?_
  intro p l e s m args below meth c0 G ad h av Q F hsp
  obtain ⟨A, x, bh, kd, v, hC, hA, rfl, hQ⟩ := hsp
  have hnS := hA.2.2.1.1
  refine ⟨x_ent rfl rfl, ?_⟩
  refine x_ls [(0, .ref (ad (1, 0))), (1, .int x), (2, .int (bI bh)), (3, .int kd), (4, .int v)] rfl ?_
  refine x_aload_n (q := 1) F dX6_check_0 rfl rfl (by first | exact xref_r | exact xref_n | exact xref_f _ | assumption) ?_
  refine x_iload_n (q := 2) F dX6_check_1 rfl rfl ?_
  refine x_callV1 (q := 5) F (1, 0) c_X6_scriptOf dX6_check_2 rfl mv_X6_scriptOf ml_X6_108 ⟨⟨xle rfl, xle rfl⟩, xle rfl, xle rfl⟩ rfl hC.1 (xle rfl) ?_
  refine ⟨A, x, hC, hA, rfl, fun _ => ?_⟩
  cases hx : ixN (aS A) x with
  | none =>
    rw [show scrV ad A x = .null by unfold scrV; rw [hx]; rfl]
    have hF : checkF A x bh kd v = (-1, A) := by unfold checkF; rw [hx]
    rw [hF] at hQ
    refine x_astore (q := 7) F dX6_check_5 rfl (by decide) (by first | exact xref_r | exact xref_n | exact xref_f _ | assumption) ?_
    refine x_aload (q := 9) F dX6_check_7 rfl rfl (by first | exact xref_r | exact xref_n | exact xref_f _ | assumption) ?_
    refine x_ifnonnull (q := 12) F 14 dX6_check_9 (by decide) rfl (by first | exact xref_r | exact xref_n | exact xref_f _ | assumption) (fun a9 c9 => ?_) (fun c9 => ?_)
    · cases c9
    · refine x_iconst (q := 13) (v := -1) F dX6_check_12 rfl (by decide) ?_
      refine x_iret F dX6_check_13 (xle rfl) (xle rfl) ?_
      exact hQ ad h hC fr40.rf
  | some sc =>
    obtain ⟨hs, rfl⟩ := ixN_some (by omega) hx
    rw [show scrV ad A (nI sc) = .ref (ad (20, sc)) by unfold scrV; rw [hx]; rfl]
    obtain ⟨S1, S2, S3, S4, S5, S6, S7, S8, S9⟩ := hC.2.2.2.1.2.1 sc hs
    obtain ⟨o1, o2, o3, o4, o5, o6, o7⟩ := hA.2.2.1.2 sc hs
    refine x_astore (q := 7) F dX6_check_5 rfl (by decide) (by first | exact xref_r | exact xref_n | exact xref_f _ | assumption) ?_
    refine x_aload (q := 9) F dX6_check_7 rfl rfl (by first | exact xref_r | exact xref_n | exact xref_f _ | assumption) ?_
    refine x_ifnonnull (q := 12) F 14 dX6_check_9 (by decide) rfl (by first | exact xref_r | exact xref_n | exact xref_f _ | assumption) (fun a9 c9 => ?_) (fun c9 => ?_)
    · refine x_ls [(0, .ref (ad (1, 0))), (1, .int (nI sc)), (2, .int (bI bh)), (3, .int kd), (4, .int v), (5, .ref (ad (20, sc)))] rfl ?_
      have bad : (ixN 4 kd = none ∨ ixN 256 v = none) → xX p l e (xrm 1 0 0) s m args below meth c0 G ad h 6 (xZ below G ad h Q args s (xrm 1 0 0)) 36 [(0, .ref (ad (1, 0))), (1, .int (nI sc)), (2, .int (bI bh)), (3, .int kd), (4, .int v), (5, .ref (ad (20, sc)))] [] ad h 0 0 := by
        intro hz
        have hF : checkF A (nI sc) bh kd v = (-2, A) := by
          unfold checkF
          rw [hx]
          rcases hz with hz | hz
          · simp only [hz]
          · cases hk : ixN 4 kd <;> simp only [hz]
        rw [hF] at hQ
        refine x_bipush (q := 38) (v := -2) F dX6_check_36 rfl (by decide) ?_
        refine x_iret F dX6_check_38 (xle rfl) (xle rfl) ?_
        exact hQ ad h hC fr40.rf
      refine x_iload_n (q := 15) F dX6_check_14 rfl rfl ?_
      rcases pk_ix kd (n := 4) (by omega) with zk | zk | ⟨k, hk, rfl⟩
      · refine x_if_lt (q := 18) F 36 dX6_check_15 (by decide) rfl (fun c15 => ?_) (fun c15 => ?_)
        · exact bad (Or.inl (ixN_neg zk))
        · exact absurd zk c15
      · refine x_if_lt (q := 18) F 36 dX6_check_15 (by decide) rfl (fun c15 => ?_) (fun c15 => ?_)
        · exact bad (Or.inl (ixN_neg c15))
        · refine x_iload_n (q := 19) F dX6_check_18 rfl rfl ?_
          refine x_iconst (q := 20) (v := 3) F dX6_check_19 rfl (by decide) ?_
          refine x_icmp_gt (q := 23) F 36 dX6_check_20 (by decide) rfl (fun c20 => ?_) (fun c20 => ?_)
          · exact bad (Or.inl (ixN_ge (by omega) zk))
          · exact absurd (i32_gt4 (n := 3) zk (by omega) rfl) c20
      · refine x_if_lt (q := 18) F 36 dX6_check_15 (by decide) rfl (fun c15 => ?_) (fun c15 => ?_)
        · exact absurd c15 (nI_pos (by omega))
        · refine x_iload_n (q := 19) F dX6_check_18 rfl rfl ?_
          refine x_iconst (q := 20) (v := 3) F dX6_check_19 rfl (by decide) ?_
          refine x_icmp_gt (q := 23) F 36 dX6_check_20 (by decide) rfl (fun c20 => ?_) (fun c20 => ?_)
          · exact absurd ((nI_ltI (a := 3) (b := k) (by omega) (by omega)).mp c20) (by omega)
          · refine x_iload (q := 25) F dX6_check_23 rfl rfl ?_
            rcases pk_ix v (n := 256) (by omega) with zv | zv | ⟨w, hw, rfl⟩
            · refine x_if_lt (q := 28) F 36 dX6_check_25 (by decide) rfl (fun c25 => ?_) (fun c25 => ?_)
              · exact bad (Or.inr (ixN_neg zv))
              · exact absurd zv c25
            · refine x_if_lt (q := 28) F 36 dX6_check_25 (by decide) rfl (fun c25 => ?_) (fun c25 => ?_)
              · exact bad (Or.inr (ixN_neg c25))
              · refine x_iload (q := 30) F dX6_check_28 rfl rfl ?_
                refine x_sipush (q := 33) (v := 255) F dX6_check_30 rfl (by decide) ?_
                refine x_icmp_le (q := 36) F 39 dX6_check_33 (by decide) rfl (fun c33 => ?_) (fun c33 => ?_)
                · exact absurd (i32_gt4 (n := 255) zv (by omega) rfl) (Int32.not_lt.mpr c33)
                · exact bad (Or.inr (ixN_ge (by omega) zv))
            · refine x_if_lt (q := 28) F 36 dX6_check_25 (by decide) rfl (fun c25 => ?_) (fun c25 => ?_)
              · exact absurd c25 (nI_pos (by omega))
              · refine x_iload (q := 30) F dX6_check_28 rfl rfl ?_
                refine x_sipush (q := 33) (v := 255) F dX6_check_30 rfl (by decide) ?_
                refine x_icmp_le (q := 36) F 39 dX6_check_33 (by decide) rfl (fun c33 => ?_) (fun c33 => ?_)
                · refine x_iload_n (q := 40) F dX6_check_39 rfl rfl ?_
                  have hk4 : ixN 4 (nI k) = some k := ixN_nI hk (by omega)
                  have hw4 : ixN 256 (nI w) = some w := ixN_nI hw (by omega)
                  cases bh with
                  | false =>
                    have hF : checkF A (nI sc) false (nI k) (nI w) = if sBn (aScr A sc) < 4 then (nI (sBn (aScr A sc) + 1), setSc A (aS A, updS (aScr A) sc (addB (aScr A sc) k w))) else (-4, A) := by
                      unfold checkF; rw [hx, hk4, hw4]; rfl
                    rw [hF] at hQ
                    refine x_if_eq (q := 43) F 57 dX6_check_40 (by decide) rfl (fun c40 => ?_) (fun c40 => ?_)
                    · refine x_aload (q := 59) F dX6_check_57 rfl rfl (by first | exact xref_r | exact xref_n | exact xref_f _ | assumption) ?_
                      refine x_getN (q := 62) F dX6_check_59 rfl fn_X6_120 S1 rfl ?_
                      refine x_iload_n (q := 63) F dX6_check_62 rfl rfl ?_
                      refine x_iload (q := 65) F dX6_check_63 rfl rfl ?_
                      refine x_callV2 (q := 68) F (23, sc) c_X1_add dX6_check_65 rfl mv_X1_add ml_X6_116 ⟨⟨xle rfl, xle rfl⟩, xle rfl, xle rfl⟩ rfl S4 (xle rfl) ?_
                      refine ⟨(23, sc), (25, sc), (26, sc), sBn (aScr A sc), _, _, _, _, rfl, S4, S6, S7, tg_ne (by decide) _ _, tg_ne (by decide) _ _, tg_ne (by decide) _ _, o3, fun z _ => ?_, fun z _ => ?_⟩
                      · rw [if_neg (by omega)] at hQ
                        refine x_iret F dX6_check_68 (xle rfl) (xle rfl) ?_
                        exact hQ ad h hC fr40.rf
                      · rw [if_pos z] at hQ
                        refine x_iret F dX6_check_68 (xle rfl) (xle rfl) ?_
                        refine hQ ad _ (hC.script (s := sc) (d := addB (aScr A sc) k w) ⟨xk (xk (xk S1)), xk (xk (xk S2)), xk (xk (xk S3)), xup_self _ _ _, xk (xk (xk S5)), ?_, ?_, xk (xk (xk S8)), xk (xk (xk S9))⟩ (fun t ht => ?_) hs) (fun t ht => ?_)
                        · rw [upd_N, upd_N]; exact xk (xk (xup_self _ _ _))
                        · rw [upd_N, upd_N]; exact xk (xup_self _ _ _)
                        · have z : ∀ k, 20 ≤ k → k ≤ 28 → t ≠ (k, sc) := fun k z1 z2 w => ht (by rw [w]; exact ⟨z1, z2, rfl⟩)
                          rw [xup_ne _ _ (z 23 (by omega) (by omega)), xup_ne _ _ (z 26 (by omega) (by omega)), xup_ne _ _ (z 25 (by omega) (by omega))]
                        · rw [up_ne (by omega), up_ne (by omega), up_ne (by omega)]
                    · exact absurd rfl c40
                  | true =>
                    have hF : checkF A (nI sc) true (nI k) (nI w) = if sHn (aScr A sc) < 4 then (nI (sHn (aScr A sc) + 1), setSc A (aS A, updS (aScr A) sc (addH (aScr A sc) k w))) else (-4, A) := by
                      unfold checkF; rw [hx, hk4, hw4]; rfl
                    rw [hF] at hQ
                    refine x_if_eq (q := 43) F 57 dX6_check_40 (by decide) rfl (fun c40 => ?_) (fun c40 => ?_)
                    · exact absurd c40 (by decide)
                    · refine x_aload (q := 45) F dX6_check_43 rfl rfl (by first | exact xref_r | exact xref_n | exact xref_f _ | assumption) ?_
                      refine x_getN (q := 48) F dX6_check_45 rfl fn_X6_112 S1 rfl ?_
                      refine x_iload_n (q := 49) F dX6_check_48 rfl rfl ?_
                      refine x_iload (q := 51) F dX6_check_49 rfl rfl ?_
                      refine x_callV2 (q := 54) F (24, sc) c_X1_add dX6_check_51 rfl mv_X1_add ml_X6_116 ⟨⟨xle rfl, xle rfl⟩, xle rfl, xle rfl⟩ rfl S5 (xle rfl) ?_
                      refine ⟨(24, sc), (27, sc), (28, sc), sHn (aScr A sc), _, _, _, _, rfl, S5, S8, S9, tg_ne (by decide) _ _, tg_ne (by decide) _ _, tg_ne (by decide) _ _, o5, fun z _ => ?_, fun z _ => ?_⟩
                      · rw [if_neg (by omega)] at hQ
                        refine x_goto F 68 dX6_check_54 (by decide) ?_
                        refine x_iret F dX6_check_68 (xle rfl) (xle rfl) ?_
                        exact hQ ad h hC fr40.rf
                      · rw [if_pos z] at hQ
                        refine x_goto F 68 dX6_check_54 (by decide) ?_
                        refine x_iret F dX6_check_68 (xle rfl) (xle rfl) ?_
                        refine hQ ad _ (hC.script (s := sc) (d := addH (aScr A sc) k w) ⟨xk (xk (xk S1)), xk (xk (xk S2)), xk (xk (xk S3)), xk (xk (xk S4)), xup_self _ _ _, xk (xk (xk S6)), xk (xk (xk S7)), ?_, ?_⟩ (fun t ht => ?_) hs) (fun t ht => ?_)
                        · rw [upd_N, upd_N]; exact xk (xk (xup_self _ _ _))
                        · rw [upd_N, upd_N]; exact xk (xup_self _ _ _)
                        · have z : ∀ k, 20 ≤ k → k ≤ 28 → t ≠ (k, sc) := fun k z1 z2 w => ht (by rw [w]; exact ⟨z1, z2, rfl⟩)
                          rw [xup_ne _ _ (z 24 (by omega) (by omega)), xup_ne _ _ (z 28 (by omega) (by omega)), xup_ne _ _ (z 27 (by omega) (by omega))]
                        · rw [up_ne (by omega), up_ne (by omega), up_ne (by omega)]
                · exact absurd ((nI_leI (a := w) (b := 255) (by omega) (by omega)).mpr (by omega)) c33
    · cases c9
theorem scrV_none {ad : xAd} {A : AS} {x : Int32} (h : ixN (aS A) x = none) : scrV ad A x = .null := by unfold scrV; rw [h]; rfl
theorem scrV_some {ad : xAd} {A : AS} {x : Int32} {s : Nat} (h : ixN (aS A) x = some s) : scrV ad A x = .ref (ad (20, s)) := by unfold scrV; rw [h]; rfl
theorem itmV_none {ad : xAd} {A : AS} {x : Int32} (h : ixN (aI A) x = none) : itmV ad A x = .null := by unfold itmV; rw [h]; rfl
theorem itmV_some {ad : xAd} {A : AS} {x : Int32} {s : Nat} (h : ixN (aI A) x = some s) : itmV ad A x = .ref (ad (30, s)) := by unfold itmV; rw [h]; rfl
theorem liveV_none {ad : xAd} {A : AS} {x : Int32} (h : liveN A x = none) : liveV ad A x = .null := by unfold liveV; rw [h]; rfl
theorem liveV_some {ad : xAd} {A : AS} {x : Int32} {s : Nat} (h : liveN A x = some s) : liveV ad A x = .ref (ad (30, s)) := by unfold liveV; rw [h]; rfl
theorem pC.ml {ad : xAd} {h : xH} {A : AS} (H : pC ad h A) (v : Int32) : pC ad (xup h (1, 0) (cMain ad (setMl A v))) (setMl A v) := H.main ⟨rfl, rfl, rfl, rfl, rfl, rfl, rfl⟩
set_option maxRecDepth 100000 in
set_option maxHeartbeats 2000000 in
theorem c_X6_migrate : Ct yX6_migrate cX6_migrate 4 (some .int) (xrm 5 3 48) (fun ad h av Q => ∃ A x y, pC ad h A ∧ aOK A ∧ av = [.ref (ad (1, 0)), .int x, .int y] ∧ ∀ ad' h', pC ad' h' (migrateF A x y).2 → fr40 h h' → Q (some (.int (migrateF A x y).1)) ad' h') := by
  refine Ct.of (by decide) ?_
  intro p l e s m args below meth c0 G ad h av Q F hsp
  obtain ⟨A, x, y, hC, hA, rfl, hQ⟩ := hsp
  have hnS := hA.2.2.1.1
  refine ⟨x_ent rfl rfl, ?_⟩
  refine x_ls [(0, .ref (ad (1, 0))), (1, .int x), (2, .int y)] rfl ?_
  have bad : (liveN A x = none ∨ ixN (aS A) y = none) → xX p l e (xrm 5 3 48) s m args below meth c0 G ad h 4 (xZ below G ad h Q args s (xrm 5 3 48)) 16 [(0, .ref (ad (1, 0))), (1, .int x), (2, .int y)] [] ad h 0 0 := by
    intro hz
    have hF : migrateF A x y = (-1, A) := by
      unfold migrateF
      rcases hz with hz | hz
      · rw [hz]
      · rw [hz]; cases liveN A x <;> rfl
    rw [hF] at hQ
    refine x_iconst (q := 17) (v := -1) F dX6_migrate_16 rfl (by decide) ?_
    refine x_iret F dX6_migrate_17 (xle rfl) (xle rfl) ?_
    exact hQ ad h hC fr40.rf
  refine x_aload_n (q := 1) F dX6_migrate_0 rfl rfl (by first | exact xref_r | exact xref_n | exact xref_f _ | assumption) ?_
  refine x_iload_n (q := 2) F dX6_migrate_1 rfl rfl ?_
  refine x_callV1 (q := 5) F (1, 0) c_X6_liveItem dX6_migrate_2 rfl mv_X6_liveItem ml_X6_123 ⟨⟨xle rfl, xle rfl⟩, xle rfl, xle rfl⟩ rfl hC.1 (xle rfl) ?_
  refine ⟨A, x, hC, hA, rfl, fun _ => ?_⟩
  cases hx : liveN A x with
  | none =>
    rw [liveV_none hx]
    refine x_ifnull (q := 8) F 16 dX6_migrate_5 (by decide) rfl (by first | exact xref_r | exact xref_n | exact xref_f _ | assumption) (fun c5 => ?_) (fun a5 c5 => ?_)
    · exact bad (Or.inl hx)
    · cases c5
  | some i =>
    rw [liveV_some hx]
    obtain ⟨hi, rfl, hg⟩ := liveN_some hA hx
    refine x_ifnull (q := 8) F 16 dX6_migrate_5 (by decide) rfl (by first | exact xref_r | exact xref_n | exact xref_f _ | assumption) (fun c5 => ?_) (fun a5 c5 => ?_)
    · cases c5
    · refine x_aload_n (q := 9) F dX6_migrate_8 rfl rfl (by first | exact xref_r | exact xref_n | exact xref_f _ | assumption) ?_
      refine x_iload_n (q := 10) F dX6_migrate_9 rfl rfl ?_
      refine x_callV1 (q := 13) F (1, 0) c_X6_scriptOf dX6_migrate_10 rfl mv_X6_scriptOf ml_X6_108 ⟨⟨xle rfl, xle rfl⟩, xle rfl, xle rfl⟩ rfl hC.1 (xle rfl) ?_
      refine ⟨A, y, hC, hA, rfl, fun _ => ?_⟩
      cases hy : ixN (aS A) y with
      | none =>
        rw [scrV_none hy]
        refine x_ifnonnull (q := 16) F 18 dX6_migrate_13 (by decide) rfl (by first | exact xref_r | exact xref_n | exact xref_f _ | assumption) (fun a13 c13 => ?_) (fun c13 => ?_)
        · cases c13
        · exact bad (Or.inr hy)
      | some sc =>
        rw [scrV_some hy]
        obtain ⟨hs, rfl⟩ := ixN_some (by omega) hy
        have hF : migrateF A (nI i) (nI sc) = ((deriveF A i sc).1, setMl (deriveF A i sc).2 (ag (deriveF A i sc).1)) := by unfold migrateF; rw [hx, hy]
        rw [hF] at hQ
        refine x_ifnonnull (q := 16) F 18 dX6_migrate_13 (by decide) rfl (by first | exact xref_r | exact xref_n | exact xref_f _ | assumption) (fun a13 c13 => ?_) (fun c13 => ?_)
        · refine x_aload_n (q := 19) F dX6_migrate_18 rfl rfl (by first | exact xref_r | exact xref_n | exact xref_f _ | assumption) ?_
          refine x_iload_n (q := 20) F dX6_migrate_19 rfl rfl ?_
          refine x_iload_n (q := 21) F dX6_migrate_20 rfl rfl ?_
          refine x_callV2 (q := 24) F (1, 0) c_X6_derive dX6_migrate_21 rfl mv_X6_derive ml_X6_127 ⟨⟨xle rfl, xle rfl⟩, xle rfl, xle rfl⟩ rfl hC.1 (xle rfl) ?_
          refine ⟨A, i, sc, hC, hA, hi, hg, hs, rfl, fun ad2 h2 hC2 hfr hE => ?_⟩
          have e1 : ad2 (1, 0) = ad (1, 0) := (hE (1, 0) (by rw [hC.1]; exact fun z => by cases z)).2
          rw [← e1]
          refine x_istore_n (q := 25) F dX6_migrate_24 rfl (by decide) ?_
          refine x_aload_n (q := 26) F dX6_migrate_25 rfl rfl (by first | exact xref_r | exact xref_n | exact xref_f _ | assumption) ?_
          refine x_iload_n (q := 27) F dX6_migrate_26 rfl rfl ?_
          refine x_callS1 (q := 30) F c_X6_against dX6_migrate_27 rfl ms_X6_against ml_X6_130 ⟨⟨xle rfl, xle rfl⟩, xle rfl, xle rfl⟩ (xle rfl) ?_
          refine ⟨_, rfl, fun _ => ?_⟩
          refine x_put (q := 33) F dX6_migrate_30 rfl fs_X6_50 hC2.1 (xle rfl) rfl rfl ?_
          refine x_iload_n (q := 34) F dX6_migrate_33 rfl rfl ?_
          refine x_iret F dX6_migrate_34 (xle rfl) (xle rfl) ?_
          exact hQ ad2 _ (hC2.ml (ag (deriveF A i sc).1)) (hfr.tr (fr40.up (by decide)))
        · cases c13
set_option maxRecDepth 100000 in
set_option maxHeartbeats 2000000 in
theorem c_X6_chain : Ct yX6_chain cX6_chain 4 (some .int) (xrm 3 0 0) (fun ad h av Q => ∃ A x y, pC ad h A ∧ aOK A ∧ av = [.ref (ad (1, 0)), .int x, .int y] ∧ ∀ ad' h', pC ad' h' (chainF A x y).2 → fr40 h h' → Q (some (.int (chainF A x y).1)) ad' h') := by
  refine Ct.of (by decide) ?_
  intro p l e s m args below meth c0 G ad h av Q F hsp
  obtain ⟨A, x, y, hC, hA, rfl, hQ⟩ := hsp
  have hnS := hA.2.2.1.1
  refine ⟨x_ent rfl rfl, ?_⟩
  refine x_ls [(0, .ref (ad (1, 0))), (1, .int x), (2, .int y)] rfl ?_
  refine x_aload_n (q := 1) F dX6_chain_0 rfl rfl (by first | exact xref_r | exact xref_n | exact xref_f _ | assumption) ?_
  refine x_iload_n (q := 2) F dX6_chain_1 rfl rfl ?_
  refine x_callV1 (q := 5) F (1, 0) c_X6_scriptOf dX6_chain_2 rfl mv_X6_scriptOf ml_X6_108 ⟨⟨xle rfl, xle rfl⟩, xle rfl, xle rfl⟩ rfl hC.1 (xle rfl) ?_
  refine ⟨A, x, hC, hA, rfl, fun _ => ?_⟩
  cases hx : ixN (aS A) x with
  | none =>
    rw [scrV_none hx]
    have hF : chainF A x y = (-1, A) := by unfold chainF; rw [hx]
    rw [hF] at hQ
    refine x_astore_n (q := 6) F dX6_chain_5 rfl (by decide) (by first | exact xref_r | exact xref_n | exact xref_f _ | assumption) ?_
    refine x_aload_n (q := 7) F dX6_chain_6 rfl rfl (by first | exact xref_r | exact xref_n | exact xref_f _ | assumption) ?_
    refine x_ifnull (q := 10) F 23 dX6_chain_7 (by decide) rfl (by first | exact xref_r | exact xref_n | exact xref_f _ | assumption) (fun c7 => ?_) (fun a7 c7 => ?_)
    · refine x_iconst (q := 24) (v := -1) F dX6_chain_23 rfl (by decide) ?_
      refine x_iret F dX6_chain_24 (xle rfl) (xle rfl) ?_
      exact hQ ad h hC fr40.rf
    · cases c7
  | some sc =>
    rw [scrV_some hx]
    obtain ⟨hs, rfl⟩ := ixN_some (by omega) hx
    obtain ⟨S1, S2, S3, S4, S5, S6, S7, S8, S9⟩ := hC.2.2.2.1.2.1 sc hs
    have good : ∀ (o : Option Nat), y = optI o → (∀ v, o = some v → v < aS A) → chainF A (nI sc) y = (if comesF A sc 10 o = true then (-3, A) else (1, setSc A (aS A, updS (aScr A) sc (setNx (aScr A sc) o)))) → xX p l e (xrm 3 0 0) s m args below meth c0 G ad h 4 (xZ below G ad h Q args s (xrm 3 0 0)) 25 [(0, .ref (ad (1, 0))), (1, .int (nI sc)), (2, .int y), (3, .ref (ad (20, sc)))] [] ad h 0 0 := by
      intro o hy ho hF
      rw [hF] at hQ
      subst hy
      refine x_aload_n (q := 26) F dX6_chain_25 rfl rfl (by first | exact xref_r | exact xref_n | exact xref_f _ | assumption) ?_
      refine x_iload_n (q := 27) F dX6_chain_26 rfl rfl ?_
      refine x_iload_n (q := 28) F dX6_chain_27 rfl rfl ?_
      refine x_callV2 (q := 31) F (1, 0) c_X6_comesTo dX6_chain_28 rfl mv_X6_comesTo ml_X6_134 ⟨⟨xle rfl, xle rfl⟩, xle rfl, xle rfl⟩ rfl hC.1 (xle rfl) ?_
      refine ⟨A, o, sc, hC, hA, rfl, ho, by omega, fun _ => ?_⟩
      cases hc : comesF A sc 10 o with
      | true =>
        rw [if_pos hc] at hQ
        refine x_if_eq (q := 34) F 37 dX6_chain_31 (by decide) rfl (fun c31 => ?_) (fun c31 => ?_)
        · exact absurd c31 (by decide)
        · refine x_bipush (q := 36) (v := -3) F dX6_chain_34 rfl (by decide) ?_
          refine x_iret F dX6_chain_36 (xle rfl) (xle rfl) ?_
          exact hQ ad h hC fr40.rf
      | false =>
        rw [if_neg (by rw [hc]; decide)] at hQ
        refine x_if_eq (q := 34) F 37 dX6_chain_31 (by decide) rfl (fun c31 => ?_) (fun c31 => ?_)
        · refine x_aload_n (q := 38) F dX6_chain_37 rfl rfl (by first | exact xref_r | exact xref_n | exact xref_f _ | assumption) ?_
          refine x_iload_n (q := 39) F dX6_chain_38 rfl rfl ?_
          refine x_putN (q := 42) F dX6_chain_39 rfl fn_X6_138 S1 (xle rfl) rfl rfl ?_
          refine x_iconst (q := 43) (v := 1) F dX6_chain_42 rfl (by decide) ?_
          refine x_iret F dX6_chain_43 (xle rfl) (xle rfl) ?_
          exact hQ ad _ (hC.script (s := sc) (d := setNx (aScr A sc) o) ⟨xup_self _ _ _, xk S2, xk S3, xk S4, xk S5, xk S6, xk S7, xk S8, xk S9⟩ (fun t ht => xup_ne _ _ (fun w => ht (by rw [w]; exact ⟨by show 20 ≤ 20; omega, by show 20 ≤ 28; omega, rfl⟩))) hs) (fr40.up (by decide))
        · exact absurd rfl c31
    refine x_astore_n (q := 6) F dX6_chain_5 rfl (by decide) (by first | exact xref_r | exact xref_n | exact xref_f _ | assumption) ?_
    refine x_aload_n (q := 7) F dX6_chain_6 rfl rfl (by first | exact xref_r | exact xref_n | exact xref_f _ | assumption) ?_
    refine x_ifnull (q := 10) F 23 dX6_chain_7 (by decide) rfl (by first | exact xref_r | exact xref_n | exact xref_f _ | assumption) (fun c7 => ?_) (fun a7 c7 => ?_)
    · cases c7
    · refine x_iload_n (q := 11) F dX6_chain_10 rfl rfl ?_
      refine x_iconst (q := 12) (v := -1) F dX6_chain_11 rfl (by decide) ?_
      refine x_icmp_eq (q := 15) F 25 dX6_chain_12 (by decide) rfl (fun c12 => ?_) (fun c12 => ?_)
      · refine x_ls [(0, .ref (ad (1, 0))), (1, .int (nI sc)), (2, .int y), (3, .ref (ad (20, sc)))] rfl ?_
        refine good none c12 (fun v z => by cases z) ?_
        unfold chainF
        rw [hx]
        show (if y = -1 then _ else _) = _
        rw [if_pos c12]
        rfl
      · refine x_aload_n (q := 16) F dX6_chain_15 rfl rfl (by first | exact xref_r | exact xref_n | exact xref_f _ | assumption) ?_
        refine x_iload_n (q := 17) F dX6_chain_16 rfl rfl ?_
        refine x_callV1 (q := 20) F (1, 0) c_X6_scriptOf dX6_chain_17 rfl mv_X6_scriptOf ml_X6_108 ⟨⟨xle rfl, xle rfl⟩, xle rfl, xle rfl⟩ rfl hC.1 (xle rfl) ?_
        refine ⟨A, y, hC, hA, rfl, fun _ => ?_⟩
        cases hy : ixN (aS A) y with
        | none =>
          rw [scrV_none hy]
          have hF : chainF A (nI sc) y = (-1, A) := by
            unfold chainF
            rw [hx]
            show (if y = -1 then _ else _) = _
            rw [if_neg c12, hy]
          rw [hF] at hQ
          refine x_ifnonnull (q := 23) F 25 dX6_chain_20 (by decide) rfl (by first | exact xref_r | exact xref_n | exact xref_f _ | assumption) (fun a20 c20 => ?_) (fun c20 => ?_)
          · cases c20
          · refine x_iconst (q := 24) (v := -1) F dX6_chain_23 rfl (by decide) ?_
            refine x_iret F dX6_chain_24 (xle rfl) (xle rfl) ?_
            exact hQ ad h hC fr40.rf
        | some t =>
          rw [scrV_some hy]
          obtain ⟨ht, rfl⟩ := ixN_some (by omega) hy
          refine x_ifnonnull (q := 23) F 25 dX6_chain_20 (by decide) rfl (by first | exact xref_r | exact xref_n | exact xref_f _ | assumption) (fun a20 c20 => ?_) (fun c20 => ?_)
          · refine x_ls [(0, .ref (ad (1, 0))), (1, .int (nI sc)), (2, .int (nI t)), (3, .ref (ad (20, sc)))] rfl ?_
            refine good (some t) rfl (fun v z => by cases z; exact ht) ?_
            unfold chainF
            rw [hx]
            show (if nI t = -1 then _ else _) = _
            rw [if_neg c12, hy]
          · cases c20
end
section
/-! ===== goesOn, batch, undo, drop, about ===== -/
theorem pC_live1 {ad : xAd} {h : xH} {A : AS} (H : pC ad h A) : h (1, 0) ≠ none := by rw [H.1]; exact fun z => by cases z
theorem aOK.ml {A : AS} (h : aOK A) (v : Int32) : aOK (setMl A v) := h
set_option maxRecDepth 100000 in
set_option maxHeartbeats 4000000 in
theorem c_X6_goesOn : Ct yX6_goesOn cX6_goesOn 7 (some .int) (xrm 5 30 480) (fun ad h av Q => ∃ A x y, pC ad h A ∧ aOK A ∧ av = [.ref (ad (1, 0)), .int x, .int y] ∧ ∀ ad' h', pC ad' h' (goesOnF A x y).2 → fr40 h h' → Q (some (.int (goesOnF A x y).1)) ad' h') := by
  refine Ct.of (by decide) ?_
  intro p l e s m args below meth c0 G ad h av Q F hsp
  obtain ⟨A, x, y, hC, hA, rfl, hQ⟩ := hsp
  have hnS := hA.2.2.1.1
  refine ⟨x_ent rfl rfl, ?_⟩
  refine x_ls [(0, .ref (ad (1, 0))), (1, .int x), (2, .int y)] rfl ?_
  have bad : (liveN A x = none ∨ ixN (aS A) y = none) → xX p l e (xrm 5 30 480) s m args below meth c0 G ad h 7 (xZ below G ad h Q args s (xrm 5 30 480)) 16 [(0, .ref (ad (1, 0))), (1, .int x), (2, .int y)] [] ad h 0 0 := by
    intro hz
    have hF : goesOnF A x y = (-1, A) := by
      unfold goesOnF
      rcases hz with hz | hz
      · rw [hz]
      · rw [hz]; cases liveN A x <;> rfl
    rw [hF] at hQ
    refine x_iconst (q := 17) (v := -1) F dX6_goesOn_16 rfl (by decide) ?_
    refine x_iret F dX6_goesOn_17 (xle rfl) (xle rfl) ?_
    exact hQ ad h hC fr40.rf
  have fin : ∀ (A' : AS) (ad' : xAd) (h' : xH) (came : Nat) (vs : List (Nat × Value)) (k n : Nat), k ≤ 30 → n ≤ 480 → pC ad' h' A' → fr40 h h' → (∀ ad'' h'', pC ad'' h'' A' → fr40 h h'' → Q (some (.int (nI came))) ad'' h'') → vs.lookup 3 = some (.int (nI came)) → xX p l e (xrm 5 30 480) s m args below meth c0 G ad h 7 (xZ below G ad h Q args s (xrm 5 30 480)) 86 vs [] ad' h' k n := by
    intro A' ad' h' came vs k n hk hn hC' hfr hq hl
    refine x_widen hk hn ?_
    refine x_iload_n (q := 87) F dX6_goesOn_86 rfl hl ?_
    refine x_iret F dX6_goesOn_87 (xle rfl) (xle rfl) ?_
    exact hq ad' h' hC' hfr
  have loop : ∀ (f n came : Nat) (A' : AS) (i : Nat) (o : Option Nat) (ad' : xAd) (h' : xH), n + f = 10 → pC ad' h' A' → aOK A' → fr40 h h' → (o ≠ none → i < aI A' ∧ iGn (aItm A' i) = false) → (∀ v, o = some v → v < aS A') →
      (∀ ad'' h'', pC ad'' h'' (goesF f A' i o).2 → fr40 h h'' → Q (some (.int (nI (came + (goesF f A' i o).1)))) ad'' h'') →
      xX p l e (xrm 5 30 480) s m args below meth c0 G ad h 7 (xZ below G ad h Q args s (xrm 5 30 480)) 29 [(0, .ref (ad' (1, 0))), (3, .int (nI came)), (4, .int (nI i)), (5, .int (optI o)), (6, .int (nI n))] [] ad' h' (3 * n) (48 * n) := by
    intro f
    induction f with
    | zero =>
      intro n came A' i o ad' h' hn hC' hA' hfr hi ho hq
      refine x_iload (q := 31) F dX6_goesOn_29 rfl rfl ?_
      refine x_bipush (q := 33) (v := 10) F dX6_goesOn_31 rfl (by decide) ?_
      refine x_icmp_ge (q := 36) F 86 dX6_goesOn_33 (by decide) rfl (fun c33 => ?_) (fun c33 => ?_)
      · exact fin A' ad' h' came _ _ _ (by omega) (by omega) hC' hfr hq rfl
      · exact absurd ((nI_leI (a := 10) (b := n) (by omega) (by omega)).mpr (by omega)) c33
    | succ f ih =>
      intro n came A' i o ad' h' hn hC' hA' hfr hi ho hq
      refine x_iload (q := 31) F dX6_goesOn_29 rfl rfl ?_
      refine x_bipush (q := 33) (v := 10) F dX6_goesOn_31 rfl (by decide) ?_
      refine x_icmp_ge (q := 36) F 86 dX6_goesOn_33 (by decide) rfl (fun c33 => ?_) (fun c33 => ?_)
      · exact absurd ((nI_leI (a := 10) (b := n) (by omega) (by omega)).mp c33) (by omega)
      · refine x_iload (q := 38) F dX6_goesOn_36 rfl rfl ?_
        refine x_iconst (q := 39) (v := -1) F dX6_goesOn_38 rfl (by decide) ?_
        cases o with
        | none =>
          refine x_icmp_eq (q := 42) F 86 dX6_goesOn_39 (by decide) rfl (fun c39 => ?_) (fun c39 => ?_)
          · exact fin A' ad' h' came _ _ _ (by omega) (by omega) hC' hfr hq rfl
          · exact absurd rfl c39
        | some sc =>
          have hs := ho sc rfl
          have hS' := hA'.2.2.1.1
          obtain ⟨hi1, hi2⟩ := hi (fun z => by cases z)
          refine x_icmp_eq (q := 42) F 86 dX6_goesOn_39 (by decide) rfl (fun c39 => ?_) (fun c39 => ?_)
          · exact absurd c39 (nI_neg1 (by omega))
          · refine x_aload_n (q := 43) F dX6_goesOn_42 rfl rfl (by first | exact xref_r | exact xref_n | exact xref_f _ | assumption) ?_
            refine x_iload (q := 45) F dX6_goesOn_43 rfl rfl ?_
            refine x_iload (q := 47) F dX6_goesOn_45 rfl rfl ?_
            refine x_callV2 (q := 50) F (1, 0) c_X6_derive dX6_goesOn_47 rfl mv_X6_derive ml_X6_127 ⟨⟨xle rfl, xle rfl⟩, by show 3 * n + 3 ≤ 30; omega, by show 48 * n + 48 ≤ 480; omega⟩ rfl hC'.1 (xle rfl) ?_
            refine ⟨A', i, sc, hC', hA', hi1, hi2, hs, rfl, fun ad2 h2 hC2 hfr2 hE => ?_⟩
            have e1 : ad2 (1, 0) = ad' (1, 0) := (hE (1, 0) (pC_live1 hC')).2
            rw [← e1]
            refine x_widen (k2 := 3 * (n + 1)) (n2 := 48 * (n + 1)) (by show 3 * n + 3 ≤ _; omega) (by show 48 * n + 48 ≤ _; omega) ?_
            refine x_istore (q := 52) F dX6_goesOn_50 rfl (by decide) ?_
            refine x_aload_n (q := 53) F dX6_goesOn_52 rfl rfl (by first | exact xref_r | exact xref_n | exact xref_f _ | assumption) ?_
            refine x_iload (q := 55) F dX6_goesOn_53 rfl rfl ?_
            refine x_callS1 (q := 58) F c_X6_against dX6_goesOn_55 rfl ms_X6_against ml_X6_130 ⟨⟨xle rfl, xle rfl⟩, by show 3 * (n + 1) + 0 ≤ 30; omega, by show 48 * (n + 1) + 0 ≤ 480; omega⟩ (xle rfl) ?_
            refine ⟨_, rfl, fun _ => ?_⟩
            refine x_put (q := 61) F dX6_goesOn_58 rfl fs_X6_50 hC2.1 (xle rfl) rfl rfl ?_
            have hC3 : pC ad2 _ (setMl (deriveF A' i sc).2 (ag (deriveF A' i sc).1)) := hC2.ml (ag (deriveF A' i sc).1)
            have hfr3 : fr40 h _ := (hfr.tr hfr2).tr (fr40.up (h := h2) (k := 1) (i := 0) (e := cMain ad2 (setMl (deriveF A' i sc).2 (ag (deriveF A' i sc).1))) (by decide))
            refine x_h (h2 := xup h2 (1, 0) (cMain ad2 (setMl (deriveF A' i sc).2 (ag (deriveF A' i sc).1)))) rfl ?_
            generalize xup h2 (1, 0) (cMain ad2 (setMl (deriveF A' i sc).2 (ag (deriveF A' i sc).1))) = h3 at hC3 hfr3 ⊢
            refine x_iload (q := 63) F dX6_goesOn_61 rfl rfl ?_
            rcases deriveF_cases hA' hi1 hs with ⟨hneg, -, -, -⟩ | ⟨hlt, hres, hst, hok⟩
            · have hF : goesF (f + 1) A' i (some sc) = (0, setMl (deriveF A' i sc).2 (ag (deriveF A' i sc).1)) := by rw [goesF, if_pos hneg]
              rw [hF] at hq
              refine x_if_ge (q := 66) F 69 dX6_goesOn_63 (by decide) rfl (fun c63 => ?_) (fun c63 => ?_)
              · exact absurd hneg (Int32.not_lt.mpr c63)
              · refine x_goto F 86 dX6_goesOn_66 (by decide) ?_
                exact fin _ ad2 h3 came _ _ _ (by show 3 * (n + 1) + 0 ≤ 30; omega) (by show 48 * (n + 1) + 0 ≤ 480; omega) hC3 hfr3 hq rfl
            · have hnn : ¬ (deriveF A' i sc).1 < 0 := by rw [hres]; exact nI_pos (by omega)
              have hF : goesF (f + 1) A' i (some sc) = ((goesF f (setMl (deriveF A' i sc).2 (ag (deriveF A' i sc).1)) (aI A') (sNx (aScr A' sc))).1 + 1, (goesF f (setMl (deriveF A' i sc).2 (ag (deriveF A' i sc).1)) (aI A') (sNx (aScr A' sc))).2) := by rw [goesF, if_neg hnn]
              rw [hF] at hq
              have hsm := deriveF_same A' i sc
              refine x_if_ge (q := 66) F 69 dX6_goesOn_63 (by decide) rfl (fun c63 => ?_) (fun c63 => ?_)
              · refine x_iinc (q := 72) F dX6_goesOn_69 rfl rfl (nI_1 came) (by decide) ?_
                refine x_aload_n (q := 73) F dX6_goesOn_72 rfl rfl (by first | exact xref_r | exact xref_n | exact xref_f _ | assumption) ?_
                refine x_iload (q := 75) F dX6_goesOn_73 rfl rfl ?_
                refine x_callV1 (q := 78) F (1, 0) c_X6_nextOf dX6_goesOn_75 rfl mv_X6_nextOf ml_X6_141 ⟨⟨xle rfl, xle rfl⟩, by show 3 * (n + 1) + 0 + 0 ≤ 30; omega, by show 48 * (n + 1) + 0 + 0 ≤ 480; omega⟩ rfl hC3.1 (xle rfl) ?_
                have hs3 : sc < aS (setMl (deriveF A' i sc).2 (ag (deriveF A' i sc).1)) := by show sc < aS (deriveF A' i sc).2; rw [hsm.1]; exact hs
                refine ⟨_, _, hC3, hok, rfl, fun _ => ?_⟩
                rw [optI_some, nextN_nI (A := setMl (deriveF A' i sc).2 (ag (deriveF A' i sc).1)) hok hs3]
                rw [show aScr (setMl (deriveF A' i sc).2 (ag (deriveF A' i sc).1)) sc = aScr A' sc from congrFun hsm.2.1 sc]
                refine x_istore (q := 80) F dX6_goesOn_78 rfl (by decide) ?_
                refine x_iinc (q := 83) F dX6_goesOn_80 rfl rfl (nI_1 n) (by decide) ?_
                refine x_goto F 29 dX6_goesOn_83 (by decide) ?_
                rw [hres]
                refine x_ls [(0, .ref (ad2 (1, 0))), (3, .int (nI (came + 1))), (4, .int (nI (aI A'))), (5, .int (optI (sNx (aScr A' sc)))), (6, .int (nI (n + 1)))] rfl ?_
                refine ih (n + 1) (came + 1) _ (aI A') (sNx (aScr A' sc)) ad2 h3 (by omega) hC3 hok hfr3 (fun _ => ?_) (fun v hv => ?_) (fun ad4 h4 hC4 hfr4 => ?_)
                · show aI A' < aI (deriveF A' i sc).2 ∧ iGn (aItm (deriveF A' i sc).2 (aI A')) = false
                  rw [hst]
                  refine ⟨Nat.lt_succ_self _, ?_⟩
                  show iGn (updI (aItm A') (aI A') (newI A' i sc) (aI A')) = false
                  rw [show updI (aItm A') (aI A') (newI A' i sc) (aI A') = newI A' i sc from if_pos rfl]
                  rfl
                · show v < aS (deriveF A' i sc).2
                  rw [hsm.1]
                  exact (hA'.2.2.1.2 sc hs).2.2.2.2.2.2 v hv
                · have := hq ad4 h4 hC4 hfr4
                  rw [show came + 1 + (goesF f (setMl (deriveF A' i sc).2 (ag (deriveF A' i sc).1)) (aI A') (sNx (aScr A' sc))).1 = came + ((goesF f (setMl (deriveF A' i sc).2 (ag (deriveF A' i sc).1)) (aI A') (sNx (aScr A' sc))).1 + 1) by omega]
                  exact this
              · exact absurd (by rw [hres]; exact nI_pos' (by omega)) c63
  refine x_aload_n (q := 1) F dX6_goesOn_0 rfl rfl (by first | exact xref_r | exact xref_n | exact xref_f _ | assumption) ?_
  refine x_iload_n (q := 2) F dX6_goesOn_1 rfl rfl ?_
  refine x_callV1 (q := 5) F (1, 0) c_X6_liveItem dX6_goesOn_2 rfl mv_X6_liveItem ml_X6_123 ⟨⟨xle rfl, xle rfl⟩, xle rfl, xle rfl⟩ rfl hC.1 (xle rfl) ?_
  refine ⟨A, x, hC, hA, rfl, fun _ => ?_⟩
  cases hx : liveN A x with
  | none =>
    rw [liveV_none hx]
    refine x_ifnull (q := 8) F 16 dX6_goesOn_5 (by decide) rfl (by first | exact xref_r | exact xref_n | exact xref_f _ | assumption) (fun c5 => ?_) (fun a5 c5 => ?_)
    · exact bad (Or.inl hx)
    · cases c5
  | some i =>
    rw [liveV_some hx]
    obtain ⟨hi, rfl, hg⟩ := liveN_some hA hx
    refine x_ifnull (q := 8) F 16 dX6_goesOn_5 (by decide) rfl (by first | exact xref_r | exact xref_n | exact xref_f _ | assumption) (fun c5 => ?_) (fun a5 c5 => ?_)
    · cases c5
    · refine x_aload_n (q := 9) F dX6_goesOn_8 rfl rfl (by first | exact xref_r | exact xref_n | exact xref_f _ | assumption) ?_
      refine x_iload_n (q := 10) F dX6_goesOn_9 rfl rfl ?_
      refine x_callV1 (q := 13) F (1, 0) c_X6_scriptOf dX6_goesOn_10 rfl mv_X6_scriptOf ml_X6_108 ⟨⟨xle rfl, xle rfl⟩, xle rfl, xle rfl⟩ rfl hC.1 (xle rfl) ?_
      refine ⟨A, y, hC, hA, rfl, fun _ => ?_⟩
      cases hy : ixN (aS A) y with
      | none =>
        rw [scrV_none hy]
        refine x_ifnonnull (q := 16) F 18 dX6_goesOn_13 (by decide) rfl (by first | exact xref_r | exact xref_n | exact xref_f _ | assumption) (fun a13 c13 => ?_) (fun c13 => ?_)
        · cases c13
        · exact bad (Or.inr hy)
      | some sc =>
        rw [scrV_some hy]
        obtain ⟨hs, rfl⟩ := ixN_some (by omega) hy
        have hF : goesOnF A (nI i) (nI sc) = (nI (goesF 10 A i (some sc)).1, (goesF 10 A i (some sc)).2) := by unfold goesOnF; rw [hx, hy]
        rw [hF] at hQ
        refine x_ifnonnull (q := 16) F 18 dX6_goesOn_13 (by decide) rfl (by first | exact xref_r | exact xref_n | exact xref_f _ | assumption) (fun a13 c13 => ?_) (fun c13 => ?_)
        · refine x_iconst (q := 19) (v := 0) F dX6_goesOn_18 rfl (by decide) ?_
          refine x_istore_n (q := 20) F dX6_goesOn_19 rfl (by decide) ?_
          refine x_iload_n (q := 21) F dX6_goesOn_20 rfl rfl ?_
          refine x_istore (q := 23) F dX6_goesOn_21 rfl (by decide) ?_
          refine x_iload_n (q := 24) F dX6_goesOn_23 rfl rfl ?_
          refine x_istore (q := 26) F dX6_goesOn_24 rfl (by decide) ?_
          refine x_iconst (q := 27) (v := 0) F dX6_goesOn_26 rfl (by decide) ?_
          refine x_istore (q := 29) F dX6_goesOn_27 rfl (by decide) ?_
          refine x_ls [(0, .ref (ad (1, 0))), (3, .int (nI 0)), (4, .int (nI i)), (5, .int (optI (some sc))), (6, .int (nI 0))] rfl ?_
          exact loop 10 0 0 A i (some sc) ad h rfl hC hA fr40.rf (fun _ => ⟨hi, hg⟩) (fun v z => by cases z; exact hs) (fun ad2 h2 h3 h4 => by rw [Nat.zero_add]; exact hQ ad2 h2 h3 h4)
        · cases c13
theorem itmOK.gn {n i : Nat} {d : ItmD} (h : itmOK n i d) (hf : iFr d ≠ none) : itmOK n i (setGn d true) := ⟨h.1, h.2.1, h.2.2.1, h.2.2.2.1, h.2.2.2.2.1, h.2.2.2.2.2.1, fun z => absurd z hf⟩
theorem itmOK.bt {n i : Nat} {d : ItmD} (h : itmOK n i d) (o : Option Nat) (ho : ∀ x, o = some x → x < 1000) : itmOK n i (setBt d o) := ⟨h.1, h.2.1, h.2.2.1, h.2.2.2.1, h.2.2.2.2.1, ho, h.2.2.2.2.2.2⟩
set_option maxRecDepth 100000 in
set_option maxHeartbeats 2000000 in
theorem c_X6_drop : Ct yX6_drop cX6_drop 2 (some .int) (xrm 3 0 0) (fun ad h av Q => ∃ A x, pC ad h A ∧ aOK A ∧ av = [.ref (ad (1, 0)), .int x] ∧ ∀ ad' h', pC ad' h' (dropF A x).2 → fr40 h h' → Q (some (.int (dropF A x).1)) ad' h') := by
  refine Ct.of (by decide) ?_
  intro p l e s m args below meth c0 G ad h av Q F hsp
  obtain ⟨A, x, hC, hA, rfl, hQ⟩ := hsp
  have hnI := hA.2.2.2.1.1
  refine ⟨x_ent rfl rfl, ?_⟩
  refine x_ls [(0, .ref (ad (1, 0))), (1, .int x)] rfl ?_
  refine x_aload_n (q := 1) F dX6_drop_0 rfl rfl (by first | exact xref_r | exact xref_n | exact xref_f _ | assumption) ?_
  refine x_iload_n (q := 2) F dX6_drop_1 rfl rfl ?_
  refine x_callV1 (q := 5) F (1, 0) c_X6_liveItem dX6_drop_2 rfl mv_X6_liveItem ml_X6_123 ⟨⟨xle rfl, xle rfl⟩, xle rfl, xle rfl⟩ rfl hC.1 (xle rfl) ?_
  refine ⟨A, x, hC, hA, rfl, fun _ => ?_⟩
  cases hx : liveN A x with
  | none =>
    rw [liveV_none hx]
    have hF : dropF A x = (-1, A) := by unfold dropF; rw [hx]
    rw [hF] at hQ
    refine x_ifnonnull (q := 8) F 10 dX6_drop_5 (by decide) rfl (by first | exact xref_r | exact xref_n | exact xref_f _ | assumption) (fun a5 c5 => ?_) (fun c5 => ?_)
    · cases c5
    · refine x_iconst (q := 9) (v := -1) F dX6_drop_8 rfl (by decide) ?_
      refine x_iret F dX6_drop_9 (xle rfl) (xle rfl) ?_
      exact hQ ad h hC fr40.rf
  | some i =>
    rw [liveV_some hx]
    obtain ⟨hi, rfl, hg⟩ := liveN_some hA hx
    have hF : dropF A (nI i) = if iFr (aItm A i) = none ∨ hasDer A i = true then (-3, A) else (1, goneA A i) := by unfold dropF; rw [hx]
    rw [hF] at hQ
    have stt : (iFr (aItm A i) = none ∨ hasDer A i = true) → xX p l e (xrm 3 0 0) s m args below meth c0 G ad h 2 (xZ below G ad h Q args s (xrm 3 0 0)) 26 [(0, .ref (ad (1, 0))), (1, .int (nI i))] [] ad h 0 0 := by
      intro hz
      rw [if_pos hz] at hQ
      refine x_bipush (q := 28) (v := -3) F dX6_drop_26 rfl (by decide) ?_
      refine x_iret F dX6_drop_28 (xle rfl) (xle rfl) ?_
      exact hQ ad h hC fr40.rf
    refine x_ifnonnull (q := 8) F 10 dX6_drop_5 (by decide) rfl (by first | exact xref_r | exact xref_n | exact xref_f _ | assumption) (fun a5 c5 => ?_) (fun c5 => ?_)
    · refine x_aload_n (q := 11) F dX6_drop_10 rfl rfl (by first | exact xref_r | exact xref_n | exact xref_f _ | assumption) ?_
      refine x_iload_n (q := 12) F dX6_drop_11 rfl rfl ?_
      refine x_callV1 (q := 15) F (1, 0) c_X6_isOriginal dX6_drop_12 rfl mv_X6_isOriginal ml_X6_151 ⟨⟨xle rfl, xle rfl⟩, xle rfl, xle rfl⟩ rfl hC.1 (xle rfl) ?_
      refine ⟨A, nI i, hC, hA, rfl, fun _ => ?_⟩
      have hO : isOrig A (nI i) = decide (iFr (aItm A i) = none) := by unfold isOrig; rw [ixN_nI hi (by omega)]
      rw [hO]
      by_cases hf : iFr (aItm A i) = none
      · rw [decide_eq_true hf]
        refine x_if_ne (q := 18) F 26 dX6_drop_15 (by decide) rfl (fun c15 => ?_) (fun c15 => ?_)
        · exact stt (Or.inl hf)
        · exact absurd c15 (by decide)
      · rw [decide_eq_false hf]
        refine x_if_ne (q := 18) F 26 dX6_drop_15 (by decide) rfl (fun c15 => ?_) (fun c15 => ?_)
        · exact absurd rfl c15
        · refine x_aload_n (q := 19) F dX6_drop_18 rfl rfl (by first | exact xref_r | exact xref_n | exact xref_f _ | assumption) ?_
          refine x_iload_n (q := 20) F dX6_drop_19 rfl rfl ?_
          refine x_callV1 (q := 23) F (1, 0) c_X6_hasDerived dX6_drop_20 rfl mv_X6_hasDerived ml_X6_160 ⟨⟨xle rfl, xle rfl⟩, xle rfl, xle rfl⟩ rfl hC.1 (xle rfl) ?_
          refine ⟨A, i, hC, hA, rfl, by omega, fun _ => ?_⟩
          cases hd : hasDer A i with
          | true =>
            refine x_if_eq (q := 26) F 29 dX6_drop_23 (by decide) rfl (fun c23 => ?_) (fun c23 => ?_)
            · exact absurd c23 (by decide)
            · exact stt (Or.inr hd)
          | false =>
            rw [if_neg (fun z => by rcases z with z | z; exact hf z; rw [hd] at z; cases z)] at hQ
            refine x_if_eq (q := 26) F 29 dX6_drop_23 (by decide) rfl (fun c23 => ?_) (fun c23 => ?_)
            · refine x_aload_n (q := 30) F dX6_drop_29 rfl rfl (by first | exact xref_r | exact xref_n | exact xref_f _ | assumption) ?_
              refine x_iload_n (q := 31) F dX6_drop_30 rfl rfl ?_
              refine x_callV1 (q := 34) F (1, 0) c_X6_dismiss dX6_drop_31 rfl mv_X6_dismiss ml_X6_163 ⟨⟨xle rfl, xle rfl⟩, xle rfl, xle rfl⟩ rfl hC.1 (xle rfl) ?_
              refine ⟨A, i, hC, hA, hi, rfl, fun z => ?_, fun z h' hC' hfr _ => ?_⟩
              · rw [hg] at z; cases z
              · refine x_iret F dX6_drop_34 (xle rfl) (xle rfl) ?_
                exact hQ ad h' hC' hfr
            · exact absurd rfl c23
    · cases c5
set_option maxRecDepth 100000 in
theorem c_X6_about : Ct yX6_about cX6_about 4 (some .int) (xrm 1 0 0) (fun ad h av Q => ∃ A x y, pC ad h A ∧ aOK A ∧ av = [.ref (ad (1, 0)), .int x, .int y] ∧ Q (some (.int (aboutF A x y))) ad h) := by
  refine Ct.of (by decide) ?_
  intro p l e s m args below meth c0 G ad h av Q F hsp
  obtain ⟨A, x, y, hC, hA, rfl, hQ⟩ := hsp
  have hnI := hA.2.2.2.1.1
  refine ⟨x_ent rfl rfl, ?_⟩
  refine x_ls [(0, .ref (ad (1, 0))), (1, .int x), (2, .int y)] rfl ?_
  refine x_aload_n (q := 1) F dX6_about_0 rfl rfl (by first | exact xref_r | exact xref_n | exact xref_f _ | assumption) ?_
  refine x_iload_n (q := 2) F dX6_about_1 rfl rfl ?_
  refine x_callV1 (q := 5) F (1, 0) c_X6_itemOf dX6_about_2 rfl mv_X6_itemOf ml_X6_166 ⟨⟨xle rfl, xle rfl⟩, xle rfl, xle rfl⟩ rfl hC.1 (xle rfl) ?_
  refine ⟨A, x, hC, hA, rfl, fun _ => ?_⟩
  unfold aboutF at hQ
  cases hx : ixN (aI A) x with
  | none =>
    rw [itmV_none hx]
    rw [hx] at hQ
    refine x_astore_n (q := 6) F dX6_about_5 rfl (by decide) (by first | exact xref_r | exact xref_n | exact xref_f _ | assumption) ?_
    refine x_aload_n (q := 7) F dX6_about_6 rfl rfl (by first | exact xref_r | exact xref_n | exact xref_f _ | assumption) ?_
    refine x_ifnonnull (q := 10) F 12 dX6_about_7 (by decide) rfl (by first | exact xref_r | exact xref_n | exact xref_f _ | assumption) (fun a7 c7 => ?_) (fun c7 => ?_)
    · cases c7
    · refine x_iconst (q := 11) (v := -1) F dX6_about_10 rfl (by decide) ?_
      refine x_iret F dX6_about_11 (xle rfl) (xle rfl) ?_
      exact hQ
  | some i =>
    rw [itmV_some hx]
    rw [hx] at hQ
    obtain ⟨hi, rfl⟩ := ixN_some (by omega) hx
    obtain ⟨I1, I2, I3⟩ := hC.2.2.2.2.1.2.1 i hi
    have hQ : Q (some (.int (if y = 0 then nI (iN (aItm A i)) else if y = 1 then optI (iFr (aItm A i)) else if y = 2 then optI (iBy (aItm A i)) else if y = 3 then bI (iGn (aItm A i)) else if y = 4 then nI (iRt (aItm A i)) else -1))) ad h := hQ
    refine x_astore_n (q := 6) F dX6_about_5 rfl (by decide) (by first | exact xref_r | exact xref_n | exact xref_f _ | assumption) ?_
    refine x_aload_n (q := 7) F dX6_about_6 rfl rfl (by first | exact xref_r | exact xref_n | exact xref_f _ | assumption) ?_
    refine x_ifnonnull (q := 10) F 12 dX6_about_7 (by decide) rfl (by first | exact xref_r | exact xref_n | exact xref_f _ | assumption) (fun a7 c7 => ?_) (fun c7 => ?_)
    · refine x_iload_n (q := 13) F dX6_about_12 rfl rfl ?_
      rcases pk_ix y (n := 5) (by omega) with zy | zy | ⟨j, hj, rfl⟩
      · refine x_tableOut F 84 dX6_about_13 (Or.inl ?_) (by decide) ?_
        · have := Int32.lt_iff_toInt_lt.mp zy; simpa using this
        have hne : ∀ k : Nat, k < 5 → y ≠ nI k := fun k hk z => absurd zy (by rw [z]; exact nI_pos (by omega))
        rw [if_neg (show ¬ y = 0 from hne 0 (by omega)), if_neg (show ¬ y = 1 from hne 1 (by omega)), if_neg (show ¬ y = 2 from hne 2 (by omega)), if_neg (show ¬ y = 3 from hne 3 (by omega)), if_neg (show ¬ y = 4 from hne 4 (by omega))] at hQ
        refine x_iconst (q := 85) (v := -1) F dX6_about_84 rfl (by decide) ?_
        refine x_iret F dX6_about_85 (xle rfl) (xle rfl) ?_
        exact hQ
      · have h5 := Int32.le_iff_toInt_le.mp zy
        rw [nI_toInt (by omega)] at h5
        refine x_tableOut F 84 dX6_about_13 (Or.inr (by omega)) (by decide) ?_
        have hne : ∀ k : Nat, k < 5 → y ≠ nI k := fun k hk z => by rw [z, nI_toInt (by omega)] at h5; omega
        rw [if_neg (show ¬ y = 0 from hne 0 (by omega)), if_neg (show ¬ y = 1 from hne 1 (by omega)), if_neg (show ¬ y = 2 from hne 2 (by omega)), if_neg (show ¬ y = 3 from hne 3 (by omega)), if_neg (show ¬ y = 4 from hne 4 (by omega))] at hQ
        refine x_iconst (q := 85) (v := -1) F dX6_about_84 rfl (by decide) ?_
        refine x_iret F dX6_about_85 (xle rfl) (xle rfl) ?_
        exact hQ
      · rcases (show j = 0 ∨ j = 1 ∨ j = 2 ∨ j = 3 ∨ j = 4 by omega) with rfl | rfl | rfl | rfl | rfl
        · refine x_tableIn F 48 dX6_about_13 (by decide) (by decide) (off := 35) (by decide) (by decide) ?_
          refine x_aload_n (q := 49) F dX6_about_48 rfl rfl (by first | exact xref_r | exact xref_n | exact xref_f _ | assumption) ?_
          refine x_getN (q := 52) F dX6_about_49 rfl fn_X6_169 I1 rfl ?_
          refine x_getN (q := 55) F dX6_about_52 rfl fn_X6_172 I2 rfl ?_
          refine x_iret F dX6_about_55 (xle rfl) (xle rfl) ?_
          exact hQ
        · refine x_tableIn F 56 dX6_about_13 (by decide) (by decide) (off := 43) (by decide) (by decide) ?_
          refine x_aload_n (q := 57) F dX6_about_56 rfl rfl (by first | exact xref_r | exact xref_n | exact xref_f _ | assumption) ?_
          refine x_getN (q := 60) F dX6_about_57 rfl fn_X6_175 I1 rfl ?_
          refine x_iret F dX6_about_60 (xle rfl) (xle rfl) ?_
          exact hQ
        · refine x_tableIn F 61 dX6_about_13 (by decide) (by decide) (off := 48) (by decide) (by decide) ?_
          refine x_aload_n (q := 62) F dX6_about_61 rfl rfl (by first | exact xref_r | exact xref_n | exact xref_f _ | assumption) ?_
          refine x_getN (q := 65) F dX6_about_62 rfl fn_X6_178 I1 rfl ?_
          refine x_iret F dX6_about_65 (xle rfl) (xle rfl) ?_
          exact hQ
        · refine x_tableIn F 66 dX6_about_13 (by decide) (by decide) (off := 53) (by decide) (by decide) ?_
          refine x_aload_n (q := 67) F dX6_about_66 rfl rfl (by first | exact xref_r | exact xref_n | exact xref_f _ | assumption) ?_
          refine x_getN (q := 70) F dX6_about_67 rfl fn_X6_181 I1 rfl ?_
          have hQ : Q (some (.int (bI (iGn (aItm A i))))) ad h := hQ
          cases hg : iGn (aItm A i) with
          | true =>
            rw [hg] at hQ
            refine x_if_eq (q := 73) F 77 dX6_about_70 (by decide) rfl (fun c70 => ?_) (fun c70 => ?_)
            · exact absurd c70 (by decide)
            · refine x_iconst (q := 74) (v := 1) F dX6_about_73 rfl (by decide) ?_
              refine x_goto F 78 dX6_about_74 (by decide) ?_
              refine x_iret F dX6_about_78 (xle rfl) (xle rfl) ?_
              exact hQ
          | false =>
            rw [hg] at hQ
            refine x_if_eq (q := 73) F 77 dX6_about_70 (by decide) rfl (fun c70 => ?_) (fun c70 => ?_)
            · refine x_iconst (q := 78) (v := 0) F dX6_about_77 rfl (by decide) ?_
              refine x_iret F dX6_about_78 (xle rfl) (xle rfl) ?_
              exact hQ
            · exact absurd rfl c70
        · refine x_tableIn F 79 dX6_about_13 (by decide) (by decide) (off := 66) (by decide) (by decide) ?_
          refine x_aload_n (q := 80) F dX6_about_79 rfl rfl (by first | exact xref_r | exact xref_n | exact xref_f _ | assumption) ?_
          refine x_getN (q := 83) F dX6_about_80 rfl fn_X6_185 I1 rfl ?_
          refine x_iret F dX6_about_83 (xle rfl) (xle rfl) ?_
          exact hQ
    · cases c7
end
section
/-! ===== batch, undo ===== -/
theorem aOK.ob {A : AS} (h : aOK A) {v : Nat} (hv : v ≤ 600) : aOK (setOb A v) := by
  obtain ⟨h1, h2, h3, h4, h5, h6, h7, h8⟩ := h
  exact ⟨h1, h2, h3, h4, h5, h6, h7, hv, h8.2⟩
theorem joinA_ok {A : AS} (hA : aOK A) {n : Nat} (hn : n < aI A) : aOK (joinA A n) := by
  have hob := hA.2.2.2.2.2.2.2.1
  exact hA.item ((hA.2.2.2.1.2 n hn).bt _ (fun x z => by cases z; omega))
theorem batF_le (sc : Nat) : ∀ (f n : Nat) (A : AS), (batF sc f n A).1 ≤ f := by
  intro f
  induction f with
  | zero => intro n A; exact Nat.le_refl _
  | succ f ih =>
    intro n A
    unfold batF
    by_cases z : iFr (aItm A n) = none
    · rw [if_pos z]
      by_cases y : (deriveF A n sc).1 < 0
      · rw [if_pos y]; have := ih (n + 1) (deriveF A n sc).2; omega
      · rw [if_neg y]
        show (batF sc f (n + 1) (joinA (deriveF A n sc).2 (aI A))).1 + 1 ≤ f + 1
        have := ih (n + 1) (joinA (deriveF A n sc).2 (aI A)); omega
    · rw [if_neg z]; have := ih (n + 1) A; omega
set_option maxRecDepth 100000 in
set_option maxHeartbeats 4000000 in
theorem c_X6_batch : Ct yX6_batch cX6_batch 5 (some .int) (xrm 5 180 2880) (fun ad h av Q => ∃ A x, pC ad h A ∧ aOK A ∧ av = [.ref (ad (1, 0)), .int x] ∧ ∀ ad' h', pC ad' h' (batchF A x).2 → fr40 h h' → Q (some (.int (batchF A x).1)) ad' h') := by
  refine Ct.of (by decide) ?_
  intro p l e s m args below meth c0 G ad h av Q F hsp
  obtain ⟨A, x, hC, hA, rfl, hQ⟩ := hsp
  have hnS := hA.2.2.1.1
  have hnI := hA.2.2.2.1.1
  refine ⟨x_ent rfl rfl, ?_⟩
  refine x_ls [(0, .ref (ad (1, 0))), (1, .int x)] rfl ?_
  refine x_aload_n (q := 1) F dX6_batch_0 rfl rfl (by first | exact xref_r | exact xref_n | exact xref_f _ | assumption) ?_
  refine x_iload_n (q := 2) F dX6_batch_1 rfl rfl ?_
  refine x_callV1 (q := 5) F (1, 0) c_X6_scriptOf dX6_batch_2 rfl mv_X6_scriptOf ml_X6_108 ⟨⟨xle rfl, xle rfl⟩, xle rfl, xle rfl⟩ rfl hC.1 (xle rfl) ?_
  refine ⟨A, x, hC, hA, rfl, fun _ => ?_⟩
  cases hx : ixN (aS A) x with
  | none =>
    rw [scrV_none hx]
    have hF : batchF A x = (-1, A) := by unfold batchF; rw [hx]
    rw [hF] at hQ
    refine x_ifnonnull (q := 8) F 10 dX6_batch_5 (by decide) rfl (by first | exact xref_r | exact xref_n | exact xref_f _ | assumption) (fun a5 c5 => ?_) (fun c5 => ?_)
    · cases c5
    · refine x_iconst (q := 9) (v := -1) F dX6_batch_8 rfl (by decide) ?_
      refine x_iret F dX6_batch_9 (xle rfl) (xle rfl) ?_
      exact hQ ad h hC fr40.rf
  | some sc =>
    rw [scrV_some hx]
    obtain ⟨hs, rfl⟩ := ixN_some (by omega) hx
    have hF : batchF A (nI sc) = (nI (batF sc (aI A) 0 A).1, if 0 < (batF sc (aI A) 0 A).1 then setOb (batF sc (aI A) 0 A).2 (aOb (batF sc (aI A) 0 A).2 + 1) else (batF sc (aI A) 0 A).2) := by unfold batchF; rw [hx]
    rw [hF] at hQ
    have loop : ∀ (f n came : Nat) (A' : AS) (ad' : xAd) (h' : xH), n + f = aI A → came ≤ n → pC ad' h' A' → aOK A' → fr40 h h' → aI A ≤ aI A' → aS A' = aS A →
        (∀ ad'' h'', pC ad'' h'' (if 0 < came + (batF sc f n A').1 then setOb (batF sc f n A').2 (aOb (batF sc f n A').2 + 1) else (batF sc f n A').2) → fr40 h h'' → Q (some (.int (nI (came + (batF sc f n A').1)))) ad'' h'') →
        xX p l e (xrm 5 180 2880) s m args below meth c0 G ad h 5 (xZ below G ad h Q args s (xrm 5 180 2880)) 20 [(0, .ref (ad' (1, 0))), (1, .int (nI sc)), (2, .int (nI came)), (3, .int (nI (aI A))), (4, .int (nI n))] [] ad' h' (3 * n) (48 * n) := by
      intro f
      induction f with
      | zero =>
        intro n came A' ad' h' hn hcm hC' hA' hfr hle hsS hq
        refine x_iload (q := 22) F dX6_batch_20 rfl rfl ?_
        refine x_iload_n (q := 23) F dX6_batch_22 rfl rfl ?_
        refine x_icmp_ge (q := 26) F 58 dX6_batch_23 (by decide) rfl (fun c23 => ?_) (fun c23 => ?_)
        · have hq : ∀ ad'' h'', pC ad'' h'' (if 0 < came then setOb A' (aOb A' + 1) else A') → fr40 h h'' → Q (some (.int (nI came))) ad'' h'' := hq
          refine x_widen (k2 := 180) (n2 := 2880) (by omega) (by omega) ?_
          refine x_iload_n (q := 59) F dX6_batch_58 rfl rfl ?_
          by_cases z : came = 0
          · subst z
            rw [if_neg (by omega)] at hq
            refine x_if_le (q := 62) F 72 dX6_batch_59 (by decide) rfl (fun c59 => ?_) (fun c59 => ?_)
            · refine x_iload_n (q := 73) F dX6_batch_72 rfl rfl ?_
              refine x_iret F dX6_batch_73 (xle rfl) (xle rfl) ?_
              exact hq ad' h' hC' hfr
            · exact absurd (by decide) c59
          · rw [if_pos (by omega)] at hq
            refine x_if_le (q := 62) F 72 dX6_batch_59 (by decide) rfl (fun c59 => ?_) (fun c59 => ?_)
            · exact absurd ((nI_leI (a := came) (b := 0) (by omega) (by omega)).mp c59) (by omega)
            · refine x_aload_n (q := 63) F dX6_batch_62 rfl rfl (by first | exact xref_r | exact xref_n | exact xref_f _ | assumption) ?_
              refine x_dup (q := 64) F dX6_batch_63 rfl rfl ?_
              refine x_get (q := 67) F dX6_batch_64 rfl fs_X6_44 hC'.1 rfl ?_
              refine x_iconst (q := 68) (v := 1) F dX6_batch_67 rfl (by decide) ?_
              refine x_iadd (q := 69) F dX6_batch_68 rfl ?_
              refine x_topi (nI_1 _) ?_
              refine x_put (q := 72) F dX6_batch_69 rfl fs_X6_44 hC'.1 (xle rfl) rfl rfl ?_
              refine x_iload_n (q := 73) F dX6_batch_72 rfl rfl ?_
              refine x_iret F dX6_batch_73 (xle rfl) (xle rfl) ?_
              exact hq ad' _ (hC'.main (B := setOb A' (aOb A' + 1)) ⟨rfl, rfl, rfl, rfl, rfl, rfl, rfl⟩) (hfr.tr (fr40.up (by decide)))
        · exact absurd ((nI_leI (by omega) (by omega)).mpr (by omega)) c23
      | succ f ih =>
        intro n came A' ad' h' hn hcm hC' hA' hfr hle hsS hq
        have hnI' := hA'.2.2.2.1.1
        have hnA : n < aI A' := by omega
        refine x_iload (q := 22) F dX6_batch_20 rfl rfl ?_
        refine x_iload_n (q := 23) F dX6_batch_22 rfl rfl ?_
        refine x_icmp_ge (q := 26) F 58 dX6_batch_23 (by decide) rfl (fun c23 => ?_) (fun c23 => ?_)
        · exact absurd ((nI_leI (by omega) (by omega)).mp c23) (by omega)
        · refine x_aload_n (q := 27) F dX6_batch_26 rfl rfl (by first | exact xref_r | exact xref_n | exact xref_f _ | assumption) ?_
          refine x_iload (q := 29) F dX6_batch_27 rfl rfl ?_
          refine x_callV1 (q := 32) F (1, 0) c_X6_isOriginal dX6_batch_29 rfl mv_X6_isOriginal ml_X6_151 ⟨⟨xle rfl, xle rfl⟩, by show 3 * n + 0 ≤ 180; omega, by show 48 * n + 0 ≤ 2880; omega⟩ rfl hC'.1 (xle rfl) ?_
          refine ⟨A', nI n, hC', hA', rfl, fun _ => ?_⟩
          rw [show isOrig A' (nI n) = decide (iFr (aItm A' n) = none) by unfold isOrig; rw [ixN_nI hnA (by omega)]]
          have next : ∀ (came' : Nat) (B : AS) (ad2 : xAd) (h2 : xH), came' ≤ n + 1 → pC ad2 h2 B → aOK B → fr40 h h2 → aI A ≤ aI B → aS B = aS A →
              (∀ ad'' h'', pC ad'' h'' (if 0 < came' + (batF sc f (n + 1) B).1 then setOb (batF sc f (n + 1) B).2 (aOb (batF sc f (n + 1) B).2 + 1) else (batF sc f (n + 1) B).2) → fr40 h h'' → Q (some (.int (nI (came' + (batF sc f (n + 1) B).1)))) ad'' h'') →
              xX p l e (xrm 5 180 2880) s m args below meth c0 G ad h 5 (xZ below G ad h Q args s (xrm 5 180 2880)) 52 [(0, .ref (ad2 (1, 0))), (1, .int (nI sc)), (2, .int (nI came')), (3, .int (nI (aI A))), (4, .int (nI n))] [] ad2 h2 (3 * (n + 1)) (48 * (n + 1)) := by
            intro came' B ad2 h2 k1 k2 k3 k4 k5 k6 k7
            refine x_iinc (q := 55) F dX6_batch_52 rfl rfl (nI_1 n) (by decide) ?_
            refine x_goto F 20 dX6_batch_55 (by decide) ?_
            refine x_ls [(0, .ref (ad2 (1, 0))), (1, .int (nI sc)), (2, .int (nI came')), (3, .int (nI (aI A))), (4, .int (nI (n + 1)))] rfl ?_
            exact ih (n + 1) came' B ad2 h2 (by omega) k1 k2 k3 k4 k5 k6 k7
          by_cases hf : iFr (aItm A' n) = none
          · rw [decide_eq_true hf]
            refine x_if_eq (q := 35) F 52 dX6_batch_32 (by decide) rfl (fun c32 => ?_) (fun c32 => ?_)
            · exact absurd c32 (by decide)
            · refine x_aload_n (q := 36) F dX6_batch_35 rfl rfl (by first | exact xref_r | exact xref_n | exact xref_f _ | assumption) ?_
              refine x_aload_n (q := 37) F dX6_batch_36 rfl rfl (by first | exact xref_r | exact xref_n | exact xref_f _ | assumption) ?_
              refine x_iload (q := 39) F dX6_batch_37 rfl rfl ?_
              refine x_iload_n (q := 40) F dX6_batch_39 rfl rfl ?_
              refine x_callV2 (q := 43) F (1, 0) c_X6_derive dX6_batch_40 rfl mv_X6_derive ml_X6_127 ⟨⟨xle rfl, xle rfl⟩, by show 3 * n + 0 + 3 ≤ 180; omega, by show 48 * n + 0 + 48 ≤ 2880; omega⟩ rfl hC'.1 (xle rfl) ?_
              refine ⟨A', n, sc, hC', hA', hnA, (hA'.2.2.2.1.2 n hnA).2.2.2.2.2.2 hf, by omega, rfl, fun ad2 h2 hC2 hfr2 hE => ?_⟩
              have e1 : ad2 (1, 0) = ad' (1, 0) := (hE (1, 0) (pC_live1 hC')).2
              rw [← e1]
              refine x_widen (k2 := 3 * (n + 1)) (n2 := 48 * (n + 1)) (by show 3 * n + 0 + 3 ≤ _; omega) (by show 48 * n + 0 + 48 ≤ _; omega) ?_
              refine x_callV1 (q := 46) F (1, 0) c_X6_joinBatch dX6_batch_43 rfl mv_X6_joinBatch ml_X6_154 ⟨⟨xle rfl, xle rfl⟩, by show 3 * (n + 1) + 0 ≤ 180; omega, by show 48 * (n + 1) + 0 ≤ 2880; omega⟩ rfl hC2.1 (xle rfl) ?_
              have hsm := deriveF_same A' n sc
              rcases deriveF_cases hA' hnA (show sc < aS A' by omega) with ⟨hneg, hok, hI, hIt⟩ | ⟨hlt, hres, hst, hok⟩
              · have hB : batF sc (f + 1) n A' = batF sc f (n + 1) (deriveF A' n sc).2 := by rw [batF, if_pos hf, if_pos hneg]
                rw [hB] at hq
                refine ⟨_, _, hC2, hok, rfl, fun _ _ => ?_, fun i hi => ?_⟩
                · refine x_if_eq (q := 49) F 52 dX6_batch_46 (by decide) rfl (fun c46 => ?_) (fun c46 => ?_)
                  · refine x_ls [(0, .ref (ad2 (1, 0))), (1, .int (nI sc)), (2, .int (nI came)), (3, .int (nI (aI A))), (4, .int (nI n))] rfl ?_
                    exact next came _ ad2 h2 (by omega) hC2 hok (hfr.tr hfr2) (by omega) (hsm.1.trans hsS) hq
                  · exact absurd rfl c46
                · rw [ixN_neg hneg] at hi; cases hi
              · have hnn : ¬ (deriveF A' n sc).1 < 0 := by rw [hres]; exact nI_pos (by omega)
                have hB : batF sc (f + 1) n A' = ((batF sc f (n + 1) (joinA (deriveF A' n sc).2 (aI A'))).1 + 1, (batF sc f (n + 1) (joinA (deriveF A' n sc).2 (aI A'))).2) := by rw [batF, if_pos hf, if_neg hnn]
                rw [hB] at hq
                have hI2 : aI (deriveF A' n sc).2 = aI A' + 1 := by rw [hst]; rfl
                refine ⟨_, _, hC2, hok, rfl, fun z _ => ?_, fun i hi h3 hC3 hfr3 _ => ?_⟩
                · rw [hres, hI2, ixN_nI (by omega) (by omega)] at z; cases z
                · rw [hres, hI2, ixN_nI (by omega) (by omega)] at hi
                  cases hi
                  refine x_if_eq (q := 49) F 52 dX6_batch_46 (by decide) rfl (fun c46 => ?_) (fun c46 => ?_)
                  · exact absurd c46 (by decide)
                  · refine x_iinc (q := 52) F dX6_batch_49 rfl rfl (nI_1 came) (by decide) ?_
                    refine x_ls [(0, .ref (ad2 (1, 0))), (1, .int (nI sc)), (2, .int (nI (came + 1))), (3, .int (nI (aI A))), (4, .int (nI n))] rfl ?_
                    refine next (came + 1) (joinA (deriveF A' n sc).2 (aI A')) ad2 h3 (by omega) hC3 (joinA_ok hok (by omega)) ((hfr.tr hfr2).tr hfr3) (by show aI A ≤ aI (deriveF A' n sc).2; omega) (hsm.1.trans hsS) (fun ad4 h4 k1 k2 => ?_)
                    have e9 : came + 1 + (batF sc f (n + 1) (joinA (deriveF A' n sc).2 (aI A'))).1 = came + ((batF sc f (n + 1) (joinA (deriveF A' n sc).2 (aI A'))).1 + 1) := by omega
                    rw [e9] at k1 ⊢
                    exact hq ad4 h4 k1 k2
          · rw [decide_eq_false hf]
            have hB : batF sc (f + 1) n A' = batF sc f (n + 1) A' := by rw [batF, if_neg hf]
            rw [hB] at hq
            refine x_if_eq (q := 35) F 52 dX6_batch_32 (by decide) rfl (fun c32 => ?_) (fun c32 => ?_)
            · refine x_widen (k2 := 3 * (n + 1)) (n2 := 48 * (n + 1)) (by show 3 * n + 0 ≤ _; omega) (by show 48 * n + 0 ≤ _; omega) ?_
              exact next came A' ad' h' (by omega) hC' hA' hfr hle hsS hq
            · exact absurd rfl c32
    refine x_ifnonnull (q := 8) F 10 dX6_batch_5 (by decide) rfl (by first | exact xref_r | exact xref_n | exact xref_f _ | assumption) (fun a5 c5 => ?_) (fun c5 => ?_)
    · refine x_iconst (q := 11) (v := 0) F dX6_batch_10 rfl (by decide) ?_
      refine x_istore_n (q := 12) F dX6_batch_11 rfl (by decide) ?_
      refine x_aload_n (q := 13) F dX6_batch_12 rfl rfl (by first | exact xref_r | exact xref_n | exact xref_f _ | assumption) ?_
      refine x_get (q := 16) F dX6_batch_13 rfl fs_X6_41 hC.1 rfl ?_
      refine x_istore_n (q := 17) F dX6_batch_16 rfl (by decide) ?_
      refine x_iconst (q := 18) (v := 0) F dX6_batch_17 rfl (by decide) ?_
      refine x_istore (q := 20) F dX6_batch_18 rfl (by decide) ?_
      refine x_ls [(0, .ref (ad (1, 0))), (1, .int (nI sc)), (2, .int (nI 0)), (3, .int (nI (aI A))), (4, .int (nI 0))] rfl ?_
      exact loop (aI A) 0 0 A ad h (by omega) (by omega) hC hA fr40.rf (Nat.le_refl _) rfl (fun ad2 h2 k1 k2 => by rw [Nat.zero_add] at k1 ⊢; exact hQ ad2 h2 k1 k2)
    · cases c5
theorem leftA_ok {A : AS} (hA : aOK A) {n : Nat} (hn : n < aI A) : aOK (leftA A n) := hA.item ((hA.2.2.2.1.2 n hn).bt _ (fun x z => by cases z))
theorem undF_le : ∀ (n : Nat) (A : AS), (undF n A).1 ≤ n := by
  intro n
  induction n with
  | zero => intro A; exact Nat.le_refl _
  | succ n ih =>
    intro A
    unfold undF
    by_cases z : iBt (aItm A n) = some (aOb A)
    · rw [if_pos z]
      by_cases y : hasDer (leftA A n) n = true ∨ iGn (aItm (leftA A n) n) = true
      · rw [if_pos y]; have := ih (leftA A n); omega
      · rw [if_neg y]
        show (undF n (goneA (leftA A n) n)).1 + 1 ≤ n + 1
        have := ih (goneA (leftA A n) n); omega
    · rw [if_neg z]; have := ih A; omega
/-- an item of a batch is derived -/
def btFr (A : AS) : Prop := ∀ i, i < aI A → iBt (aItm A i) ≠ none → iFr (aItm A i) ≠ none
theorem btFr.upd {A : AS} (h : btFr A) {n : Nat} {d : ItmD} (hd : iBt d ≠ none → iFr d ≠ none) : btFr (setIt A (aI A, updI (aItm A) n d)) := by
  intro i hi
  have hi : i < aI A := hi
  show iBt (updI (aItm A) n d i) ≠ none → iFr (updI (aItm A) n d i) ≠ none
  by_cases z : i = n
  · rw [show updI (aItm A) n d i = d from if_pos z]; exact hd
  · rw [show updI (aItm A) n d i = aItm A i from if_neg z]; exact h i hi
set_option maxRecDepth 100000 in
set_option maxHeartbeats 4000000 in
theorem c_X6_undo : Ct yX6_undo cX6_undo 3 (some .int) (xrm 3 0 0) (fun ad h av Q => ∃ A, pC ad h A ∧ aOK A ∧ btFr A ∧ av = [.ref (ad (1, 0))] ∧ ∀ ad' h', pC ad' h' (undoF A).2 → fr40 h h' → Q (some (.int (undoF A).1)) ad' h') := by
  refine Ct.of (by decide) ?_
  intro p l e s m args below meth c0 G ad h av Q F hsp
  obtain ⟨A, hC, hA, hbf, rfl, hQ⟩ := hsp
  have hnI := hA.2.2.2.1.1
  have hob := hA.2.2.2.2.2.2.2.1
  refine ⟨x_ent rfl rfl, ?_⟩
  refine x_ls [(0, .ref (ad (1, 0)))] rfl ?_
  refine x_aload_n (q := 1) F dX6_undo_0 rfl rfl (by first | exact xref_r | exact xref_n | exact xref_f _ | assumption) ?_
  refine x_get (q := 4) F dX6_undo_1 rfl fs_X6_44 hC.1 rfl ?_
  by_cases hz : aOb A = 0
  · have hF : undoF A = (-1, A) := if_pos hz
    rw [hF] at hQ
    refine x_if_ne (q := 7) F 9 dX6_undo_4 (by decide) rfl (fun c4 => ?_) (fun c4 => ?_)
    · exact absurd (by rw [hz]; rfl) c4
    · refine x_iconst (q := 8) (v := -1) F dX6_undo_7 rfl (by decide) ?_
      refine x_iret F dX6_undo_8 (xle rfl) (xle rfl) ?_
      exact hQ ad h hC fr40.rf
  · have hF : undoF A = (nI (undF (aI A) (setOb A (aOb A - 1))).1, (undF (aI A) (setOb A (aOb A - 1))).2) := if_neg hz
    rw [hF] at hQ
    have loop : ∀ (n went : Nat) (A' : AS) (h' : xH), n ≤ aI A' → went + n ≤ 60 → pC ad h' A' → aOK A' → btFr A' → fr40 h h' →
        (∀ ad'' h'', pC ad'' h'' (undF n A').2 → fr40 h h'' → Q (some (.int (nI (went + (undF n A').1)))) ad'' h'') →
        xX p l e (xrm 3 0 0) s m args below meth c0 G ad h 3 (xZ below G ad h Q args s (xrm 3 0 0)) 28 [(0, .ref (ad (1, 0))), (1, .int (nI went)), (2, .int (nI n - 1))] [] ad h' 0 0 := by
      intro n
      induction n with
      | zero =>
        intro went A' h' hn hw hC' hA' hb' hfr hq
        refine x_iload_n (q := 29) F dX6_undo_28 rfl rfl ?_
        refine x_if_lt (q := 32) F 62 dX6_undo_29 (by decide) rfl (fun c29 => ?_) (fun c29 => ?_)
        · refine x_iload_n (q := 63) F dX6_undo_62 rfl rfl ?_
          refine x_iret F dX6_undo_63 (xle rfl) (xle rfl) ?_
          exact hq ad h' hC' hfr
        · exact absurd (by decide) c29
      | succ n ih =>
        intro went A' h' hn hw hC' hA' hb' hfr hq
        have hnI' := hA'.2.2.2.1.1
        have next : ∀ (w' : Nat) (B : AS) (h2 : xH), n ≤ aI B → w' + n ≤ 60 → pC ad h2 B → aOK B → btFr B → fr40 h h2 → (∀ ad'' h'', pC ad'' h'' (undF n B).2 → fr40 h h'' → Q (some (.int (nI (w' + (undF n B).1)))) ad'' h'') → xX p l e (xrm 3 0 0) s m args below meth c0 G ad h 3 (xZ below G ad h Q args s (xrm 3 0 0)) 56 [(0, .ref (ad (1, 0))), (1, .int (nI w')), (2, .int (nI n))] [] ad h2 0 0 := by
          intro w' B h2 k1 k2 k3 k4 k5 k6 k7
          refine x_iinc (q := 59) F dX6_undo_56 rfl rfl (show nI n + Int32.ofInt (-1) = nI n - 1 by rw [Int32.sub_eq_add_neg]; rfl) (by decide) ?_
          refine x_goto F 28 dX6_undo_59 (by decide) ?_
          refine x_ls [(0, .ref (ad (1, 0))), (1, .int (nI w')), (2, .int (nI n - 1))] rfl ?_
          exact ih w' B h2 k1 k2 k3 k4 k5 k6 k7
        rw [nI_pred]
        refine x_iload_n (q := 29) F dX6_undo_28 rfl rfl ?_
        refine x_if_lt (q := 32) F 62 dX6_undo_29 (by decide) rfl (fun c29 => ?_) (fun c29 => ?_)
        · exact absurd c29 (nI_pos (by omega))
        · refine x_aload_n (q := 33) F dX6_undo_32 rfl rfl (by first | exact xref_r | exact xref_n | exact xref_f _ | assumption) ?_
          refine x_iload_n (q := 34) F dX6_undo_33 rfl rfl ?_
          refine x_callV1 (q := 37) F (1, 0) c_X6_leaveBatch dX6_undo_34 rfl mv_X6_leaveBatch ml_X6_157 ⟨⟨xle rfl, xle rfl⟩, xle rfl, xle rfl⟩ rfl hC'.1 (xle rfl) ?_
          refine ⟨A', n, hC', hA', by omega, rfl, fun z _ => ?_, fun z h2 hC2 hfr2 _ => ?_⟩
          · have hU : undF (n + 1) A' = undF n A' := by rw [undF, if_neg z]
            rw [hU] at hq
            refine x_if_eq (q := 40) F 56 dX6_undo_37 (by decide) rfl (fun c37 => ?_) (fun c37 => ?_)
            · exact next went A' h' (by omega) (by omega) hC' hA' hb' hfr hq
            · exact absurd rfl c37
          · have hU : undF (n + 1) A' = if hasDer (leftA A' n) n = true ∨ iGn (aItm (leftA A' n) n) = true then undF n (leftA A' n) else ((undF n (goneA (leftA A' n) n)).1 + 1, (undF n (goneA (leftA A' n) n)).2) := by rw [undF, if_pos z]
            rw [hU] at hq
            have hok := leftA_ok hA' (show n < aI A' by omega)
            have hb2 : btFr (leftA A' n) := hb'.upd (fun w => absurd rfl w)
            have hfr' : iFr (aItm (leftA A' n) n) ≠ none := by
              show iFr (updI (aItm A') n (setBt (aItm A' n) none) n) ≠ none
              rw [show updI (aItm A') n (setBt (aItm A' n) none) n = setBt (aItm A' n) none from if_pos rfl]
              exact hb' n (by omega) (by rw [z]; exact fun w => by cases w)
            refine x_if_eq (q := 40) F 56 dX6_undo_37 (by decide) rfl (fun c37 => ?_) (fun c37 => ?_)
            · exact absurd c37 (by decide)
            · refine x_aload_n (q := 41) F dX6_undo_40 rfl rfl (by first | exact xref_r | exact xref_n | exact xref_f _ | assumption) ?_
              refine x_iload_n (q := 42) F dX6_undo_41 rfl rfl ?_
              refine x_callV1 (q := 45) F (1, 0) c_X6_hasDerived dX6_undo_42 rfl mv_X6_hasDerived ml_X6_160 ⟨⟨xle rfl, xle rfl⟩, xle rfl, xle rfl⟩ rfl hC2.1 (xle rfl) ?_
              refine ⟨leftA A' n, n, hC2, hok, rfl, by omega, fun _ => ?_⟩
              cases hd : hasDer (leftA A' n) n with
              | true =>
                rw [if_pos (Or.inl hd)] at hq
                refine x_if_ne (q := 48) F 56 dX6_undo_45 (by decide) rfl (fun c45 => ?_) (fun c45 => ?_)
                · exact next went (leftA A' n) h2 (by show n ≤ aI A'; omega) (by omega) hC2 hok hb2 (hfr.tr hfr2) hq
                · exact absurd c45 (by decide)
              | false =>
                refine x_if_ne (q := 48) F 56 dX6_undo_45 (by decide) rfl (fun c45 => ?_) (fun c45 => ?_)
                · exact absurd rfl c45
                · refine x_iload_n (q := 49) F dX6_undo_48 rfl rfl ?_
                  refine x_aload_n (q := 50) F dX6_undo_49 rfl rfl (by first | exact xref_r | exact xref_n | exact xref_f _ | assumption) ?_
                  refine x_iload_n (q := 51) F dX6_undo_50 rfl rfl ?_
                  refine x_callV1 (q := 54) F (1, 0) c_X6_dismiss dX6_undo_51 rfl mv_X6_dismiss ml_X6_163 ⟨⟨xle rfl, xle rfl⟩, xle rfl, xle rfl⟩ rfl hC2.1 (xle rfl) ?_
                  refine ⟨leftA A' n, n, hC2, hok, by show n < aI A'; omega, rfl, fun w _ => ?_, fun w h3 hC3 hfr3 _ => ?_⟩
                  · rw [if_pos (Or.inr w)] at hq
                    refine x_iadd (q := 55) F dX6_undo_54 rfl ?_
                    refine x_topi (y := nI went) (by show nI went + nI 0 = _; rw [nI_add]; rfl) ?_
                    refine x_istore_n (q := 56) F dX6_undo_55 rfl (by decide) ?_
                    refine x_ls [(0, .ref (ad (1, 0))), (1, .int (nI went)), (2, .int (nI n))] rfl ?_
                    exact next went (leftA A' n) h2 (by show n ≤ aI A'; omega) (by omega) hC2 hok hb2 (hfr.tr hfr2) hq
                  · rw [if_neg (fun v => by rcases v with v | v; rw [hd] at v; cases v; rw [w] at v; cases v)] at hq
                    refine x_iadd (q := 55) F dX6_undo_54 rfl ?_
                    refine x_topi (nI_1 went) ?_
                    refine x_istore_n (q := 56) F dX6_undo_55 rfl (by decide) ?_
                    refine x_ls [(0, .ref (ad (1, 0))), (1, .int (nI (went + 1))), (2, .int (nI n))] rfl ?_
                    refine next (went + 1) (goneA (leftA A' n) n) h3 (by show n ≤ aI A'; omega) (by omega) hC3 (hok.item ((hok.2.2.2.1.2 n (show n < aI A' by omega)).gn hfr')) (hb2.upd (fun v => hfr')) ((hfr.tr hfr2).tr hfr3) (fun ad4 h4 k1 k2 => ?_)
                    have := hq ad4 h4 k1 k2
                    rw [show went + 1 + (undF n (goneA (leftA A' n) n)).1 = went + ((undF n (goneA (leftA A' n) n)).1 + 1) by omega]
                    exact this
    refine x_if_ne (q := 7) F 9 dX6_undo_4 (by decide) rfl (fun c4 => ?_) (fun c4 => ?_)
    · refine x_aload_n (q := 10) F dX6_undo_9 rfl rfl (by first | exact xref_r | exact xref_n | exact xref_f _ | assumption) ?_
      refine x_dup (q := 11) F dX6_undo_10 rfl rfl ?_
      refine x_get (q := 14) F dX6_undo_11 rfl fs_X6_44 hC.1 rfl ?_
      refine x_iconst (q := 15) (v := 1) F dX6_undo_14 rfl (by decide) ?_
      refine x_isub (q := 16) F dX6_undo_15 rfl ?_
      refine x_topi (y := nI (aOb A - 1)) (by show nI (aOb A) - nI 1 = _; exact pk_sub (by omega)) ?_
      refine x_put (q := 19) F dX6_undo_16 rfl fs_X6_44 hC.1 (xle rfl) rfl rfl ?_
      have hC1 : pC ad _ (setOb A (aOb A - 1)) := hC.main (B := setOb A (aOb A - 1)) ⟨rfl, rfl, rfl, rfl, rfl, rfl, rfl⟩
      refine x_iconst (q := 20) (v := 0) F dX6_undo_19 rfl (by decide) ?_
      refine x_istore_n (q := 21) F dX6_undo_20 rfl (by decide) ?_
      refine x_aload_n (q := 22) F dX6_undo_21 rfl rfl (by first | exact xref_r | exact xref_n | exact xref_f _ | assumption) ?_
      refine x_get (q := 25) F dX6_undo_22 rfl fs_X6_41 hC1.1 rfl ?_
      refine x_iconst (q := 26) (v := 1) F dX6_undo_25 rfl (by decide) ?_
      refine x_isub (q := 27) F dX6_undo_26 rfl ?_
      refine x_istore_n (q := 28) F dX6_undo_27 rfl (by decide) ?_
      refine x_ls [(0, .ref (ad (1, 0))), (1, .int (nI 0)), (2, .int (nI (aI A) - 1))] rfl ?_
      exact loop (aI A) 0 (setOb A (aOb A - 1)) _ (Nat.le_refl _) (by omega) hC1 (hA.ob (by omega)) hbf (fr40.up (by decide)) (fun ad2 h2 k1 k2 => by rw [Nat.zero_add]; exact hQ ad2 h2 k1 k2)
    · exact absurd ((nI_eq (b := 0) (by omega) (by omega)).mp c4) hz
end
section
/-! ===== a new object ===== -/
def clampN (c : Nat) (x : Int32) : Nat := if x < 0 then 0 else min x.toNatClampNeg c
theorem clampN_le (c : Nat) (x : Int32) : clampN c x ≤ c := by
  unfold clampN
  by_cases z : x < 0
  · rw [if_pos z]; omega
  · rw [if_neg z]; omega
theorem clamp_eq {c : Nat} (hc : c < 2 ^ 30) (x : Int32) : (if 0 < (if nI c < x then nI c else x) then (if nI c < x then nI c else x) else 0) = nI (clampN c x) := by
  unfold clampN
  by_cases z : x < 0
  · have h1 : ¬ nI c < x := fun w => by
      have a := Int32.lt_iff_toInt_lt.mp w
      have b := Int32.lt_iff_toInt_lt.mp z
      rw [nI_toInt (by omega)] at a
      have : (0 : Int32).toInt = 0 := rfl
      omega
    have h2 : ¬ 0 < x := fun w => by
      have a := Int32.lt_iff_toInt_lt.mp w
      have b := Int32.lt_iff_toInt_lt.mp z
      omega
    rw [if_neg h1, if_neg h2, if_pos z]
    rfl
  · obtain ⟨j, hj, rfl⟩ := nI_of z
    rw [if_neg z, nI_clamp hj]
    by_cases q : c < j
    · rw [if_pos ((nI_ltI (by omega) hj).mpr q), Nat.min_eq_right (by omega)]
      by_cases w : 0 < c
      · rw [if_pos (show (0 : Int32) < nI c from (nI_ltI (a := 0) (b := c) (by omega) (by omega)).mpr w)]
      · rw [if_neg (show ¬ (0 : Int32) < nI c from fun v => w ((nI_ltI (a := 0) (b := c) (by omega) (by omega)).mp v)), show c = 0 by omega]
        rfl
    · rw [if_neg (fun v => q ((nI_ltI (by omega) hj).mp v)), Nat.min_eq_left (by omega)]
      by_cases w : 0 < j
      · rw [if_pos (show (0 : Int32) < nI j from (nI_ltI (a := 0) (b := j) (by omega) (by omega)).mpr w)]
      · rw [if_neg (show ¬ (0 : Int32) < nI j from fun v => w ((nI_ltI (a := 0) (b := j) (by omega) (by omega)).mp v)), show j = 0 by omega]
        rfl
def dItm : ItmD := ((0, fun _ => 0), (none, none, 0), (none, false))
def dScr : ScrD := ((0, fun _ => 0, fun _ => 0), (0, fun _ => 0, fun _ => 0), (0, fun _ => 0, fun _ => 0), none)
def newA (x y : Int32) : AS := ((0, fun _ => 0), (0, fun _ => 0), (0, fun _ => dScr), (0, fun _ => dItm), (clampN 2000 x, clampN 32 y), (0, fun _ => 0), (none, 0), (0, none, 0))
theorem newA_ok (x y : Int32) : aOK (newA x y) := ⟨⟨Nat.zero_le _, fun j hj => absurd hj (Nat.not_lt_zero j)⟩, ⟨Nat.zero_le _, fun j hj => absurd hj (Nat.not_lt_zero j)⟩, ⟨Nat.zero_le _, fun j hj => absurd hj (Nat.not_lt_zero j)⟩, ⟨Nat.zero_le _, fun j hj => absurd hj (Nat.not_lt_zero j)⟩, ⟨clampN_le _ _, clampN_le _ _⟩, ⟨Nat.zero_le _, fun j hj => absurd hj (Nat.not_lt_zero j)⟩, fun x hx => (by cases hx), Nat.zero_le _, fun x hx => (by cases hx)⟩
set_option maxRecDepth 100000 in
set_option maxHeartbeats 4000000 in
theorem c_X6_init : Ct yX6_init cX6_init 3 none (xrm 3 12 480) (fun ad h av Q => ∃ x y, av = [.ref (ad (1, 0)), .int x, .int y] ∧ h (1, 0) = some (.inr (6, [.null, .null, .null, .null, .null, .int 0, .int 0, .int 0, .int 0, .int 0])) ∧ (∀ t : Tg, 2 ≤ t.1 → t.1 < 40 → h t = none) ∧
    ∀ ad' h', pC ad' h' (newA x y) → fr40 h h' → Q none ad' h') := by
  refine Ct.of (by decide) ?_
  intro p l e s m args below meth c0 G ad h av Q F hsp
  obtain ⟨x, y, rfl, e1, hn, hQ⟩ := hsp
  refine ⟨x_ent rfl rfl, ?_⟩
  refine x_ls [(0, .ref (ad (1, 0))), (1, .int x), (2, .int y)] rfl ?_
  refine x_aload_n (q := 1) F dX6_init_0 rfl rfl (by first | exact xref_r | exact xref_n | exact xref_f _ | assumption) ?_
  refine x_objInit (q := 4) F dX6_init_1 rfl ml_X6_1 oi_i oi_c (xle rfl) (xle rfl) ?_
  refine x_aload_n (q := 5) F dX6_init_4 rfl rfl (by first | exact xref_r | exact xref_n | exact xref_f _ | assumption) ?_
  refine x_new (q := 8) F (2, 0) [.null, .null, .null, .int 0, .int 0] dX6_init_5 rfl (ci := 5) rfl ⟨cl_X6_7, im_X5, iz_X5⟩ (hn (2, 0) (by decide) (by decide)) df_X5 (xle rfl) (xle rfl) (fun ad1 E1 => ?_)
  rw [← E1 (1, 0) (by decide)]
  refine x_dup (q := 9) F dX6_init_8 rfl rfl ?_
  refine x_callN0 (q := 12) F (2, 0) "MigrateSteps" c_X5_init dX6_init_9 rfl mi_X5_init mn_X6_9 ⟨⟨xle rfl, xle rfl⟩, xle rfl, xle rfl⟩ (xle rfl) ?_
  refine ⟨rfl, xup_self _ _ _, xkn (hn (3, 0) (by decide) (by decide)), xkn (hn (4, 0) (by decide) (by decide)), xkn (hn (5, 0) (by decide) (by decide)), fun ad2 h2 E2 t2 t3 t4 t5 o2 _ => ?_⟩
  rw [← E2 (1, 0) (by decide) (by decide) (by decide), ← E2 (2, 0) (by decide) (by decide) (by decide)]
  have m2 : h2 (1, 0) = some (.inr (6, [.null, .null, .null, .null, .null, .int 0, .int 0, .int 0, .int 0, .int 0])) := (o2 (1, 0) (by decide) (by decide) (by decide) (by decide)).trans (xk e1)
  have f2 : ∀ t : Tg, 6 ≤ t.1 → t.1 < 40 → h2 t = none := fun t q1 q2 => by
    rw [o2 t (fun z => by rw [z] at q1; exact absurd q1 (by decide)) (fun z => by rw [z] at q1; exact absurd q1 (by decide)) (fun z => by rw [z] at q1; exact absurd q1 (by decide)) (fun z => by rw [z] at q1; exact absurd q1 (by decide)), up_ne (by omega)]
    exact hn t (by omega) q2
  have g2 : fr40 h h2 := fun t ht => by
    rw [o2 t (fun z => by rw [z] at ht; exact absurd ht (by decide)) (fun z => by rw [z] at ht; exact absurd ht (by decide)) (fun z => by rw [z] at ht; exact absurd ht (by decide)) (fun z => by rw [z] at ht; exact absurd ht (by decide)), up_ne (by omega)]
  clear o2
  refine x_putF (q := 15) F dX6_init_12 rfl fs_X6_10 rfl rfl m2 (xle rfl) rfl rfl ?_
  refine x_aload_n (q := 16) F dX6_init_15 rfl rfl (by first | exact xref_r | exact xref_n | exact xref_f _ | assumption) ?_
  refine x_new (q := 19) F (6, 0) [.null, .int 0] dX6_init_16 rfl (ci := 0) rfl ⟨cl_X6_16, im_X0, iz_X0⟩ (xkn (f2 (6, 0) (by decide) (by decide))) df_X0 (xle rfl) (xle rfl) (fun ad3 E3 => ?_)
  have E3' : ∀ {k : Nat}, k ≠ 6 → ad3 (k, 0) = ad2 (k, 0) := fun q => E3 _ (tg_ne q _ _)
  rw [← E3' (k := 1) (by decide), ← E3' (k := 2) (by decide)]
  rw [← E3' (k := 3) (by decide), ← E3' (k := 4) (by decide), ← E3' (k := 5) (by decide)] at t2
  refine x_dup (q := 20) F dX6_init_19 rfl rfl ?_
  refine x_bipush (q := 22) (v := 40) F dX6_init_20 rfl (by decide) ?_
  refine x_newaI (q := 24) (N := 40) F (7, 0) dX6_init_22 rfl ac_int rfl (by omega) (xkn (xkn (f2 (7, 0) (by decide) (by decide)))) (xle rfl) (xle rfl) (fun ad4 E4 => ?_)
  have E4' : ∀ {k : Nat}, k ≠ 7 → ad4 (k, 0) = ad3 (k, 0) := fun q => E4 _ (tg_ne q _ _)
  rw [← E4' (k := 1) (by decide), ← E4' (k := 2) (by decide), ← E4' (k := 6) (by decide)]
  rw [← E4' (k := 3) (by decide), ← E4' (k := 4) (by decide), ← E4' (k := 5) (by decide)] at t2
  refine x_iconst (q := 25) (v := 0) F dX6_init_24 rfl (by decide) ?_
  refine x_callI2 (q := 28) F (6, 0) c_X0_init dX6_init_25 rfl mi_X0_init ml_X6_18 ⟨⟨xle rfl, xle rfl⟩, xle rfl, xle rfl⟩ (xle rfl) ?_
  refine ⟨(6, 0), (7, 0), _, _, _, rfl, xk (xup_self _ _ _), fun _ => ?_⟩
  refine x_putF (q := 31) F dX6_init_28 rfl fs_X6_21 rfl rfl (xk (xk (xk (xup_self _ _ _)))) (xle rfl) rfl rfl ?_
  refine x_aload_n (q := 32) F dX6_init_31 rfl rfl (by first | exact xref_r | exact xref_n | exact xref_f _ | assumption) ?_
  refine x_bipush (q := 34) (v := 10) F dX6_init_32 rfl (by decide) ?_
  refine x_newq4 (q := 37) (N := 10) F (8, 0) dX6_init_34 rfl cl_X6_25 rfl (by omega) (xkn (xkn (xkn (xkn (xkn (f2 (8, 0) (by decide) (by decide))))))) (xle rfl) (xle rfl) (fun ad5 E5 => ?_)
  have E5' : ∀ {k : Nat}, k ≠ 8 → ad5 (k, 0) = ad4 (k, 0) := fun q => E5 _ (tg_ne q _ _)
  rw [← E5' (k := 1) (by decide), ← E5' (k := 2) (by decide), ← E5' (k := 6) (by decide), ← E5' (k := 7) (by decide)]
  rw [← E5' (k := 3) (by decide), ← E5' (k := 4) (by decide), ← E5' (k := 5) (by decide)] at t2
  refine x_putF (q := 40) F dX6_init_37 rfl fs_X6_27 rfl rfl (xk (xup_self _ _ _)) (xle rfl) rfl rfl ?_
  refine x_aload_n (q := 41) F dX6_init_40 rfl rfl (by first | exact xref_r | exact xref_n | exact xref_f _ | assumption) ?_
  refine x_bipush (q := 43) (v := 60) F dX6_init_41 rfl (by decide) ?_
  refine x_newq5 (q := 46) (N := 60) F (9, 0) dX6_init_43 rfl cl_X6_31 rfl (by omega) (xkn (xkn (xkn (xkn (xkn (xkn (xkn (f2 (9, 0) (by decide) (by decide))))))))) (xle rfl) (xle rfl) (fun ad6 E6 => ?_)
  have E6' : ∀ {k : Nat}, k ≠ 9 → ad6 (k, 0) = ad5 (k, 0) := fun q => E6 _ (tg_ne q _ _)
  rw [← E6' (k := 1) (by decide), ← E6' (k := 2) (by decide), ← E6' (k := 6) (by decide), ← E6' (k := 7) (by decide), ← E6' (k := 8) (by decide)]
  rw [← E6' (k := 3) (by decide), ← E6' (k := 4) (by decide), ← E6' (k := 5) (by decide)] at t2
  refine x_putF (q := 49) F dX6_init_46 rfl fs_X6_33 rfl rfl (xk (xup_self _ _ _)) (xle rfl) rfl rfl ?_
  refine x_aload_n (q := 50) F dX6_init_49 rfl rfl (by first | exact xref_r | exact xref_n | exact xref_f _ | assumption) ?_
  refine x_iconst (q := 51) (v := 0) F dX6_init_50 rfl (by decide) ?_
  refine x_put (q := 54) F dX6_init_51 rfl fs_X6_37 (xup_self _ _ _) (xle rfl) rfl rfl ?_
  refine x_h (xup_xup _ _ _ _) ?_
  refine x_aload_n (q := 55) F dX6_init_54 rfl rfl (by first | exact xref_r | exact xref_n | exact xref_f _ | assumption) ?_
  refine x_iconst (q := 56) (v := 0) F dX6_init_55 rfl (by decide) ?_
  refine x_put (q := 59) F dX6_init_56 rfl fs_X6_41 (xup_self _ _ _) (xle rfl) rfl rfl ?_
  refine x_h (xup_xup _ _ _ _) ?_
  refine x_aload_n (q := 60) F dX6_init_59 rfl rfl (by first | exact xref_r | exact xref_n | exact xref_f _ | assumption) ?_
  refine x_iconst (q := 61) (v := 0) F dX6_init_60 rfl (by decide) ?_
  refine x_put (q := 64) F dX6_init_61 rfl fs_X6_44 (xup_self _ _ _) (xle rfl) rfl rfl ?_
  refine x_h (xup_xup _ _ _ _) ?_
  refine x_aload_n (q := 65) F dX6_init_64 rfl rfl (by first | exact xref_r | exact xref_n | exact xref_f _ | assumption) ?_
  refine x_iconst (q := 66) (v := -1) F dX6_init_65 rfl (by decide) ?_
  refine x_put (q := 69) F dX6_init_66 rfl fs_X6_47 (xup_self _ _ _) (xle rfl) rfl rfl ?_
  refine x_h (xup_xup _ _ _ _) ?_
  refine x_aload_n (q := 70) F dX6_init_69 rfl rfl (by first | exact xref_r | exact xref_n | exact xref_f _ | assumption) ?_
  refine x_iconst (q := 71) (v := 0) F dX6_init_70 rfl (by decide) ?_
  refine x_put (q := 74) F dX6_init_71 rfl fs_X6_50 (xup_self _ _ _) (xle rfl) rfl rfl ?_
  refine x_h (xup_xup _ _ _ _) ?_
  refine x_aload_n (q := 75) F dX6_init_74 rfl rfl (by first | exact xref_r | exact xref_n | exact xref_f _ | assumption) ?_
  refine x_new (q := 78) F (10, 0) [.int 0, .null, .null, .int 0, .int 0, .int 0, .int 0, .int 0, .long 0] dX6_init_75 rfl (ci := 3) rfl ⟨cl_X6_53, im_X3, iz_X3⟩ (xkn (xkn (xkn (xkn (xkn (xkn (xkn (xkn (xkn (f2 (10, 0) (by decide) (by decide))))))))))) df_X3 (xle rfl) (xle rfl) (fun ad7 E7 => ?_)
  have E7' : ∀ {k : Nat}, k ≠ 10 → ad7 (k, 0) = ad6 (k, 0) := fun q => E7 _ (tg_ne q _ _)
  rw [← E7' (k := 1) (by decide), ← E7' (k := 2) (by decide), ← E7' (k := 6) (by decide), ← E7' (k := 7) (by decide), ← E7' (k := 8) (by decide), ← E7' (k := 9) (by decide)]
  rw [← E7' (k := 3) (by decide), ← E7' (k := 4) (by decide), ← E7' (k := 5) (by decide)] at t2
  refine x_dup (q := 79) F dX6_init_78 rfl rfl ?_
  refine x_iconst (q := 80) (v := 0) F dX6_init_79 rfl (by decide) ?_
  refine x_iload_n (q := 81) F dX6_init_80 rfl rfl ?_
  refine x_sipush (q := 84) (v := 2000) F dX6_init_81 rfl (by decide) ?_
  refine x_mmin (q := 87) F dX6_init_84 rfl ml_X6_55 mw_min (xle rfl) (xle rfl) (xle rfl) (xle rfl) ?_
  refine x_mmax (q := 90) F dX6_init_87 rfl ml_X6_61 mw_max (xle rfl) (xle rfl) (xle rfl) (xle rfl) ?_
  refine x_topi (y := nI (clampN 2000 x)) (clamp_eq (c := 2000) (by omega) x) ?_
  refine x_iconst (q := 91) (v := 0) F dX6_init_90 rfl (by decide) ?_
  refine x_iload_n (q := 92) F dX6_init_91 rfl rfl ?_
  refine x_bipush (q := 94) (v := 32) F dX6_init_92 rfl (by decide) ?_
  refine x_mmin (q := 97) F dX6_init_94 rfl ml_X6_55 mw_min (xle rfl) (xle rfl) (xle rfl) (xle rfl) ?_
  refine x_mmax (q := 100) F dX6_init_97 rfl ml_X6_61 mw_max (xle rfl) (xle rfl) (xle rfl) (xle rfl) ?_
  refine x_topi (y := nI (clampN 32 y)) (clamp_eq (c := 32) (by omega) y) ?_
  have hnc := clampN_le 32 y
  refine x_newaI (q := 102) (N := (clampN 32 y)) F (11, 0) dX6_init_100 rfl ac_int rfl (by omega) (xkn (xkn (xkn (xkn (xkn (xkn (xkn (xkn (xkn (xkn (f2 (11, 0) (by decide) (by decide)))))))))))) (xle rfl) (by show 406 + clampN 32 y ≤ 480; omega) (fun ad8 E8 => ?_)
  refine x_widen (k2 := 10) (n2 := 438) (xle rfl) (by show 406 + clampN 32 y ≤ 438; omega) ?_
  have E8' : ∀ {k : Nat}, k ≠ 11 → ad8 (k, 0) = ad7 (k, 0) := fun q => E8 _ (tg_ne q _ _)
  rw [← E8' (k := 1) (by decide), ← E8' (k := 2) (by decide), ← E8' (k := 6) (by decide), ← E8' (k := 7) (by decide), ← E8' (k := 8) (by decide), ← E8' (k := 9) (by decide), ← E8' (k := 10) (by decide)]
  rw [← E8' (k := 3) (by decide), ← E8' (k := 4) (by decide), ← E8' (k := 5) (by decide)] at t2
  refine x_callI2 (q := 105) F (10, 0) c_X3_init dX6_init_102 rfl mi_X3_init ml_X6_64 ⟨⟨xle rfl, xle rfl⟩, xle rfl, xle rfl⟩ (xle rfl) ?_
  refine ⟨clampN 2000 x, rfl, xk (xup_self _ _ _), (by rw [xup_self]; exact fun z => (by cases z)), xkn (xkn (xkn (xkn (xkn (xkn (xkn (xkn (xkn (xkn (xkn (f2 (12, 0) (by decide) (by decide)))))))))))), xkn (xkn (xkn (xkn (xkn (xkn (xkn (xkn (xkn (xkn (xkn (f2 (13, 0) (by decide) (by decide)))))))))))), fun ad9 h9 E9 r10 r12 r13 o9 _ => ?_⟩
  have E9' : ∀ {k : Nat}, k ≠ 12 → k ≠ 13 → ad9 (k, 0) = ad8 (k, 0) := fun q q' => E9 _ (tg_ne q _ _) (tg_ne q' _ _)
  rw [← E9' (k := 1) (by decide) (by decide), ← E9' (k := 10) (by decide) (by decide)]
  rw [← E9' (k := 3) (by decide) (by decide), ← E9' (k := 4) (by decide) (by decide), ← E9' (k := 5) (by decide) (by decide)] at t2
  have o9' : ∀ {k : Nat}, k ≠ 10 → k ≠ 12 → k ≠ 13 → h9 (k, 0) = _ := fun {k} q q' q'' => o9 (k, 0) (tg_ne q _ _) (tg_ne q' _ _) (tg_ne q'' _ _)
  have m9 : h9 (1, 0) = some (.inr (6, [.ref (ad9 (2, 0)), .ref (ad9 (6, 0)), .ref (ad9 (8, 0)), .ref (ad9 (9, 0)), .null, .int 0, .int 0, .int 0, .int (-1), .int 0])) := by
    rw [o9' (by decide) (by decide) (by decide), E9' (k := 2) (by decide) (by decide), E9' (k := 6) (by decide) (by decide), E9' (k := 8) (by decide) (by decide), E9' (k := 9) (by decide) (by decide)]
    exact xk (xk (xup_self _ _ _))
  refine x_putF (q := 108) F dX6_init_105 rfl fs_X6_67 rfl rfl m9 (xle rfl) rfl rfl ?_
  refine x_vret F dX6_init_108 (xle rfl) (xle rfl) ?_
  refine hQ ad9 _ ⟨xup_self _ _ _, ⟨fun _ => 0, fun _ => 0, 0, ?_, ?_, ?_, ?_⟩, ⟨?_, ?_⟩, ⟨?_, fun s hs => absurd hs (Nat.not_lt_zero s), fun k s q1 q2 _ => ?_⟩, ⟨?_, fun s hs => absurd hs (Nat.not_lt_zero s), fun k s q1 q2 _ => ?_⟩, fun _ => 0, 0, 0, 0, 0, ?_, xk r13, xk r12, xk r10⟩ (fun t ht => ?_)
  · refine xk ((o9' (by decide) (by decide) (by decide)).trans ?_)
    exact xk (xk (xk (xk (xk (xk (xk (xk (xk (xk t2)))))))))
  · refine xk ((o9' (by decide) (by decide) (by decide)).trans ?_)
    exact xk (xk (xk (xk (xk (xk (xk (xk (xk (xk t3)))))))))
  · refine xk ((o9' (by decide) (by decide) (by decide)).trans ?_)
    exact xk (xk (xk (xk (xk (xk (xk (xk (xk (xk t4)))))))))
  · refine xk ((o9' (by decide) (by decide) (by decide)).trans ?_)
    exact xk (xk (xk (xk (xk (xk (xk (xk (xk (xk t5)))))))))
  · refine xk ((o9' (by decide) (by decide) (by decide)).trans ?_)
    rw [E9' (k := 7) (by decide) (by decide)]
    exact xk (xk (xk (xk (xk (xk (xk (xup_self _ _ _)))))))
  · refine xk ((o9' (by decide) (by decide) (by decide)).trans ?_)
    exact xk (xk (xk (xk (xk (xk (xk (xk (xup_self _ _ _))))))))
  · refine xk ((o9' (by decide) (by decide) (by decide)).trans ?_)
    refine xk (xk (xk (xk (xk (?_ : _ = some (cQ 4 10 (refN ad9 20 0)))))))
    rw [xup_self]
    rfl
  · rw [up_ne (by show k ≠ 1; omega), o9 (k, s) (tg_ne (by omega) _ _) (tg_ne (by omega) _ _) (tg_ne (by omega) _ _)]
    rw [up_ne (by show k ≠ 11; omega), up_ne (by show k ≠ 10; omega), up_ne (by show k ≠ 1; omega), up_ne (by show k ≠ 9; omega), up_ne (by show k ≠ 1; omega), up_ne (by show k ≠ 8; omega), up_ne (by show k ≠ 1; omega), up_ne (by show k ≠ 6; omega), up_ne (by show k ≠ 7; omega), up_ne (by show k ≠ 6; omega), up_ne (by show k ≠ 1; omega)]
    exact f2 (k, s) (by show 6 ≤ k; omega) (by show k < 40; omega)
  · refine xk ((o9' (by decide) (by decide) (by decide)).trans ?_)
    refine xk (xk (xk (?_ : _ = some (cQ 5 60 (refN ad9 30 0)))))
    rw [xup_self]
    rfl
  · rw [up_ne (by show k ≠ 1; omega), o9 (k, s) (tg_ne (by omega) _ _) (tg_ne (by omega) _ _) (tg_ne (by omega) _ _)]
    rw [up_ne (by show k ≠ 11; omega), up_ne (by show k ≠ 10; omega), up_ne (by show k ≠ 1; omega), up_ne (by show k ≠ 9; omega), up_ne (by show k ≠ 1; omega), up_ne (by show k ≠ 8; omega), up_ne (by show k ≠ 1; omega), up_ne (by show k ≠ 6; omega), up_ne (by show k ≠ 7; omega), up_ne (by show k ≠ 6; omega), up_ne (by show k ≠ 1; omega)]
    exact f2 (k, s) (by show 6 ≤ k; omega) (by show k < 40; omega)
  · refine xk ((o9' (by decide) (by decide) (by decide)).trans ?_)
    exact xup_self _ _ _
  · rw [up_ne (by omega), o9 t (fun z => by rw [z] at ht; exact absurd ht (by decide)) (fun z => by rw [z] at ht; exact absurd ht (by decide)) (fun z => by rw [z] at ht; exact absurd ht (by decide))]
    rw [up_ne (by omega), up_ne (by omega), up_ne (by omega), up_ne (by omega), up_ne (by omega), up_ne (by omega), up_ne (by omega), up_ne (by omega), up_ne (by omega), up_ne (by omega), up_ne (by omega)]
    exact g2 t ht
end
