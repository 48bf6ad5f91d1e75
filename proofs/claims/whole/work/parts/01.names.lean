-- ===== PART A: goes FIRST, ahead of the names: the tables' words, and 'selects' of the private methods out of them =====
/-- a private method of a class that the tables say can be made, by its rows of tables_1 -/
def lw_okq (q : MethodName × Nat) : Prop := (q.1.cls ≠ "java/lang/invoke/MethodHandle" ∧ q.1.cls ≠ "java/lang/invoke/VarHandle") ∧ Cond.instantiable q.1.cls q.2 ∈ tables_1 ∧ Cond.privateMethod q.1 ∈ tables_1 ∧ Cond.instanceMethod q.1 ∈ tables_1
theorem lw_p0 : lw_okq (⟨"MigrateSteps", "keep", "(LMigrateSteps$Item;)I"⟩, 10) := ⟨⟨by decide +kernel, by decide +kernel⟩, List.mem_of_getElem? (i := 24) (by decide +kernel), List.mem_of_getElem? (i := 227) (by decide +kernel), List.mem_of_getElem? (i := 228) (by decide +kernel)⟩
theorem lw_p1 : lw_okq (⟨"MigrateSteps", "scriptOf", "(I)LMigrateSteps$Script;"⟩, 10) := ⟨⟨by decide +kernel, by decide +kernel⟩, List.mem_of_getElem? (i := 24) (by decide +kernel), List.mem_of_getElem? (i := 239) (by decide +kernel), List.mem_of_getElem? (i := 240) (by decide +kernel)⟩
theorem lw_p2 : lw_okq (⟨"MigrateSteps", "liveItem", "(I)LMigrateSteps$Item;"⟩, 10) := ⟨⟨by decide +kernel, by decide +kernel⟩, List.mem_of_getElem? (i := 24) (by decide +kernel), List.mem_of_getElem? (i := 251) (by decide +kernel), List.mem_of_getElem? (i := 252) (by decide +kernel)⟩
theorem lw_p3 : lw_okq (⟨"MigrateSteps", "itemOf", "(I)LMigrateSteps$Item;"⟩, 10) := ⟨⟨by decide +kernel, by decide +kernel⟩, List.mem_of_getElem? (i := 24) (by decide +kernel), List.mem_of_getElem? (i := 255) (by decide +kernel), List.mem_of_getElem? (i := 256) (by decide +kernel)⟩
theorem lw_p4 : lw_okq (⟨"MigrateSteps", "derive", "(II)I"⟩, 10) := ⟨⟨by decide +kernel, by decide +kernel⟩, List.mem_of_getElem? (i := 24) (by decide +kernel), List.mem_of_getElem? (i := 259) (by decide +kernel), List.mem_of_getElem? (i := 260) (by decide +kernel)⟩
theorem lw_p5 : lw_okq (⟨"MigrateSteps", "hasDerivedBy", "(II)Z"⟩, 10) := ⟨⟨by decide +kernel, by decide +kernel⟩, List.mem_of_getElem? (i := 24) (by decide +kernel), List.mem_of_getElem? (i := 263) (by decide +kernel), List.mem_of_getElem? (i := 264) (by decide +kernel)⟩
theorem lw_p6 : lw_okq (⟨"MigrateSteps$Runner", "begin", "()V"⟩, 9) := ⟨⟨by decide +kernel, by decide +kernel⟩, List.mem_of_getElem? (i := 75) (by decide +kernel), List.mem_of_getElem? (i := 287) (by decide +kernel), List.mem_of_getElem? (i := 288) (by decide +kernel)⟩
theorem lw_p7 : lw_okq (⟨"MigrateSteps$Runner", "step", "(IILMigrateSteps$ByteRow;)V"⟩, 9) := ⟨⟨by decide +kernel, by decide +kernel⟩, List.mem_of_getElem? (i := 75) (by decide +kernel), List.mem_of_getElem? (i := 300) (by decide +kernel), List.mem_of_getElem? (i := 301) (by decide +kernel)⟩
theorem lw_p8 : lw_okq (⟨"MigrateSteps$Runner", "fetch", "(I)V"⟩, 9) := ⟨⟨by decide +kernel, by decide +kernel⟩, List.mem_of_getElem? (i := 75) (by decide +kernel), List.mem_of_getElem? (i := 305) (by decide +kernel), List.mem_of_getElem? (i := 306) (by decide +kernel)⟩
theorem lw_p9 : lw_okq (⟨"MigrateSteps$Runner", "putOut", "(I)V"⟩, 9) := ⟨⟨by decide +kernel, by decide +kernel⟩, List.mem_of_getElem? (i := 75) (by decide +kernel), List.mem_of_getElem? (i := 309) (by decide +kernel), List.mem_of_getElem? (i := 310) (by decide +kernel)⟩
theorem lw_p10 : lw_okq (⟨"MigrateSteps$Runner", "failIf", "(ZI)V"⟩, 9) := ⟨⟨by decide +kernel, by decide +kernel⟩, List.mem_of_getElem? (i := 75) (by decide +kernel), List.mem_of_getElem? (i := 314) (by decide +kernel), List.mem_of_getElem? (i := 315) (by decide +kernel)⟩
theorem lw_p11 : lw_okq (⟨"MigrateSteps$Runner", "store", "(I)V"⟩, 9) := ⟨⟨by decide +kernel, by decide +kernel⟩, List.mem_of_getElem? (i := 75) (by decide +kernel), List.mem_of_getElem? (i := 318) (by decide +kernel), List.mem_of_getElem? (i := 319) (by decide +kernel)⟩
theorem lw_p12 : lw_okq (⟨"MigrateSteps$Runner", "recall", "(I)V"⟩, 9) := ⟨⟨by decide +kernel, by decide +kernel⟩, List.mem_of_getElem? (i := 75) (by decide +kernel), List.mem_of_getElem? (i := 322) (by decide +kernel), List.mem_of_getElem? (i := 323) (by decide +kernel)⟩
theorem lw_p13 : lw_okq (⟨"MigrateSteps$Runner", "jumpIf", "(ZI)V"⟩, 9) := ⟨⟨by decide +kernel, by decide +kernel⟩, List.mem_of_getElem? (i := 75) (by decide +kernel), List.mem_of_getElem? (i := 326) (by decide +kernel), List.mem_of_getElem? (i := 327) (by decide +kernel)⟩
theorem lw_p14 : lw_okq (⟨"MigrateSteps$Runner", "stepWithin", "(II)V"⟩, 9) := ⟨⟨by decide +kernel, by decide +kernel⟩, List.mem_of_getElem? (i := 75) (by decide +kernel), List.mem_of_getElem? (i := 330) (by decide +kernel), List.mem_of_getElem? (i := 331) (by decide +kernel)⟩
theorem lw_p15 : lw_okq (⟨"MigrateSteps", "comesTo", "(II)Z"⟩, 10) := ⟨⟨by decide +kernel, by decide +kernel⟩, List.mem_of_getElem? (i := 24) (by decide +kernel), List.mem_of_getElem? (i := 343) (by decide +kernel), List.mem_of_getElem? (i := 344) (by decide +kernel)⟩
def lw_privs_1 : List (MethodName × Nat) := [(⟨"MigrateSteps", "keep", "(LMigrateSteps$Item;)I"⟩, 10), (⟨"MigrateSteps", "scriptOf", "(I)LMigrateSteps$Script;"⟩, 10), (⟨"MigrateSteps", "liveItem", "(I)LMigrateSteps$Item;"⟩, 10), (⟨"MigrateSteps", "itemOf", "(I)LMigrateSteps$Item;"⟩, 10), (⟨"MigrateSteps", "derive", "(II)I"⟩, 10), (⟨"MigrateSteps", "hasDerivedBy", "(II)Z"⟩, 10), (⟨"MigrateSteps$Runner", "begin", "()V"⟩, 9), (⟨"MigrateSteps$Runner", "step", "(IILMigrateSteps$ByteRow;)V"⟩, 9), (⟨"MigrateSteps$Runner", "fetch", "(I)V"⟩, 9), (⟨"MigrateSteps$Runner", "putOut", "(I)V"⟩, 9), (⟨"MigrateSteps$Runner", "failIf", "(ZI)V"⟩, 9), (⟨"MigrateSteps$Runner", "store", "(I)V"⟩, 9), (⟨"MigrateSteps$Runner", "recall", "(I)V"⟩, 9), (⟨"MigrateSteps$Runner", "jumpIf", "(ZI)V"⟩, 9), (⟨"MigrateSteps$Runner", "stepWithin", "(II)V"⟩, 9), (⟨"MigrateSteps", "comesTo", "(II)Z"⟩, 10)]
theorem lw_r1 : ∀ q ∈ lw_privs_1, lw_okq q := List.forall_mem_cons.mpr ⟨lw_p0, List.forall_mem_cons.mpr ⟨lw_p1, List.forall_mem_cons.mpr ⟨lw_p2, List.forall_mem_cons.mpr ⟨lw_p3, List.forall_mem_cons.mpr ⟨lw_p4, List.forall_mem_cons.mpr ⟨lw_p5, List.forall_mem_cons.mpr ⟨lw_p6, List.forall_mem_cons.mpr ⟨lw_p7, List.forall_mem_cons.mpr ⟨lw_p8, List.forall_mem_cons.mpr ⟨lw_p9, List.forall_mem_cons.mpr ⟨lw_p10, List.forall_mem_cons.mpr ⟨lw_p11, List.forall_mem_cons.mpr ⟨lw_p12, List.forall_mem_cons.mpr ⟨lw_p13, List.forall_mem_cons.mpr ⟨lw_p14, List.forall_mem_cons.mpr ⟨lw_p15, fun _ h => absurd h List.not_mem_nil⟩⟩⟩⟩⟩⟩⟩⟩⟩⟩⟩⟩⟩⟩⟩⟩
theorem lw_p16 : lw_okq (⟨"MigrateSteps", "nextOf", "(I)I"⟩, 10) := ⟨⟨by decide +kernel, by decide +kernel⟩, List.mem_of_getElem? (i := 24) (by decide +kernel), List.mem_of_getElem? (i := 347) (by decide +kernel), List.mem_of_getElem? (i := 348) (by decide +kernel)⟩
theorem lw_p17 : lw_okq (⟨"MigrateSteps", "isOriginal", "(I)Z"⟩, 10) := ⟨⟨by decide +kernel, by decide +kernel⟩, List.mem_of_getElem? (i := 24) (by decide +kernel), List.mem_of_getElem? (i := 371) (by decide +kernel), List.mem_of_getElem? (i := 372) (by decide +kernel)⟩
theorem lw_p18 : lw_okq (⟨"MigrateSteps", "joinBatch", "(I)Z"⟩, 10) := ⟨⟨by decide +kernel, by decide +kernel⟩, List.mem_of_getElem? (i := 24) (by decide +kernel), List.mem_of_getElem? (i := 375) (by decide +kernel), List.mem_of_getElem? (i := 376) (by decide +kernel)⟩
theorem lw_p19 : lw_okq (⟨"MigrateSteps", "leaveBatch", "(I)Z"⟩, 10) := ⟨⟨by decide +kernel, by decide +kernel⟩, List.mem_of_getElem? (i := 24) (by decide +kernel), List.mem_of_getElem? (i := 383) (by decide +kernel), List.mem_of_getElem? (i := 384) (by decide +kernel)⟩
theorem lw_p20 : lw_okq (⟨"MigrateSteps", "hasDerived", "(I)Z"⟩, 10) := ⟨⟨by decide +kernel, by decide +kernel⟩, List.mem_of_getElem? (i := 24) (by decide +kernel), List.mem_of_getElem? (i := 387) (by decide +kernel), List.mem_of_getElem? (i := 388) (by decide +kernel)⟩
theorem lw_p21 : lw_okq (⟨"MigrateSteps", "dismiss", "(I)I"⟩, 10) := ⟨⟨by decide +kernel, by decide +kernel⟩, List.mem_of_getElem? (i := 24) (by decide +kernel), List.mem_of_getElem? (i := 391) (by decide +kernel), List.mem_of_getElem? (i := 392) (by decide +kernel)⟩
theorem lw_p22 : lw_okq (⟨"MigrateSteps$ScriptText", "signAt", "(I)I"⟩, 5) := ⟨⟨by decide +kernel, by decide +kernel⟩, List.mem_of_getElem? (i := 32) (by decide +kernel), List.mem_of_getElem? (i := 423) (by decide +kernel), List.mem_of_getElem? (i := 424) (by decide +kernel)⟩
theorem lw_p23 : lw_okq (⟨"MigrateSteps$ScriptText", "digitsFrom", "(I)I"⟩, 5) := ⟨⟨by decide +kernel, by decide +kernel⟩, List.mem_of_getElem? (i := 32) (by decide +kernel), List.mem_of_getElem? (i := 513) (by decide +kernel), List.mem_of_getElem? (i := 514) (by decide +kernel)⟩
theorem lw_p24 : lw_okq (⟨"MigrateSteps$ScriptText", "numberFrom", "(II)I"⟩, 5) := ⟨⟨by decide +kernel, by decide +kernel⟩, List.mem_of_getElem? (i := 32) (by decide +kernel), List.mem_of_getElem? (i := 520) (by decide +kernel), List.mem_of_getElem? (i := 521) (by decide +kernel)⟩
theorem lw_p25 : lw_okq (⟨"java/lang/Throwable", "fillInStackTrace", "(I)Ljava/lang/Throwable;"⟩, 6) := ⟨⟨by decide +kernel, by decide +kernel⟩, List.mem_of_getElem? (i := 565) (by decide +kernel), List.mem_of_getElem? (i := 563) (by decide +kernel), List.mem_of_getElem? (i := 564) (by decide +kernel)⟩
theorem lw_p26 : lw_okq (⟨"MigrateStepsModel", "reads", "()Z"⟩, 32) := ⟨⟨by decide +kernel, by decide +kernel⟩, List.mem_of_getElem? (i := 674) (by decide +kernel), List.mem_of_getElem? (i := 790) (by decide +kernel), List.mem_of_getElem? (i := 791) (by decide +kernel)⟩
theorem lw_p27 : lw_okq (⟨"MigrateStepsModel", "command", "(I)Z"⟩, 32) := ⟨⟨by decide +kernel, by decide +kernel⟩, List.mem_of_getElem? (i := 674) (by decide +kernel), List.mem_of_getElem? (i := 794) (by decide +kernel), List.mem_of_getElem? (i := 795) (by decide +kernel)⟩
theorem lw_p28 : lw_okq (⟨"MigrateStepsModel", "look", "()I"⟩, 32) := ⟨⟨by decide +kernel, by decide +kernel⟩, List.mem_of_getElem? (i := 674) (by decide +kernel), List.mem_of_getElem? (i := 798) (by decide +kernel), List.mem_of_getElem? (i := 799) (by decide +kernel)⟩
theorem lw_p29 : lw_okq (⟨"MigrateStepsModel", "isScript", "(I)Z"⟩, 32) := ⟨⟨by decide +kernel, by decide +kernel⟩, List.mem_of_getElem? (i := 674) (by decide +kernel), List.mem_of_getElem? (i := 824) (by decide +kernel), List.mem_of_getElem? (i := 825) (by decide +kernel)⟩
theorem lw_p30 : lw_okq (⟨"MigrateStepsModel", "can", "(II)Z"⟩, 32) := ⟨⟨by decide +kernel, by decide +kernel⟩, List.mem_of_getElem? (i := 674) (by decide +kernel), List.mem_of_getElem? (i := 832) (by decide +kernel), List.mem_of_getElem? (i := 833) (by decide +kernel)⟩
theorem lw_p31 : lw_okq (⟨"MigrateStepsModel", "isItem", "(I)Z"⟩, 32) := ⟨⟨by decide +kernel, by decide +kernel⟩, List.mem_of_getElem? (i := 674) (by decide +kernel), List.mem_of_getElem? (i := 836) (by decide +kernel), List.mem_of_getElem? (i := 837) (by decide +kernel)⟩
def lw_privs_2 : List (MethodName × Nat) := [(⟨"MigrateSteps", "nextOf", "(I)I"⟩, 10), (⟨"MigrateSteps", "isOriginal", "(I)Z"⟩, 10), (⟨"MigrateSteps", "joinBatch", "(I)Z"⟩, 10), (⟨"MigrateSteps", "leaveBatch", "(I)Z"⟩, 10), (⟨"MigrateSteps", "hasDerived", "(I)Z"⟩, 10), (⟨"MigrateSteps", "dismiss", "(I)I"⟩, 10), (⟨"MigrateSteps$ScriptText", "signAt", "(I)I"⟩, 5), (⟨"MigrateSteps$ScriptText", "digitsFrom", "(I)I"⟩, 5), (⟨"MigrateSteps$ScriptText", "numberFrom", "(II)I"⟩, 5), (⟨"java/lang/Throwable", "fillInStackTrace", "(I)Ljava/lang/Throwable;"⟩, 6), (⟨"MigrateStepsModel", "reads", "()Z"⟩, 32), (⟨"MigrateStepsModel", "command", "(I)Z"⟩, 32), (⟨"MigrateStepsModel", "look", "()I"⟩, 32), (⟨"MigrateStepsModel", "isScript", "(I)Z"⟩, 32), (⟨"MigrateStepsModel", "can", "(II)Z"⟩, 32), (⟨"MigrateStepsModel", "isItem", "(I)Z"⟩, 32)]
theorem lw_r2 : ∀ q ∈ lw_privs_2, lw_okq q := List.forall_mem_cons.mpr ⟨lw_p16, List.forall_mem_cons.mpr ⟨lw_p17, List.forall_mem_cons.mpr ⟨lw_p18, List.forall_mem_cons.mpr ⟨lw_p19, List.forall_mem_cons.mpr ⟨lw_p20, List.forall_mem_cons.mpr ⟨lw_p21, List.forall_mem_cons.mpr ⟨lw_p22, List.forall_mem_cons.mpr ⟨lw_p23, List.forall_mem_cons.mpr ⟨lw_p24, List.forall_mem_cons.mpr ⟨lw_p25, List.forall_mem_cons.mpr ⟨lw_p26, List.forall_mem_cons.mpr ⟨lw_p27, List.forall_mem_cons.mpr ⟨lw_p28, List.forall_mem_cons.mpr ⟨lw_p29, List.forall_mem_cons.mpr ⟨lw_p30, List.forall_mem_cons.mpr ⟨lw_p31, fun _ h => absurd h List.not_mem_nil⟩⟩⟩⟩⟩⟩⟩⟩⟩⟩⟩⟩⟩⟩⟩⟩
theorem lw_p32 : lw_okq (⟨"MigrateStepsModel", "derive", "(II)I"⟩, 32) := ⟨⟨by decide +kernel, by decide +kernel⟩, List.mem_of_getElem? (i := 674) (by decide +kernel), List.mem_of_getElem? (i := 840) (by decide +kernel), List.mem_of_getElem? (i := 841) (by decide +kernel)⟩
theorem lw_p33 : lw_okq (⟨"MigrateStepsModel", "hasDerived", "(II)Z"⟩, 32) := ⟨⟨by decide +kernel, by decide +kernel⟩, List.mem_of_getElem? (i := 674) (by decide +kernel), List.mem_of_getElem? (i := 844) (by decide +kernel), List.mem_of_getElem? (i := 845) (by decide +kernel)⟩
theorem lw_p34 : lw_okq (⟨"MigrateStepsModel", "allHold", "(II)Z"⟩, 32) := ⟨⟨by decide +kernel, by decide +kernel⟩, List.mem_of_getElem? (i := 674) (by decide +kernel), List.mem_of_getElem? (i := 848) (by decide +kernel), List.mem_of_getElem? (i := 849) (by decide +kernel)⟩
theorem lw_p35 : lw_okq (⟨"MigrateStepsModel", "run", "(II)I"⟩, 32) := ⟨⟨by decide +kernel, by decide +kernel⟩, List.mem_of_getElem? (i := 674) (by decide +kernel), List.mem_of_getElem? (i := 855) (by decide +kernel), List.mem_of_getElem? (i := 856) (by decide +kernel)⟩
theorem lw_p36 : lw_okq (⟨"MigrateStepsModel", "put", "(II)V"⟩, 32) := ⟨⟨by decide +kernel, by decide +kernel⟩, List.mem_of_getElem? (i := 674) (by decide +kernel), List.mem_of_getElem? (i := 859) (by decide +kernel), List.mem_of_getElem? (i := 860) (by decide +kernel)⟩
theorem lw_p37 : lw_okq (⟨"MigrateStepsModel", "goes", "(I)Z"⟩, 32) := ⟨⟨by decide +kernel, by decide +kernel⟩, List.mem_of_getElem? (i := 674) (by decide +kernel), List.mem_of_getElem? (i := 892) (by decide +kernel), List.mem_of_getElem? (i := 893) (by decide +kernel)⟩
def lw_privs_3 : List (MethodName × Nat) := [(⟨"MigrateStepsModel", "derive", "(II)I"⟩, 32), (⟨"MigrateStepsModel", "hasDerived", "(II)Z"⟩, 32), (⟨"MigrateStepsModel", "allHold", "(II)Z"⟩, 32), (⟨"MigrateStepsModel", "run", "(II)I"⟩, 32), (⟨"MigrateStepsModel", "put", "(II)V"⟩, 32), (⟨"MigrateStepsModel", "goes", "(I)Z"⟩, 32)]
theorem lw_r3 : ∀ q ∈ lw_privs_3, lw_okq q := List.forall_mem_cons.mpr ⟨lw_p32, List.forall_mem_cons.mpr ⟨lw_p33, List.forall_mem_cons.mpr ⟨lw_p34, List.forall_mem_cons.mpr ⟨lw_p35, List.forall_mem_cons.mpr ⟨lw_p36, List.forall_mem_cons.mpr ⟨lw_p37, fun _ h => absurd h List.not_mem_nil⟩⟩⟩⟩⟩⟩
def lw_privs : List (MethodName × Nat) := lw_privs_1 ++ (lw_privs_2 ++ (lw_privs_3))
def lw_tbl : List Cond := k2_sels lw_privs ++ tables_1
theorem lw_privs_ok : ∀ q ∈ lw_privs, lw_okq q := by
  show ∀ q ∈ lw_privs_1 ++ (lw_privs_2 ++ (lw_privs_3)), lw_okq q
  exact List.forall_mem_append.mpr ⟨lw_r1, List.forall_mem_append.mpr ⟨lw_r2, lw_r3⟩⟩
def RX0 : String := "MigrateSteps$ByteRow"
def TX0 : u_T := fun k => match k with
  | 0 => ("MigrateSteps$ByteRow", "bytes", "[I", true)
  | _ => ("MigrateSteps$ByteRow", "size", "I", false)
def tyX0 : Nat → FieldType := fun k => match k with
  | 0 => .array .int
  | _ => .int
theorem nmX0 : ∀ a, a < 2 → ∀ b, b < 2 → a ≠ b → (TX0 a).2.1 ≠ (TX0 b).2.1 := by decide +kernel
theorem tyX0_ok : ∀ k, k < 2 → parseFieldDescriptor (TX0 k).2.2.1 = some (tyX0 k) := by decide +kernel
abbrev cX0_init : ByteArray := prog_2_method_1_code
def yX0_init : MethodName := ⟨RX0, "<init>", "([II)V"⟩
abbrev cX0_add : ByteArray := prog_2_method_2_code
def yX0_add : MethodName := ⟨RX0, "add", "(I)Z"⟩
abbrev cX0_clear : ByteArray := prog_2_method_3_code
def yX0_clear : MethodName := ⟨RX0, "clear", "()V"⟩
abbrev cX0_byteAt : ByteArray := prog_2_method_4_code
def yX0_byteAt : MethodName := ⟨RX0, "byteAt", "(I)I"⟩
abbrev cX0_sum : ByteArray := prog_2_method_5_code
def yX0_sum : MethodName := ⟨RX0, "sum", "()I"⟩
abbrev cX0_copy : ByteArray := prog_2_method_6_code
def yX0_copy : MethodName := ⟨RX0, "copy", "()LMigrateSteps$ByteRow;"⟩
def RX1 : String := "MigrateSteps$Checks"
def TX1 : u_T := fun k => match k with
  | 0 => ("MigrateSteps$Checks", "kinds", "[I", true)
  | 1 => ("MigrateSteps$Checks", "values", "[I", true)
  | _ => ("MigrateSteps$Checks", "count", "I", false)
def tyX1 : Nat → FieldType := fun k => match k with
  | 0 => .array .int
  | 1 => .array .int
  | _ => .int
theorem nmX1 : ∀ a, a < 3 → ∀ b, b < 3 → a ≠ b → (TX1 a).2.1 ≠ (TX1 b).2.1 := by decide +kernel
theorem tyX1_ok : ∀ k, k < 3 → parseFieldDescriptor (TX1 k).2.2.1 = some (tyX1 k) := by decide +kernel
abbrev cX1_init : ByteArray := prog_3_method_1_code
def yX1_init : MethodName := ⟨RX1, "<init>", "()V"⟩
abbrev cX1_add : ByteArray := prog_3_method_2_code
def yX1_add : MethodName := ⟨RX1, "add", "(II)I"⟩
abbrev cX1_hold : ByteArray := prog_3_method_3_code
def yX1_hold : MethodName := ⟨RX1, "hold", "(LMigrateSteps$ByteRow;)Z"⟩
abbrev cX1_holds : ByteArray := prog_3_method_4_code
def yX1_holds : MethodName := ⟨RX1, "holds", "(IILMigrateSteps$ByteRow;)Z"⟩
def RX2 : String := "MigrateSteps$Item"
def TX2 : u_T := fun k => match k with
  | 0 => ("MigrateSteps$Item", "bytes", "LMigrateSteps$ByteRow;", true)
  | 1 => ("MigrateSteps$Item", "from", "I", true)
  | 2 => ("MigrateSteps$Item", "by", "I", true)
  | 3 => ("MigrateSteps$Item", "root", "I", true)
  | 4 => ("MigrateSteps$Item", "batch", "I", false)
  | _ => ("MigrateSteps$Item", "gone", "Z", false)
def tyX2 : Nat → FieldType := fun k => match k with
  | 0 => .object "MigrateSteps$ByteRow"
  | 1 => .int
  | 2 => .int
  | 3 => .int
  | 4 => .int
  | _ => .boolean
theorem nmX2 : ∀ a, a < 6 → ∀ b, b < 6 → a ≠ b → (TX2 a).2.1 ≠ (TX2 b).2.1 := by decide +kernel
theorem tyX2_ok : ∀ k, k < 6 → parseFieldDescriptor (TX2 k).2.2.1 = some (tyX2 k) := by decide +kernel
abbrev cX2_init : ByteArray := prog_4_method_1_code
def yX2_init : MethodName := ⟨RX2, "<init>", "(LMigrateSteps$ByteRow;III)V"⟩
def RX3 : String := "MigrateSteps$Runner"
def TX3 : u_T := fun k => match k with
  | 0 => ("MigrateSteps$Runner", "steps", "I", true)
  | 1 => ("MigrateSteps$Runner", "cells", "[I", true)
  | 2 => ("MigrateSteps$Runner", "out", "LMigrateSteps$ByteRow;", true)
  | 3 => ("MigrateSteps$Runner", "accumulator", "I", false)
  | 4 => ("MigrateSteps$Runner", "pointer", "I", false)
  | 5 => ("MigrateSteps$Runner", "next", "I", false)
  | 6 => ("MigrateSteps$Runner", "failure", "I", false)
  | 7 => ("MigrateSteps$Runner", "failedAt", "I", false)
  | _ => ("MigrateSteps$Runner", "allSteps", "J", false)
def tyX3 : Nat → FieldType := fun k => match k with
  | 0 => .int
  | 1 => .array .int
  | 2 => .object "MigrateSteps$ByteRow"
  | 3 => .int
  | 4 => .int
  | 5 => .int
  | 6 => .int
  | 7 => .int
  | _ => .long
theorem nmX3 : ∀ a, a < 9 → ∀ b, b < 9 → a ≠ b → (TX3 a).2.1 ≠ (TX3 b).2.1 := by decide +kernel
theorem tyX3_ok : ∀ k, k < 9 → parseFieldDescriptor (TX3 k).2.2.1 = some (tyX3 k) := by decide +kernel
abbrev cX3_init : ByteArray := prog_5_method_1_code
def yX3_init : MethodName := ⟨RX3, "<init>", "(I[I)V"⟩
abbrev cX3_run : ByteArray := prog_5_method_2_code
def yX3_run : MethodName := ⟨RX3, "run", "(LMigrateSteps$Script;LMigrateSteps$ByteRow;)I"⟩
abbrev cX3_begin : ByteArray := prog_5_method_3_code
def yX3_begin : MethodName := ⟨RX3, "begin", "()V"⟩
abbrev cX3_step : ByteArray := prog_5_method_4_code
def yX3_step : MethodName := ⟨RX3, "step", "(IILMigrateSteps$ByteRow;)V"⟩
abbrev cX3_stepWithin : ByteArray := prog_5_method_5_code
def yX3_stepWithin : MethodName := ⟨RX3, "stepWithin", "(II)V"⟩
abbrev cX3_fetch : ByteArray := prog_5_method_6_code
def yX3_fetch : MethodName := ⟨RX3, "fetch", "(I)V"⟩
abbrev cX3_putOut : ByteArray := prog_5_method_7_code
def yX3_putOut : MethodName := ⟨RX3, "putOut", "(I)V"⟩
abbrev cX3_store : ByteArray := prog_5_method_8_code
def yX3_store : MethodName := ⟨RX3, "store", "(I)V"⟩
abbrev cX3_recall : ByteArray := prog_5_method_9_code
def yX3_recall : MethodName := ⟨RX3, "recall", "(I)V"⟩
abbrev cX3_jumpIf : ByteArray := prog_5_method_10_code
def yX3_jumpIf : MethodName := ⟨RX3, "jumpIf", "(ZI)V"⟩
abbrev cX3_failIf : ByteArray := prog_5_method_11_code
def yX3_failIf : MethodName := ⟨RX3, "failIf", "(ZI)V"⟩
def RX4 : String := "MigrateSteps$Script"
def TX4 : u_T := fun k => match k with
  | 0 => ("MigrateSteps$Script", "letters", "[I", true)
  | 1 => ("MigrateSteps$Script", "numbers", "[I", true)
  | 2 => ("MigrateSteps$Script", "before", "LMigrateSteps$Checks;", true)
  | 3 => ("MigrateSteps$Script", "behind", "LMigrateSteps$Checks;", true)
  | _ => ("MigrateSteps$Script", "next", "I", false)
def tyX4 : Nat → FieldType := fun k => match k with
  | 0 => .array .int
  | 1 => .array .int
  | 2 => .object "MigrateSteps$Checks"
  | 3 => .object "MigrateSteps$Checks"
  | _ => .int
theorem nmX4 : ∀ a, a < 5 → ∀ b, b < 5 → a ≠ b → (TX4 a).2.1 ≠ (TX4 b).2.1 := by decide +kernel
theorem tyX4_ok : ∀ k, k < 5 → parseFieldDescriptor (TX4 k).2.2.1 = some (tyX4 k) := by decide +kernel
abbrev cX4_init : ByteArray := prog_6_method_1_code
def yX4_init : MethodName := ⟨RX4, "<init>", "([I[I)V"⟩
abbrev cX4_size : ByteArray := prog_6_method_2_code
def yX4_size : MethodName := ⟨RX4, "size", "()I"⟩
def RX5 : String := "MigrateSteps$ScriptText"
def TX5 : u_T := fun k => match k with
  | 0 => ("MigrateSteps$ScriptText", "signs", "[I", true)
  | 1 => ("MigrateSteps$ScriptText", "letters", "[I", true)
  | 2 => ("MigrateSteps$ScriptText", "numbers", "[I", true)
  | 3 => ("MigrateSteps$ScriptText", "size", "I", false)
  | _ => ("MigrateSteps$ScriptText", "commands", "I", false)
def tyX5 : Nat → FieldType := fun k => match k with
  | 0 => .array .int
  | 1 => .array .int
  | 2 => .array .int
  | 3 => .int
  | _ => .int
theorem nmX5 : ∀ a, a < 5 → ∀ b, b < 5 → a ≠ b → (TX5 a).2.1 ≠ (TX5 b).2.1 := by decide +kernel
theorem tyX5_ok : ∀ k, k < 5 → parseFieldDescriptor (TX5 k).2.2.1 = some (tyX5 k) := by decide +kernel
abbrev cX5_init : ByteArray := prog_7_method_1_code
def yX5_init : MethodName := ⟨RX5, "<init>", "()V"⟩
abbrev cX5_add : ByteArray := prog_7_method_2_code
def yX5_add : MethodName := ⟨RX5, "add", "(I)V"⟩
abbrev cX5_clear : ByteArray := prog_7_method_3_code
def yX5_clear : MethodName := ⟨RX5, "clear", "()V"⟩
abbrev cX5_parsed : ByteArray := prog_7_method_4_code
def yX5_parsed : MethodName := ⟨RX5, "parsed", "()LMigrateSteps$Script;"⟩
abbrev cX5_parse : ByteArray := prog_7_method_5_code
def yX5_parse : MethodName := ⟨RX5, "parse", "()I"⟩
abbrev cX5_signAt : ByteArray := prog_7_method_6_code
def yX5_signAt : MethodName := ⟨RX5, "signAt", "(I)I"⟩
abbrev cX5_digitsFrom : ByteArray := prog_7_method_7_code
def yX5_digitsFrom : MethodName := ⟨RX5, "digitsFrom", "(I)I"⟩
abbrev cX5_numberFrom : ByteArray := prog_7_method_8_code
def yX5_numberFrom : MethodName := ⟨RX5, "numberFrom", "(II)I"⟩
abbrev cX5_isLetter : ByteArray := prog_7_method_9_code
def yX5_isLetter : MethodName := ⟨RX5, "isLetter", "(I)Z"⟩
abbrev cX5_isDigit : ByteArray := prog_7_method_10_code
def yX5_isDigit : MethodName := ⟨RX5, "isDigit", "(I)Z"⟩
def RX6 : String := "MigrateSteps"
def TX6 : u_T := fun k => match k with
  | 0 => ("MigrateSteps", "text", "LMigrateSteps$ScriptText;", true)
  | 1 => ("MigrateSteps", "collected", "LMigrateSteps$ByteRow;", true)
  | 2 => ("MigrateSteps", "scripts", "[LMigrateSteps$Script;", true)
  | 3 => ("MigrateSteps", "items", "[LMigrateSteps$Item;", true)
  | 4 => ("MigrateSteps", "runner", "LMigrateSteps$Runner;", true)
  | 5 => ("MigrateSteps", "scriptCount", "I", false)
  | 6 => ("MigrateSteps", "itemCount", "I", false)
  | 7 => ("MigrateSteps", "openBatches", "I", false)
  | 8 => ("MigrateSteps", "wrongAt", "I", false)
  | _ => ("MigrateSteps", "metLast", "I", false)
def tyX6 : Nat → FieldType := fun k => match k with
  | 0 => .object "MigrateSteps$ScriptText"
  | 1 => .object "MigrateSteps$ByteRow"
  | 2 => .array (.object "MigrateSteps$Script")
  | 3 => .array (.object "MigrateSteps$Item")
  | 4 => .object "MigrateSteps$Runner"
  | 5 => .int
  | 6 => .int
  | 7 => .int
  | 8 => .int
  | _ => .int
theorem nmX6 : ∀ a, a < 10 → ∀ b, b < 10 → a ≠ b → (TX6 a).2.1 ≠ (TX6 b).2.1 := by decide +kernel
theorem tyX6_ok : ∀ k, k < 10 → parseFieldDescriptor (TX6 k).2.2.1 = some (tyX6 k) := by decide +kernel
abbrev cX6_init : ByteArray := prog_1_method_1_code
def yX6_init : MethodName := ⟨RX6, "<init>", "(II)V"⟩
abbrev cX6_sign : ByteArray := prog_1_method_2_code
def yX6_sign : MethodName := ⟨RX6, "sign", "(I)V"⟩
abbrev cX6_read : ByteArray := prog_1_method_3_code
def yX6_read : MethodName := ⟨RX6, "read", "()I"⟩
abbrev cX6_place : ByteArray := prog_1_method_4_code
def yX6_place : MethodName := ⟨RX6, "place", "()I"⟩
abbrev cX6_octet : ByteArray := prog_1_method_5_code
def yX6_octet : MethodName := ⟨RX6, "octet", "(I)V"⟩
abbrev cX6_original : ByteArray := prog_1_method_6_code
def yX6_original : MethodName := ⟨RX6, "original", "()I"⟩
abbrev cX6_check : ByteArray := prog_1_method_7_code
def yX6_check : MethodName := ⟨RX6, "check", "(IZII)I"⟩
abbrev cX6_migrate : ByteArray := prog_1_method_8_code
def yX6_migrate : MethodName := ⟨RX6, "migrate", "(II)I"⟩
abbrev cX6_chain : ByteArray := prog_1_method_9_code
def yX6_chain : MethodName := ⟨RX6, "chain", "(II)I"⟩
abbrev cX6_goesOn : ByteArray := prog_1_method_10_code
def yX6_goesOn : MethodName := ⟨RX6, "goesOn", "(II)I"⟩
abbrev cX6_what : ByteArray := prog_1_method_11_code
def yX6_what : MethodName := ⟨RX6, "what", "()I"⟩
abbrev cX6_failed : ByteArray := prog_1_method_12_code
def yX6_failed : MethodName := ⟨RX6, "failed", "()I"⟩
abbrev cX6_counted : ByteArray := prog_1_method_13_code
def yX6_counted : MethodName := ⟨RX6, "counted", "()J"⟩
abbrev cX6_batch : ByteArray := prog_1_method_14_code
def yX6_batch : MethodName := ⟨RX6, "batch", "(I)I"⟩
abbrev cX6_undo : ByteArray := prog_1_method_15_code
def yX6_undo : MethodName := ⟨RX6, "undo", "()I"⟩
abbrev cX6_drop : ByteArray := prog_1_method_16_code
def yX6_drop : MethodName := ⟨RX6, "drop", "(I)I"⟩
abbrev cX6_about : ByteArray := prog_1_method_17_code
def yX6_about : MethodName := ⟨RX6, "about", "(II)I"⟩
abbrev cX6_at : ByteArray := prog_1_method_18_code
def yX6_at : MethodName := ⟨RX6, "at", "(II)I"⟩
abbrev cX6_tried : ByteArray := prog_1_method_19_code
def yX6_tried : MethodName := ⟨RX6, "tried", "(I)I"⟩
abbrev cX6_scriptOf : ByteArray := prog_1_method_20_code
def yX6_scriptOf : MethodName := ⟨RX6, "scriptOf", "(I)LMigrateSteps$Script;"⟩
abbrev cX6_itemOf : ByteArray := prog_1_method_21_code
def yX6_itemOf : MethodName := ⟨RX6, "itemOf", "(I)LMigrateSteps$Item;"⟩
abbrev cX6_liveItem : ByteArray := prog_1_method_22_code
def yX6_liveItem : MethodName := ⟨RX6, "liveItem", "(I)LMigrateSteps$Item;"⟩
abbrev cX6_isOriginal : ByteArray := prog_1_method_23_code
def yX6_isOriginal : MethodName := ⟨RX6, "isOriginal", "(I)Z"⟩
abbrev cX6_hasDerived : ByteArray := prog_1_method_24_code
def yX6_hasDerived : MethodName := ⟨RX6, "hasDerived", "(I)Z"⟩
abbrev cX6_hasDerivedBy : ByteArray := prog_1_method_25_code
def yX6_hasDerivedBy : MethodName := ⟨RX6, "hasDerivedBy", "(II)Z"⟩
abbrev cX6_derive : ByteArray := prog_1_method_26_code
def yX6_derive : MethodName := ⟨RX6, "derive", "(II)I"⟩
abbrev cX6_against : ByteArray := prog_1_method_27_code
def yX6_against : MethodName := ⟨RX6, "against", "(I)I"⟩
abbrev cX6_keep : ByteArray := prog_1_method_28_code
def yX6_keep : MethodName := ⟨RX6, "keep", "(LMigrateSteps$Item;)I"⟩
abbrev cX6_dismiss : ByteArray := prog_1_method_29_code
def yX6_dismiss : MethodName := ⟨RX6, "dismiss", "(I)I"⟩
abbrev cX6_nextOf : ByteArray := prog_1_method_30_code
def yX6_nextOf : MethodName := ⟨RX6, "nextOf", "(I)I"⟩
abbrev cX6_comesTo : ByteArray := prog_1_method_31_code
def yX6_comesTo : MethodName := ⟨RX6, "comesTo", "(II)Z"⟩
abbrev cX6_joinBatch : ByteArray := prog_1_method_32_code
def yX6_joinBatch : MethodName := ⟨RX6, "joinBatch", "(I)Z"⟩
abbrev cX6_leaveBatch : ByteArray := prog_1_method_33_code
def yX6_leaveBatch : MethodName := ⟨RX6, "leaveBatch", "(I)Z"⟩
def RX7 : String := "MigrateStepsModel"
def TX7 : u_T := fun k => match k with
  | 0 => ("MigrateStepsModel", "thrown", "I", false)
  | 1 => ("MigrateStepsModel", "steps", "I", true)
  | 2 => ("MigrateStepsModel", "cells", "I", true)
  | 3 => ("MigrateStepsModel", "told", "I", false)
  | 4 => ("MigrateStepsModel", "text", "[B", true)
  | 5 => ("MigrateStepsModel", "at", "I", false)
  | 6 => ("MigrateStepsModel", "wrong", "I", false)
  | 7 => ("MigrateStepsModel", "scripts", "I", false)
  | 8 => ("MigrateStepsModel", "commands", "[I", true)
  | 9 => ("MigrateStepsModel", "letter", "[I", true)
  | 10 => ("MigrateStepsModel", "value", "[I", true)
  | 11 => ("MigrateStepsModel", "next", "[I", true)
  | 12 => ("MigrateStepsModel", "checks", "[I", true)
  | 13 => ("MigrateStepsModel", "checkKind", "[I", true)
  | 14 => ("MigrateStepsModel", "checkValue", "[I", true)
  | 15 => ("MigrateStepsModel", "collected", "I", false)
  | 16 => ("MigrateStepsModel", "said", "[B", true)
  | 17 => ("MigrateStepsModel", "items", "I", false)
  | 18 => ("MigrateStepsModel", "size", "[I", true)
  | 19 => ("MigrateStepsModel", "content", "[B", true)
  | 20 => ("MigrateStepsModel", "from", "[I", true)
  | 21 => ("MigrateStepsModel", "by", "[I", true)
  | 22 => ("MigrateStepsModel", "gone", "[Z", true)
  | 23 => ("MigrateStepsModel", "ofBatch", "[I", true)
  | 24 => ("MigrateStepsModel", "batches", "I", false)
  | 25 => ("MigrateStepsModel", "undone", "[Z", true)
  | 26 => ("MigrateStepsModel", "against", "I", false)
  | 27 => ("MigrateStepsModel", "failed", "I", false)
  | 28 => ("MigrateStepsModel", "tried", "I", false)
  | 29 => ("MigrateStepsModel", "out", "[B", true)
  | 30 => ("MigrateStepsModel", "memory", "[I", true)
  | _ => ("MigrateStepsModel", "counted", "J", false)
def tyX7 : Nat → FieldType := fun k => match k with
  | 0 => .int
  | 1 => .int
  | 2 => .int
  | 3 => .int
  | 4 => .array .byte
  | 5 => .int
  | 6 => .int
  | 7 => .int
  | 8 => .array .int
  | 9 => .array .int
  | 10 => .array .int
  | 11 => .array .int
  | 12 => .array .int
  | 13 => .array .int
  | 14 => .array .int
  | 15 => .int
  | 16 => .array .byte
  | 17 => .int
  | 18 => .array .int
  | 19 => .array .byte
  | 20 => .array .int
  | 21 => .array .int
  | 22 => .array .boolean
  | 23 => .array .int
  | 24 => .int
  | 25 => .array .boolean
  | 26 => .int
  | 27 => .int
  | 28 => .int
  | 29 => .array .byte
  | 30 => .array .int
  | _ => .long
theorem nmX7 : ∀ a, a < 32 → ∀ b, b < 32 → a ≠ b → (TX7 a).2.1 ≠ (TX7 b).2.1 := by decide +kernel
theorem tyX7_ok : ∀ k, k < 32 → parseFieldDescriptor (TX7 k).2.2.1 = some (tyX7 k) := by decide +kernel
abbrev cX7_init : ByteArray := prog_9_method_1_code
def yX7_init : MethodName := ⟨RX7, "<init>", "(II)V"⟩
abbrev cX7_thrown : ByteArray := prog_9_method_2_code
def yX7_thrown : MethodName := ⟨RX7, "thrown", "()I"⟩
abbrev cX7_in : ByteArray := prog_9_method_3_code
def yX7_in : MethodName := ⟨RX7, "in", "(III)Z"⟩
abbrev cX7_isScript : ByteArray := prog_9_method_4_code
def yX7_isScript : MethodName := ⟨RX7, "isScript", "(I)Z"⟩
abbrev cX7_isItem : ByteArray := prog_9_method_5_code
def yX7_isItem : MethodName := ⟨RX7, "isItem", "(I)Z"⟩
abbrev cX7_sign : ByteArray := prog_9_method_6_code
def yX7_sign : MethodName := ⟨RX7, "sign", "(I)V"⟩
abbrev cX7_look : ByteArray := prog_9_method_7_code
def yX7_look : MethodName := ⟨RX7, "look", "()I"⟩
abbrev cX7_isLetter : ByteArray := prog_9_method_8_code
def yX7_isLetter : MethodName := ⟨RX7, "isLetter", "(I)Z"⟩
abbrev cX7_command : ByteArray := prog_9_method_9_code
def yX7_command : MethodName := ⟨RX7, "command", "(I)Z"⟩
abbrev cX7_reads : ByteArray := prog_9_method_10_code
def yX7_reads : MethodName := ⟨RX7, "reads", "()Z"⟩
abbrev cX7_read : ByteArray := prog_9_method_11_code
def yX7_read : MethodName := ⟨RX7, "read", "()I"⟩
abbrev cX7_place : ByteArray := prog_9_method_12_code
def yX7_place : MethodName := ⟨RX7, "place", "()I"⟩
abbrev cX7_put : ByteArray := prog_9_method_13_code
def yX7_put : MethodName := ⟨RX7, "put", "(II)V"⟩
abbrev cX7_run : ByteArray := prog_9_method_14_code
def yX7_run : MethodName := ⟨RX7, "run", "(II)I"⟩
abbrev cX7_octet : ByteArray := prog_9_method_15_code
def yX7_octet : MethodName := ⟨RX7, "octet", "(I)V"⟩
abbrev cX7_original : ByteArray := prog_9_method_16_code
def yX7_original : MethodName := ⟨RX7, "original", "()I"⟩
abbrev cX7_check : ByteArray := prog_9_method_17_code
def yX7_check : MethodName := ⟨RX7, "check", "(IZII)I"⟩
abbrev cX7_holds : ByteArray := prog_9_method_18_code
def yX7_holds : MethodName := ⟨RX7, "holds", "(IIIII)Z"⟩
abbrev cX7_allHold : ByteArray := prog_9_method_19_code
def yX7_allHold : MethodName := ⟨RX7, "allHold", "(II)Z"⟩
abbrev cX7_hasDerived : ByteArray := prog_9_method_20_code
def yX7_hasDerived : MethodName := ⟨RX7, "hasDerived", "(II)Z"⟩
abbrev cX7_derive : ByteArray := prog_9_method_21_code
def yX7_derive : MethodName := ⟨RX7, "derive", "(II)I"⟩
abbrev cX7_can : ByteArray := prog_9_method_22_code
def yX7_can : MethodName := ⟨RX7, "can", "(II)Z"⟩
abbrev cX7_migrate : ByteArray := prog_9_method_23_code
def yX7_migrate : MethodName := ⟨RX7, "migrate", "(II)I"⟩
abbrev cX7_chain : ByteArray := prog_9_method_24_code
def yX7_chain : MethodName := ⟨RX7, "chain", "(II)I"⟩
abbrev cX7_goesOn : ByteArray := prog_9_method_25_code
def yX7_goesOn : MethodName := ⟨RX7, "goesOn", "(II)I"⟩
abbrev cX7_what : ByteArray := prog_9_method_26_code
def yX7_what : MethodName := ⟨RX7, "what", "()I"⟩
abbrev cX7_failed : ByteArray := prog_9_method_27_code
def yX7_failed : MethodName := ⟨RX7, "failed", "()I"⟩
abbrev cX7_counted : ByteArray := prog_9_method_28_code
def yX7_counted : MethodName := ⟨RX7, "counted", "()J"⟩
abbrev cX7_batch : ByteArray := prog_9_method_29_code
def yX7_batch : MethodName := ⟨RX7, "batch", "(I)I"⟩
abbrev cX7_goes : ByteArray := prog_9_method_30_code
def yX7_goes : MethodName := ⟨RX7, "goes", "(I)Z"⟩
abbrev cX7_undo : ByteArray := prog_9_method_31_code
def yX7_undo : MethodName := ⟨RX7, "undo", "()I"⟩
abbrev cX7_drop : ByteArray := prog_9_method_32_code
def yX7_drop : MethodName := ⟨RX7, "drop", "(I)I"⟩
abbrev cX7_about : ByteArray := prog_9_method_33_code
def yX7_about : MethodName := ⟨RX7, "about", "(II)I"⟩
abbrev cX7_at : ByteArray := prog_9_method_34_code
def yX7_at : MethodName := ⟨RX7, "at", "(II)I"⟩
abbrev cX7_tried : ByteArray := prog_9_method_35_code
def yX7_tried : MethodName := ⟨RX7, "tried", "(I)I"⟩
def RJx00060 : String := "java/lang/ArrayIndexOutOfBoundsException"
def TJx00060 : u_T := fun k => match k with
  | 0 => ("java/lang/Throwable", "cause", "Ljava/lang/Throwable;", false)
  | 1 => ("java/lang/Throwable", "stackTrace", "[Ljava/lang/StackTraceElement;", false)
  | 2 => ("java/lang/Throwable", "suppressedExceptions", "Ljava/util/List;", false)
  | 3 => ("java/lang/Throwable", "detailMessage", "Ljava/lang/String;", false)
  | 4 => ("java/lang/Throwable", "backtrace", "Ljava/lang/Object;", false)
  | _ => ("java/lang/Throwable", "depth", "I", false)
def tyJx00060 : Nat → FieldType := fun k => match k with
  | 0 => .object "java/lang/Throwable"
  | 1 => .array (.object "java/lang/StackTraceElement")
  | 2 => .object "java/util/List"
  | 3 => .object "java/lang/String"
  | 4 => .object "java/lang/Object"
  | _ => .int
theorem nmJx00060 : ∀ a, a < 6 → ∀ b, b < 6 → a ≠ b → (TJx00060 a).2.1 ≠ (TJx00060 b).2.1 := by decide +kernel
theorem tyJx00060_ok : ∀ k, k < 6 → parseFieldDescriptor (TJx00060 k).2.2.1 = some (tyJx00060 k) := by decide +kernel
abbrev cJx00060_init_a7421 : ByteArray := prog_10_method_2_code
def yJx00060_init_a7421 : MethodName := ⟨RJx00060, "<init>", "(Ljava/lang/String;)V"⟩
def RJ11 : String := "java/lang/Character"
def TJ11 : u_T := fun k => match k with
  | _ => ("", "", "", false)
def tyJ11 : Nat → FieldType := fun k => match k with
  | _ => .int
theorem nmJ11 : ∀ a, a < 0 → ∀ b, b < 0 → a ≠ b → (TJ11 a).2.1 ≠ (TJ11 b).2.1 := by decide +kernel
theorem tyJ11_ok : ∀ k, k < 0 → parseFieldDescriptor (TJ11 k).2.2.1 = some (tyJ11 k) := by decide +kernel
abbrev cJ11_isValidCodePoint_9a6ad : ByteArray := prog_11_method_11_code
def yJ11_isValidCodePoint_9a6ad : MethodName := ⟨RJ11, "isValidCodePoint", "(I)Z"⟩
abbrev cJ11_highSurrogate_5068e : ByteArray := prog_11_method_28_code
def yJ11_highSurrogate_5068e : MethodName := ⟨RJ11, "highSurrogate", "(I)C"⟩
abbrev cJ11_lowSurrogate_5068e : ByteArray := prog_11_method_29_code
def yJ11_lowSurrogate_5068e : MethodName := ⟨RJ11, "lowSurrogate", "(I)C"⟩
def RJx8e188 : String := "java/lang/Cloneable"
def TJx8e188 : u_T := fun k => match k with
  | _ => ("", "", "", false)
def tyJx8e188 : Nat → FieldType := fun k => match k with
  | _ => .int
theorem nmJx8e188 : ∀ a, a < 0 → ∀ b, b < 0 → a ≠ b → (TJx8e188 a).2.1 ≠ (TJx8e188 b).2.1 := by decide +kernel
theorem tyJx8e188_ok : ∀ k, k < 0 → parseFieldDescriptor (TJx8e188 k).2.2.1 = some (tyJx8e188 k) := by decide +kernel
def RJ9 : String := "java/lang/Math"
def TJ9 : u_T := fun k => match k with
  | _ => ("", "", "", false)
def tyJ9 : Nat → FieldType := fun k => match k with
  | _ => .int
theorem nmJ9 : ∀ a, a < 0 → ∀ b, b < 0 → a ≠ b → (TJ9 a).2.1 ≠ (TJ9 b).2.1 := by decide +kernel
theorem tyJ9_ok : ∀ k, k < 0 → parseFieldDescriptor (TJ9 k).2.2.1 = some (tyJ9 k) := by decide +kernel
abbrev cJ9_max_7cf53 : ByteArray := prog_16_method_65_code
def yJ9_max_7cf53 : MethodName := ⟨RJ9, "max", "(II)I"⟩
abbrev cJ9_min_7cf53 : ByteArray := prog_16_method_69_code
def yJ9_min_7cf53 : MethodName := ⟨RJ9, "min", "(II)I"⟩
def RJ0 : String := "java/lang/String"
def TJ0 : u_T := fun k => match k with
  | _ => ("", "", "", false)
def tyJ0 : Nat → FieldType := fun k => match k with
  | _ => .int
theorem nmJ0 : ∀ a, a < 0 → ∀ b, b < 0 → a ≠ b → (TJ0 a).2.1 ≠ (TJ0 b).2.1 := by decide +kernel
theorem tyJ0_ok : ∀ k, k < 0 → parseFieldDescriptor (TJ0 k).2.2.1 = some (tyJ0 k) := by decide +kernel
abbrev cJ0_length_8abf5 : ByteArray := prog_18_method_54_code
def yJ0_length_8abf5 : MethodName := ⟨RJ0, "length", "()I"⟩
abbrev cJ0_indexOf_0f7a4 : ByteArray := prog_18_method_79_code
def yJ0_indexOf_0f7a4 : MethodName := ⟨RJ0, "indexOf", "(I)I"⟩
abbrev cJ0_indexOf_7cf53 : ByteArray := prog_18_method_80_code
def yJ0_indexOf_7cf53 : MethodName := ⟨RJ0, "indexOf", "(II)I"⟩
abbrev cJ0_coder_7d493 : ByteArray := prog_18_method_152_code
def yJ0_coder_7d493 : MethodName := ⟨RJ0, "coder", "()B"⟩
abbrev cJ0_isLatin1_aae02 : ByteArray := prog_18_method_154_code
def yJ0_isLatin1_aae02 : MethodName := ⟨RJ0, "isLatin1", "()Z"⟩
abbrev cJ0_checkBoundsBeginEnd_23922 : ByteArray := prog_18_method_158_code
def yJ0_checkBoundsBeginEnd_23922 : MethodName := ⟨RJ0, "checkBoundsBeginEnd", "(III)V"⟩
def RJ1 : String := "java/lang/StringLatin1"
def TJ1 : u_T := fun k => match k with
  | _ => ("", "", "", false)
def tyJ1 : Nat → FieldType := fun k => match k with
  | _ => .int
theorem nmJ1 : ∀ a, a < 0 → ∀ b, b < 0 → a ≠ b → (TJ1 a).2.1 ≠ (TJ1 b).2.1 := by decide +kernel
theorem tyJ1_ok : ∀ k, k < 0 → parseFieldDescriptor (TJ1 k).2.2.1 = some (tyJ1 k) := by decide +kernel
abbrev cJ1_canEncode_9a6ad : ByteArray := prog_19_method_4_code
def yJ1_canEncode_9a6ad : MethodName := ⟨RJ1, "canEncode", "(I)Z"⟩
abbrev cJ1_indexOf_4cfef : ByteArray := prog_19_method_22_code
def yJ1_indexOf_4cfef : MethodName := ⟨RJ1, "indexOf", "([BIII)I"⟩
abbrev cJ1_indexOfChar_4cfef : ByteArray := prog_19_method_23_code
def yJ1_indexOfChar_4cfef : MethodName := ⟨RJ1, "indexOfChar", "([BIII)I"⟩
def RJ2 : String := "java/lang/StringUTF16"
def TJ2 : u_T := fun k => match k with
  | _ => ("", "", "", false)
def tyJ2 : Nat → FieldType := fun k => match k with
  | _ => .int
theorem nmJ2 : ∀ a, a < 0 → ∀ b, b < 0 → a ≠ b → (TJ2 a).2.1 ≠ (TJ2 b).2.1 := by decide +kernel
theorem tyJ2_ok : ∀ k, k < 0 → parseFieldDescriptor (TJ2 k).2.2.1 = some (tyJ2 k) := by decide +kernel
abbrev cJ2_getChar_3b067 : ByteArray := prog_20_method_5_code
def yJ2_getChar_3b067 : MethodName := ⟨RJ2, "getChar", "([BI)C"⟩
abbrev cJ2_length_9d52b : ByteArray := prog_20_method_6_code
def yJ2_length_9d52b : MethodName := ⟨RJ2, "length", "([B)I"⟩
abbrev cJ2_indexOf_4cfef : ByteArray := prog_20_method_40_code
def yJ2_indexOf_4cfef : MethodName := ⟨RJ2, "indexOf", "([BIII)I"⟩
abbrev cJ2_indexOfChar_4cfef : ByteArray := prog_20_method_47_code
def yJ2_indexOfChar_4cfef : MethodName := ⟨RJ2, "indexOfChar", "([BIII)I"⟩
abbrev cJ2_indexOfCharUnsafe_4cfef : ByteArray := prog_20_method_48_code
def yJ2_indexOfCharUnsafe_4cfef : MethodName := ⟨RJ2, "indexOfCharUnsafe", "([BIII)I"⟩
abbrev cJ2_indexOfSupplementary_4cfef : ByteArray := prog_20_method_49_code
def yJ2_indexOfSupplementary_4cfef : MethodName := ⟨RJ2, "indexOfSupplementary", "([BIII)I"⟩
abbrev cJ2_checkBoundsBeginEnd_d044e : ByteArray := prog_20_method_93_code
def yJ2_checkBoundsBeginEnd_d044e : MethodName := ⟨RJ2, "checkBoundsBeginEnd", "(II[B)V"⟩
def RJ10 : String := "java/lang/System"
def TJ10 : u_T := fun k => match k with
  | _ => ("", "", "", false)
def tyJ10 : Nat → FieldType := fun k => match k with
  | _ => .int
theorem nmJ10 : ∀ a, a < 0 → ∀ b, b < 0 → a ≠ b → (TJ10 a).2.1 ≠ (TJ10 b).2.1 := by decide +kernel
theorem tyJ10_ok : ∀ k, k < 0 → parseFieldDescriptor (TJ10 k).2.2.1 = some (tyJ10 k) := by decide +kernel
def RJ7 : String := "java/util/Arrays"
def TJ7 : u_T := fun k => match k with
  | _ => ("", "", "", false)
def tyJ7 : Nat → FieldType := fun k => match k with
  | _ => .int
theorem nmJ7 : ∀ a, a < 0 → ∀ b, b < 0 → a ≠ b → (TJ7 a).2.1 ≠ (TJ7 b).2.1 := by decide +kernel
theorem tyJ7_ok : ∀ k, k < 0 → parseFieldDescriptor (TJ7 k).2.2.1 = some (tyJ7 k) := by decide +kernel
abbrev cJ7_fill_53178 : ByteArray := prog_23_method_103_code
def yJ7_fill_53178 : MethodName := ⟨RJ7, "fill", "([II)V"⟩
abbrev cJ7_copyOf_59c91 : ByteArray := prog_23_method_123_code
def yJ7_copyOf_59c91 : MethodName := ⟨RJ7, "copyOf", "([II)[I"⟩
def RJ3 : String := "jdk/internal/util/Preconditions"
def TJ3 : u_T := fun k => match k with
  | _ => ("", "", "", false)
def tyJ3 : Nat → FieldType := fun k => match k with
  | _ => .int
theorem nmJ3 : ∀ a, a < 0 → ∀ b, b < 0 → a ≠ b → (TJ3 a).2.1 ≠ (TJ3 b).2.1 := by decide +kernel
theorem tyJ3_ok : ∀ k, k < 0 → parseFieldDescriptor (TJ3 k).2.2.1 = some (tyJ3 k) := by decide +kernel
abbrev cJ3_checkFromToIndex_8c36e : ByteArray := prog_24_method_12_code
def yJ3_checkFromToIndex_8c36e : MethodName := ⟨RJ3, "checkFromToIndex", "(IIILjava/util/function/BiFunction;)I"⟩
def RL : String := "MigrateStepsLaw"
abbrev cL_cell : ByteArray := method_2_code
def yL_cell : MethodName := ⟨RL, "cell", "([II)I"⟩
abbrev cL_read : ByteArray := method_3_code
def yL_read : MethodName := ⟨RL, "read", "(LMigrateSteps;[J)I"⟩
abbrev cL_at : ByteArray := method_4_code
def yL_at : MethodName := ⟨RL, "at", "(LMigrateSteps;II[J)I"⟩
abbrev cL_law : ByteArray := code
def yL_law : MethodName := ⟨RL, "law", "([I)Z"⟩
