/-! ===== what the tables say of each link ===== -/
theorem xm1 {w : Cond} {j : Nat} (h : tables_1_1[j]? = some w) : w ∈ lw_tbl := List.mem_append_right _ (List.mem_append_left _ (List.mem_of_getElem? h))
theorem xm2 {w : Cond} {j : Nat} (h : tables_1_2[j]? = some w) : w ∈ lw_tbl := List.mem_append_right _ (List.mem_append_right _ (List.mem_append_left _ (List.mem_of_getElem? h)))
theorem xm3 {w : Cond} {j : Nat} (h : tables_1_3[j]? = some w) : w ∈ lw_tbl := List.mem_append_right _ (List.mem_append_right _ (List.mem_append_right _ (List.mem_append_left _ (List.mem_of_getElem? h))))
theorem xm4 {w : Cond} {j : Nat} (h : tables_1_4[j]? = some w) : w ∈ lw_tbl := List.mem_append_right _ (List.mem_append_right _ (List.mem_append_right _ (List.mem_append_right _ (List.mem_of_getElem? h))))
theorem xmp {w : Cond} {j : Nat} (h : (k2_sels lw_privs)[j]? = some w) : w ∈ lw_tbl := List.mem_append_left _ (List.mem_of_getElem? h)
theorem iz_L : Cond.initialized RL ∈ xwd := xwd_in (xm1 (j := 0) rfl) rfl
theorem iz_X6 : Cond.initialized RX6 ∈ xwd := xwd_in (xm1 (j := 1) rfl) rfl
theorem iz_X5 : Cond.initialized RX5 ∈ xwd := xwd_in (xm1 (j := 2) rfl) rfl
theorem iz_X0 : Cond.initialized RX0 ∈ xwd := xwd_in (xm1 (j := 3) rfl) rfl
theorem iz_X3 : Cond.initialized RX3 ∈ xwd := xwd_in (xm1 (j := 4) rfl) rfl
theorem iz_J9 : Cond.initialized RJ9 ∈ xwd := xwd_in (xm1 (j := 5) rfl) rfl
theorem iz_X7 : Cond.initialized RX7 ∈ xwd := xwd_in (xm1 (j := 6) rfl) rfl
theorem iz_J0 : Cond.initialized RJ0 ∈ xwd := xwd_in (xm1 (j := 7) rfl) rfl
theorem iz_J1 : Cond.initialized RJ1 ∈ xwd := xwd_in (xm1 (j := 8) rfl) rfl
theorem iz_J2 : Cond.initialized RJ2 ∈ xwd := xwd_in (xm1 (j := 9) rfl) rfl
theorem iz_J3 : Cond.initialized RJ3 ∈ xwd := xwd_in (xm1 (j := 10) rfl) rfl
theorem iz_J11 : Cond.initialized RJ11 ∈ xwd := xwd_in (xm1 (j := 11) rfl) rfl
theorem iz_X4 : Cond.initialized RX4 ∈ xwd := xwd_in (xm1 (j := 16) rfl) rfl
theorem iz_J7 : Cond.initialized RJ7 ∈ xwd := xwd_in (xm1 (j := 17) rfl) rfl
theorem iz_J10 : Cond.initialized RJ10 ∈ xwd := xwd_in (xm1 (j := 18) rfl) rfl
theorem iz_X1 : Cond.initialized RX1 ∈ xwd := xwd_in (xm1 (j := 19) rfl) rfl
theorem iz_X2 : Cond.initialized RX2 ∈ xwd := xwd_in (xm1 (j := 20) rfl) rfl
theorem iz_Jx00060 : Cond.initialized RJx00060 ∈ xwd := xwd_in (xm1 (j := 22) rfl) rfl
theorem cl_L_8 : Cond.classLink RL 8 RX6 ∈ xwd := xwd_in (xm1 (j := 23) rfl) rfl
theorem im_X6 : Cond.instantiable RX6 10 ∈ xwd := xwd_in (xm1 (j := 24) rfl) rfl
theorem ml_L_27 : Cond.methodLink RL 27 yX6_init ∈ xwd := xwd_in (xm1 (j := 25) rfl) rfl
theorem ml_X6_1 : Cond.methodLink RX6 1 objectInit ∈ xwd := xwd_in (xm1 (j := 28) rfl) rfl
theorem cl_X6_7 : Cond.classLink RX6 7 RX5 ∈ xwd := xwd_in (xm1 (j := 31) rfl) rfl
theorem im_X5 : Cond.instantiable RX5 5 ∈ xwd := xwd_in (xm1 (j := 32) rfl) rfl
theorem mn_X6_9 : Cond.methodLinkNest RX6 9 yX5_init "MigrateSteps" ∈ xnw := List.mem_filter.mpr ⟨xm1 (j := 33) rfl, rfl⟩
theorem ml_X5_3 : Cond.methodLink RX5 3 objectInit ∈ xwd := xwd_in (xm1 (j := 36) rfl) rfl
theorem fs_X5_9 : xFS RX5 9 5 0 true := ⟨RX5, TX5, 5, rfl, by decide, xwd_in (xm1 (j := 37) rfl) rfl, rfl⟩
theorem fs_X5_15 : xFS RX5 15 5 1 true := ⟨RX5, TX5, 5, rfl, by decide, xwd_in (xm1 (j := 38) rfl) rfl, rfl⟩
theorem fs_X5_18 : xFS RX5 18 5 2 true := ⟨RX5, TX5, 5, rfl, by decide, xwd_in (xm1 (j := 39) rfl) rfl, rfl⟩
theorem fs_X5_21 : xFS RX5 21 5 3 false := ⟨RX5, TX5, 5, rfl, by decide, xwd_in (xm1 (j := 40) rfl) rfl, rfl⟩
theorem fs_X5_25 : xFS RX5 25 5 4 false := ⟨RX5, TX5, 5, rfl, by decide, xwd_in (xm1 (j := 41) rfl) rfl, rfl⟩
theorem ac_int : Cond.arrayClass .int ∈ xwd := xwd_in (xm1 (j := 53) rfl) rfl
theorem cl_X6_16 : Cond.classLink RX6 16 RX0 ∈ xwd := xwd_in (xm1 (j := 54) rfl) rfl
theorem im_X0 : Cond.instantiable RX0 2 ∈ xwd := xwd_in (xm1 (j := 55) rfl) rfl
theorem ml_X6_18 : Cond.methodLink RX6 18 yX0_init ∈ xwd := xwd_in (xm1 (j := 56) rfl) rfl
theorem ml_X0_3 : Cond.methodLink RX0 3 objectInit ∈ xwd := xwd_in (xm1 (j := 59) rfl) rfl
theorem fs_X0_9 : xFS RX0 9 0 0 true := ⟨RX0, TX0, 2, rfl, by decide, xwd_in (xm1 (j := 60) rfl) rfl, rfl⟩
theorem fs_X0_15 : xFS RX0 15 0 1 false := ⟨RX0, TX0, 2, rfl, by decide, xwd_in (xm1 (j := 61) rfl) rfl, rfl⟩
theorem fn_X1_26 : xFSN RX1 26 0 1 false := ⟨RX0, TX0, 2, "MigrateSteps", rfl, by decide, List.mem_filter.mpr ⟨xm1 (j := 62) rfl, rfl⟩, rfl⟩
theorem fn_X3_91 : xFSN RX3 91 0 1 false := ⟨RX0, TX0, 2, "MigrateSteps", rfl, by decide, List.mem_filter.mpr ⟨xm1 (j := 63) rfl, rfl⟩, rfl⟩
theorem fn_X6_172 : xFSN RX6 172 0 1 false := ⟨RX0, TX0, 2, "MigrateSteps", rfl, by decide, List.mem_filter.mpr ⟨xm1 (j := 64) rfl, rfl⟩, rfl⟩
theorem cl_X6_25 : Cond.classLink RX6 25 RX4 ∈ xwd := xwd_in (xm1 (j := 70) rfl) rfl
theorem cl_X6_31 : Cond.classLink RX6 31 RX2 ∈ xwd := xwd_in (xm1 (j := 72) rfl) rfl
theorem cl_X6_53 : Cond.classLink RX6 53 RX3 ∈ xwd := xwd_in (xm1 (j := 74) rfl) rfl
theorem im_X3 : Cond.instantiable RX3 9 ∈ xwd := xwd_in (xm1 (j := 75) rfl) rfl
theorem ml_X6_55 : Cond.methodLink RX6 55 yJ9_min_7cf53 ∈ xwd := xwd_in (xm1 (j := 76) rfl) rfl
theorem ml_X6_61 : Cond.methodLink RX6 61 yJ9_max_7cf53 ∈ xwd := xwd_in (xm1 (j := 79) rfl) rfl
theorem ml_X6_64 : Cond.methodLink RX6 64 yX3_init ∈ xwd := xwd_in (xm1 (j := 82) rfl) rfl
theorem ml_X3_3 : Cond.methodLink RX3 3 objectInit ∈ xwd := xwd_in (xm1 (j := 85) rfl) rfl
theorem cl_X3_9 : Cond.classLink RX3 9 RX0 ∈ xwd := xwd_in (xm1 (j := 86) rfl) rfl
theorem ml_X3_11 : Cond.methodLink RX3 11 yX0_init ∈ xwd := xwd_in (xm1 (j := 87) rfl) rfl
theorem fs_X3_40 : xFS RX3 40 3 0 true := ⟨RX3, TX3, 9, rfl, by decide, xwd_in (xm1 (j := 88) rfl) rfl, rfl⟩
theorem fs_X3_43 : xFS RX3 43 3 1 true := ⟨RX3, TX3, 9, rfl, by decide, xwd_in (xm1 (j := 89) rfl) rfl, rfl⟩
theorem fs_X3_14 : xFS RX3 14 3 2 true := ⟨RX3, TX3, 9, rfl, by decide, xwd_in (xm1 (j := 90) rfl) rfl, rfl⟩
theorem fn_X6_196 : xFSN RX6 196 3 2 true := ⟨RX3, TX3, 9, "MigrateSteps", rfl, by decide, List.mem_filter.mpr ⟨xm1 (j := 91) rfl, rfl⟩, rfl⟩
theorem fs_X3_20 : xFS RX3 20 3 3 false := ⟨RX3, TX3, 9, rfl, by decide, xwd_in (xm1 (j := 92) rfl) rfl, rfl⟩
theorem fs_X3_24 : xFS RX3 24 3 4 false := ⟨RX3, TX3, 9, rfl, by decide, xwd_in (xm1 (j := 93) rfl) rfl, rfl⟩
theorem fs_X3_27 : xFS RX3 27 3 5 false := ⟨RX3, TX3, 9, rfl, by decide, xwd_in (xm1 (j := 94) rfl) rfl, rfl⟩
theorem fs_X3_30 : xFS RX3 30 3 6 false := ⟨RX3, TX3, 9, rfl, by decide, xwd_in (xm1 (j := 95) rfl) rfl, rfl⟩
theorem fs_X3_33 : xFS RX3 33 3 7 false := ⟨RX3, TX3, 9, rfl, by decide, xwd_in (xm1 (j := 96) rfl) rfl, rfl⟩
theorem fn_X6_144 : xFSN RX6 144 3 7 false := ⟨RX3, TX3, 9, "MigrateSteps", rfl, by decide, List.mem_filter.mpr ⟨xm1 (j := 97) rfl, rfl⟩, rfl⟩
theorem fs_X3_36 : xFS RX3 36 3 8 false := ⟨RX3, TX3, 9, rfl, by decide, xwd_in (xm1 (j := 98) rfl) rfl, rfl⟩
theorem fn_X6_147 : xFSN RX6 147 3 8 false := ⟨RX3, TX3, 9, "MigrateSteps", rfl, by decide, List.mem_filter.mpr ⟨xm1 (j := 99) rfl, rfl⟩, rfl⟩
theorem fs_X6_10 : xFS RX6 10 6 0 true := ⟨RX6, TX6, 10, rfl, by decide, xwd_in (xm1 (j := 119) rfl) rfl, rfl⟩
theorem fs_X6_21 : xFS RX6 21 6 1 true := ⟨RX6, TX6, 10, rfl, by decide, xwd_in (xm1 (j := 120) rfl) rfl, rfl⟩
theorem fs_X6_27 : xFS RX6 27 6 2 true := ⟨RX6, TX6, 10, rfl, by decide, xwd_in (xm1 (j := 121) rfl) rfl, rfl⟩
theorem fs_X6_33 : xFS RX6 33 6 3 true := ⟨RX6, TX6, 10, rfl, by decide, xwd_in (xm1 (j := 122) rfl) rfl, rfl⟩
theorem fs_X6_67 : xFS RX6 67 6 4 true := ⟨RX6, TX6, 10, rfl, by decide, xwd_in (xm1 (j := 123) rfl) rfl, rfl⟩
theorem fs_X6_37 : xFS RX6 37 6 5 false := ⟨RX6, TX6, 10, rfl, by decide, xwd_in (xm1 (j := 124) rfl) rfl, rfl⟩
theorem fs_X6_41 : xFS RX6 41 6 6 false := ⟨RX6, TX6, 10, rfl, by decide, xwd_in (xm1 (j := 125) rfl) rfl, rfl⟩
theorem fs_X6_44 : xFS RX6 44 6 7 false := ⟨RX6, TX6, 10, rfl, by decide, xwd_in (xm1 (j := 126) rfl) rfl, rfl⟩
theorem fs_X6_47 : xFS RX6 47 6 8 false := ⟨RX6, TX6, 10, rfl, by decide, xwd_in (xm1 (j := 127) rfl) rfl, rfl⟩
theorem fs_X6_50 : xFS RX6 50 6 9 false := ⟨RX6, TX6, 10, rfl, by decide, xwd_in (xm1 (j := 128) rfl) rfl, rfl⟩
theorem ml_L_33 : Cond.methodLink RL 33 yX6_sign ∈ xwd := xwd_in (xm1 (j := 150) rfl) rfl
theorem ml_X6_71 : Cond.methodLink RX6 71 yX5_add ∈ xwd := xwd_in (xm1 (j := 154) rfl) rfl
theorem ml_L_45 : Cond.methodLink RL 45 yX6_place ∈ xwd := xwd_in (xm1 (j := 158) rfl) rfl
theorem ml_L_49 : Cond.methodLink RL 49 yX6_octet ∈ xwd := xwd_in (xm1 (j := 162) rfl) rfl
theorem ml_X6_93 : Cond.methodLink RX6 93 yX0_add ∈ xwd := xwd_in (xm1 (j := 166) rfl) rfl
theorem ml_L_53 : Cond.methodLink RL 53 yX6_original ∈ xwd := xwd_in (xm1 (j := 170) rfl) rfl
theorem im_X2 : Cond.instantiable RX2 6 ∈ xwd := xwd_in (xm1 (j := 174) rfl) rfl
theorem ml_X6_96 : Cond.methodLink RX6 96 yX0_copy ∈ xwd := xwd_in (xm1 (j := 175) rfl) rfl
theorem ml_X0_23 : Cond.methodLink RX0 23 yJ9_min_7cf53 ∈ xwd := xwd_in (xm1 (j := 179) rfl) rfl
theorem ml_X0_29 : Cond.methodLink RX0 29 yJ9_max_7cf53 ∈ xwd := xwd_in (xm1 (j := 180) rfl) rfl
theorem cl_X0_10 : Cond.classLink RX0 10 RX0 ∈ xwd := xwd_in (xm1 (j := 181) rfl) rfl
theorem ml_X0_32 : Cond.methodLink RX0 32 yJ7_copyOf_59c91 ∈ xwd := xwd_in (xm1 (j := 182) rfl) rfl
theorem ml_J7_316 : Cond.methodLink RJ7 316 ⟨"[I", "clone", "()Ljava/lang/Object;"⟩ ∈ xwd := xwd_in (xm1 (j := 185) rfl) rfl
theorem cl_J7_317 : Cond.classLink RJ7 317 "[I" ∈ xwd := xwd_in (xm1 (j := 191) rfl) rfl
theorem ml_J7_304 : Cond.methodLink RJ7 304 yJ9_min_7cf53 ∈ xwd := xwd_in (xm1 (j := 192) rfl) rfl
theorem ml_J7_150 : Cond.methodLink RJ7 150 ⟨"java/lang/System", "arraycopy", "(Ljava/lang/Object;ILjava/lang/Object;II)V"⟩ ∈ xwd := xwd_in (xm1 (j := 193) rfl) rfl
theorem ml_X0_38 : Cond.methodLink RX0 38 yX0_init ∈ xwd := xwd_in (xm1 (j := 196) rfl) rfl
theorem ml_X6_100 : Cond.methodLink RX6 100 yX2_init ∈ xwd := xwd_in (xm1 (j := 197) rfl) rfl
theorem ml_X2_3 : Cond.methodLink RX2 3 objectInit ∈ xwd := xwd_in (xm1 (j := 200) rfl) rfl
theorem fs_X2_19 : xFS RX2 19 2 0 true := ⟨RX2, TX2, 6, rfl, by decide, xwd_in (xm1 (j := 201) rfl) rfl, rfl⟩
theorem fn_X6_169 : xFSN RX6 169 2 0 true := ⟨RX2, TX2, 6, "MigrateSteps", rfl, by decide, List.mem_filter.mpr ⟨xm1 (j := 202) rfl, rfl⟩, rfl⟩
theorem fs_X2_23 : xFS RX2 23 2 1 true := ⟨RX2, TX2, 6, rfl, by decide, xwd_in (xm1 (j := 203) rfl) rfl, rfl⟩
theorem fn_X6_175 : xFSN RX6 175 2 1 true := ⟨RX2, TX2, 6, "MigrateSteps", rfl, by decide, List.mem_filter.mpr ⟨xm1 (j := 204) rfl, rfl⟩, rfl⟩
theorem fs_X2_26 : xFS RX2 26 2 2 true := ⟨RX2, TX2, 6, rfl, by decide, xwd_in (xm1 (j := 205) rfl) rfl, rfl⟩
theorem fn_X6_178 : xFSN RX6 178 2 2 true := ⟨RX2, TX2, 6, "MigrateSteps", rfl, by decide, List.mem_filter.mpr ⟨xm1 (j := 206) rfl, rfl⟩, rfl⟩
theorem fs_X2_29 : xFS RX2 29 2 3 true := ⟨RX2, TX2, 6, rfl, by decide, xwd_in (xm1 (j := 207) rfl) rfl, rfl⟩
theorem fn_X6_185 : xFSN RX6 185 2 3 true := ⟨RX2, TX2, 6, "MigrateSteps", rfl, by decide, List.mem_filter.mpr ⟨xm1 (j := 208) rfl, rfl⟩, rfl⟩
theorem fs_X2_9 : xFS RX2 9 2 4 false := ⟨RX2, TX2, 6, rfl, by decide, xwd_in (xm1 (j := 209) rfl) rfl, rfl⟩
theorem fn_X6_210 : xFSN RX6 210 2 4 false := ⟨RX2, TX2, 6, "MigrateSteps", rfl, by decide, List.mem_filter.mpr ⟨xm1 (j := 210) rfl, rfl⟩, rfl⟩
theorem fs_X2_15 : xFS RX2 15 2 5 false := ⟨RX2, TX2, 6, rfl, by decide, xwd_in (xm1 (j := 211) rfl) rfl, rfl⟩
theorem fn_X6_181 : xFSN RX6 181 2 5 false := ⟨RX2, TX2, 6, "MigrateSteps", rfl, by decide, List.mem_filter.mpr ⟨xm1 (j := 212) rfl, rfl⟩, rfl⟩
theorem ml_X6_103 : Cond.methodLink RX6 103 yX6_keep ∈ xwd := xwd_in (xm1 (j := 226) rfl) rfl
theorem ml_X6_107 : Cond.methodLink RX6 107 yX0_clear ∈ xwd := xwd_in (xm1 (j := 230) rfl) rfl
theorem ml_L_57 : Cond.methodLink RL 57 yX6_check ∈ xwd := xwd_in (xm1 (j := 234) rfl) rfl
theorem ml_X6_108 : Cond.methodLink RX6 108 yX6_scriptOf ∈ xwd := xwd_in (xm1 (j := 238) rfl) rfl
theorem ml_X6_116 : Cond.methodLink RX6 116 yX1_add ∈ xwd := xwd_in (xm2 (j := 2) rfl) rfl
theorem ml_L_62 : Cond.methodLink RL 62 yX6_migrate ∈ xwd := xwd_in (xm2 (j := 6) rfl) rfl
theorem ml_X6_123 : Cond.methodLink RX6 123 yX6_liveItem ∈ xwd := xwd_in (xm2 (j := 10) rfl) rfl
theorem ml_X6_166 : Cond.methodLink RX6 166 yX6_itemOf ∈ xwd := xwd_in (xm2 (j := 14) rfl) rfl
theorem ml_X6_127 : Cond.methodLink RX6 127 yX6_derive ∈ xwd := xwd_in (xm2 (j := 18) rfl) rfl
theorem ml_X6_199 : Cond.methodLink RX6 199 yX6_hasDerivedBy ∈ xwd := xwd_in (xm2 (j := 22) rfl) rfl
theorem ml_X6_202 : Cond.methodLink RX6 202 yX1_hold ∈ xwd := xwd_in (xm2 (j := 26) rfl) rfl
theorem ml_X1_22 : Cond.methodLink RX1 22 yX1_holds ∈ xwd := xwd_in (xm2 (j := 30) rfl) rfl
theorem ml_X1_31 : Cond.methodLink RX1 31 yX0_byteAt ∈ xwd := xwd_in (xm2 (j := 33) rfl) rfl
theorem ml_X1_35 : Cond.methodLink RX1 35 yX0_sum ∈ xwd := xwd_in (xm2 (j := 37) rfl) rfl
theorem ml_X0_19 : Cond.methodLink RX0 19 yX0_byteAt ∈ xwd := xwd_in (xm2 (j := 41) rfl) rfl
theorem ml_X6_206 : Cond.methodLink RX6 206 yX3_run ∈ xwd := xwd_in (xm2 (j := 42) rfl) rfl
theorem ml_X3_47 : Cond.methodLink RX3 47 yX3_begin ∈ xwd := xwd_in (xm2 (j := 46) rfl) rfl
theorem ml_X3_66 : Cond.methodLink RX3 66 yJ7_fill_53178 ∈ xwd := xwd_in (xm2 (j := 50) rfl) rfl
theorem ml_X3_71 : Cond.methodLink RX3 71 yX0_clear ∈ xwd := xwd_in (xm2 (j := 53) rfl) rfl
theorem ml_X3_50 : Cond.methodLink RX3 50 yX4_size ∈ xwd := xwd_in (xm2 (j := 54) rfl) rfl
theorem ml_X4_32 : Cond.methodLink RX4 32 yJ9_min_7cf53 ∈ xwd := xwd_in (xm2 (j := 58) rfl) rfl
theorem ml_X3_62 : Cond.methodLink RX3 62 yX3_step ∈ xwd := xwd_in (xm2 (j := 59) rfl) rfl
theorem ml_X3_74 : Cond.methodLink RX3 74 yX0_byteAt ∈ xwd := xwd_in (xm2 (j := 63) rfl) rfl
theorem ml_X3_78 : Cond.methodLink RX3 78 yX3_fetch ∈ xwd := xwd_in (xm2 (j := 64) rfl) rfl
theorem ml_X3_82 : Cond.methodLink RX3 82 yX3_putOut ∈ xwd := xwd_in (xm2 (j := 68) rfl) rfl
theorem ml_X3_111 : Cond.methodLink RX3 111 yX0_add ∈ xwd := xwd_in (xm2 (j := 72) rfl) rfl
theorem ml_X3_108 : Cond.methodLink RX3 108 yX3_failIf ∈ xwd := xwd_in (xm2 (j := 73) rfl) rfl
theorem ml_X3_85 : Cond.methodLink RX3 85 yX3_store ∈ xwd := xwd_in (xm2 (j := 77) rfl) rfl
theorem ml_X3_88 : Cond.methodLink RX3 88 yX3_recall ∈ xwd := xwd_in (xm2 (j := 81) rfl) rfl
theorem ml_X3_93 : Cond.methodLink RX3 93 yX3_jumpIf ∈ xwd := xwd_in (xm2 (j := 85) rfl) rfl
theorem ml_X3_97 : Cond.methodLink RX3 97 yX3_stepWithin ∈ xwd := xwd_in (xm2 (j := 89) rfl) rfl
theorem ct_X3_101 : Cond.constant RX3 101 (1000000) ∈ xwd := xwd_in (xm2 (j := 93) rfl) rfl
theorem ml_X3_102 : Cond.methodLink RX3 102 yJ9_min_7cf53 ∈ xwd := xwd_in (xm2 (j := 94) rfl) rfl
theorem ml_X6_130 : Cond.methodLink RX6 130 yX6_against ∈ xwd := xwd_in (xm2 (j := 95) rfl) rfl
theorem ml_L_66 : Cond.methodLink RL 66 yX6_chain ∈ xwd := xwd_in (xm2 (j := 98) rfl) rfl
theorem ml_X6_134 : Cond.methodLink RX6 134 yX6_comesTo ∈ xwd := xwd_in (xm2 (j := 102) rfl) rfl
theorem ml_X6_141 : Cond.methodLink RX6 141 yX6_nextOf ∈ xwd := xwd_in (xm2 (j := 106) rfl) rfl
theorem ml_L_70 : Cond.methodLink RL 70 yX6_goesOn ∈ xwd := xwd_in (xm2 (j := 110) rfl) rfl
theorem ml_L_74 : Cond.methodLink RL 74 yX6_what ∈ xwd := xwd_in (xm2 (j := 114) rfl) rfl
theorem ml_L_78 : Cond.methodLink RL 78 yX6_failed ∈ xwd := xwd_in (xm2 (j := 118) rfl) rfl
theorem ml_L_82 : Cond.methodLink RL 82 yX6_counted ∈ xwd := xwd_in (xm2 (j := 122) rfl) rfl
theorem ml_L_87 : Cond.methodLink RL 87 yX6_batch ∈ xwd := xwd_in (xm2 (j := 126) rfl) rfl
theorem ml_X6_151 : Cond.methodLink RX6 151 yX6_isOriginal ∈ xwd := xwd_in (xm2 (j := 130) rfl) rfl
theorem ml_X6_154 : Cond.methodLink RX6 154 yX6_joinBatch ∈ xwd := xwd_in (xm2 (j := 134) rfl) rfl
theorem ml_L_92 : Cond.methodLink RL 92 yX6_undo ∈ xwd := xwd_in (xm2 (j := 138) rfl) rfl
theorem ml_X6_157 : Cond.methodLink RX6 157 yX6_leaveBatch ∈ xwd := xwd_in (xm2 (j := 142) rfl) rfl
theorem ml_X6_160 : Cond.methodLink RX6 160 yX6_hasDerived ∈ xwd := xwd_in (xm2 (j := 146) rfl) rfl
theorem ml_X6_163 : Cond.methodLink RX6 163 yX6_dismiss ∈ xwd := xwd_in (xm2 (j := 150) rfl) rfl
theorem ml_L_96 : Cond.methodLink RL 96 yX6_drop ∈ xwd := xwd_in (xm2 (j := 154) rfl) rfl
theorem ml_L_100 : Cond.methodLink RL 100 yX6_about ∈ xwd := xwd_in (xm2 (j := 158) rfl) rfl
theorem ml_L_108 : Cond.methodLink RL 108 yX6_tried ∈ xwd := xwd_in (xm2 (j := 162) rfl) rfl
theorem ml_X6_188 : Cond.methodLink RX6 188 yX0_byteAt ∈ xwd := xwd_in (xm2 (j := 166) rfl) rfl
theorem ml_L_21 : Cond.methodLink RL 21 yL_cell ∈ xwd := xwd_in (xm2 (j := 167) rfl) rfl
theorem ml_L_38 : Cond.methodLink RL 38 yL_read ∈ xwd := xwd_in (xm2 (j := 170) rfl) rfl
theorem cl_L_13 : Cond.classLink RL 13 "java/lang/IllegalStateException" ∈ xwd := xwd_in (xm2 (j := 173) rfl) rfl
theorem ml_L_7 : Cond.methodLink RL 7 yX6_read ∈ xwd := xwd_in (xm2 (j := 174) rfl) rfl
theorem ml_X6_75 : Cond.methodLink RX6 75 yX5_parse ∈ xwd := xwd_in (xm2 (j := 178) rfl) rfl
theorem ml_X5_48 : Cond.methodLink RX5 48 yX5_signAt ∈ xwd := xwd_in (xm2 (j := 182) rfl) rfl
theorem ml_X5_52 : Cond.methodLink RX5 52 yX5_isLetter ∈ xwd := xwd_in (xm2 (j := 186) rfl) rfl
theorem ml_X5_67 : Cond.methodLink RX5 67 yJ0_indexOf_0f7a4 ∈ xwd := xwd_in (xm2 (j := 190) rfl) rfl
theorem ml_J0_633 : Cond.methodLink RJ0 633 yJ0_indexOf_7cf53 ∈ xwd := xwd_in (xm2 (j := 194) rfl) rfl
theorem ml_J0_492 : Cond.methodLink RJ0 492 yJ0_isLatin1_aae02 ∈ xwd := xwd_in (xm2 (j := 198) rfl) rfl
theorem ml_J0_505 : Cond.methodLink RJ0 505 yJ0_length_8abf5 ∈ xwd := xwd_in (xm2 (j := 204) rfl) rfl
theorem ml_J0_335 : Cond.methodLink RJ0 335 yJ0_coder_7d493 ∈ xwd := xwd_in (xm2 (j := 208) rfl) rfl
theorem ml_J0_637 : Cond.methodLink RJ0 637 yJ1_indexOf_4cfef ∈ xwd := xwd_in (xm2 (j := 212) rfl) rfl
theorem ml_J1_88 : Cond.methodLink RJ1 88 yJ1_canEncode_9a6ad ∈ xwd := xwd_in (xm2 (j := 215) rfl) rfl
theorem ml_J1_92 : Cond.methodLink RJ1 92 yJ9_max_7cf53 ∈ xwd := xwd_in (xm2 (j := 218) rfl) rfl
theorem ml_J1_38 : Cond.methodLink RJ1 38 yJ9_min_7cf53 ∈ xwd := xwd_in (xm2 (j := 219) rfl) rfl
theorem ml_J1_95 : Cond.methodLink RJ1 95 yJ1_indexOfChar_4cfef ∈ xwd := xwd_in (xm2 (j := 220) rfl) rfl
theorem ml_J0_640 : Cond.methodLink RJ0 640 yJ2_indexOf_4cfef ∈ xwd := xwd_in (xm2 (j := 223) rfl) rfl
theorem ml_J2_224 : Cond.methodLink RJ2 224 yJ9_max_7cf53 ∈ xwd := xwd_in (xm2 (j := 226) rfl) rfl
theorem ml_J2_183 : Cond.methodLink RJ2 183 yJ9_min_7cf53 ∈ xwd := xwd_in (xm2 (j := 227) rfl) rfl
theorem ct_J2_227 : Cond.constant RJ2 227 (65536) ∈ xwd := xwd_in (xm2 (j := 228) rfl) rfl
theorem ml_J2_228 : Cond.methodLink RJ2 228 yJ2_indexOfChar_4cfef ∈ xwd := xwd_in (xm2 (j := 229) rfl) rfl
theorem ml_J2_96 : Cond.methodLink RJ2 96 yJ2_checkBoundsBeginEnd_d044e ∈ xwd := xwd_in (xm2 (j := 232) rfl) rfl
theorem ml_J2_48 : Cond.methodLink RJ2 48 yJ2_length_9d52b ∈ xwd := xwd_in (xm2 (j := 235) rfl) rfl
theorem ml_J2_241 : Cond.methodLink RJ2 241 yJ0_checkBoundsBeginEnd_23922 ∈ xwd := xwd_in (xm2 (j := 238) rfl) rfl
theorem ml_J0_1062 : Cond.methodLink RJ0 1062 yJ3_checkFromToIndex_8c36e ∈ xwd := xwd_in (xm3 (j := 3) rfl) rfl
theorem ml_J2_244 : Cond.methodLink RJ2 244 yJ2_indexOfCharUnsafe_4cfef ∈ xwd := xwd_in (xm3 (j := 6) rfl) rfl
theorem ml_J2_71 : Cond.methodLink RJ2 71 yJ2_getChar_3b067 ∈ xwd := xwd_in (xm3 (j := 9) rfl) rfl
theorem ml_J2_232 : Cond.methodLink RJ2 232 yJ2_indexOfSupplementary_4cfef ∈ xwd := xwd_in (xm3 (j := 18) rfl) rfl
theorem ml_J2_164 : Cond.methodLink RJ2 164 yJ11_isValidCodePoint_9a6ad ∈ xwd := xwd_in (xm3 (j := 21) rfl) rfl
theorem ml_J2_157 : Cond.methodLink RJ2 157 yJ11_highSurrogate_5068e ∈ xwd := xwd_in (xm3 (j := 24) rfl) rfl
theorem ct_J11_110 : Cond.constant RJ11 110 (55232) ∈ xwd := xwd_in (xm3 (j := 27) rfl) rfl
theorem ml_J2_161 : Cond.methodLink RJ2 161 yJ11_lowSurrogate_5068e ∈ xwd := xwd_in (xm3 (j := 28) rfl) rfl
theorem ct_J11_76 : Cond.constant RJ11 76 (56320) ∈ xwd := xwd_in (xm3 (j := 31) rfl) rfl
theorem ml_X5_56 : Cond.methodLink RX5 56 yX5_digitsFrom ∈ xwd := xwd_in (xm3 (j := 32) rfl) rfl
theorem ml_X5_62 : Cond.methodLink RX5 62 yX5_isDigit ∈ xwd := xwd_in (xm3 (j := 36) rfl) rfl
theorem ml_X5_59 : Cond.methodLink RX5 59 yX5_numberFrom ∈ xwd := xwd_in (xm3 (j := 39) rfl) rfl
theorem ml_X6_79 : Cond.methodLink RX6 79 yX5_clear ∈ xwd := xwd_in (xm3 (j := 43) rfl) rfl
theorem cl_X6_82 : Cond.classLink RX6 82 "java/lang/IllegalStateException" ∈ xwd := xwd_in (xm3 (j := 47) rfl) rfl
theorem ml_X6_86 : Cond.methodLink RX6 86 ⟨"java/lang/IllegalStateException", "<init>", "(Ljava/lang/String;)V"⟩ ∈ xwd := xwd_in (xm3 (j := 88) rfl) rfl
theorem ac_byte : Cond.arrayClass .byte ∈ xwd := xwd_in (xm3 (j := 113) rfl) rfl
theorem ml_X6_89 : Cond.methodLink RX6 89 yX5_parsed ∈ xwd := xwd_in (xm3 (j := 114) rfl) rfl
theorem ml_X5_28 : Cond.methodLink RX5 28 yJ9_min_7cf53 ∈ xwd := xwd_in (xm3 (j := 118) rfl) rfl
theorem ml_X5_34 : Cond.methodLink RX5 34 yJ9_max_7cf53 ∈ xwd := xwd_in (xm3 (j := 119) rfl) rfl
theorem cl_X5_37 : Cond.classLink RX5 37 RX4 ∈ xwd := xwd_in (xm3 (j := 120) rfl) rfl
theorem im_X4 : Cond.instantiable RX4 5 ∈ xwd := xwd_in (xm3 (j := 121) rfl) rfl
theorem ml_X5_39 : Cond.methodLink RX5 39 yJ7_copyOf_59c91 ∈ xwd := xwd_in (xm3 (j := 122) rfl) rfl
theorem ml_X5_45 : Cond.methodLink RX5 45 yX4_init ∈ xwd := xwd_in (xm3 (j := 123) rfl) rfl
theorem ml_X4_3 : Cond.methodLink RX4 3 objectInit ∈ xwd := xwd_in (xm3 (j := 126) rfl) rfl
theorem cl_X4_9 : Cond.classLink RX4 9 RX1 ∈ xwd := xwd_in (xm3 (j := 127) rfl) rfl
theorem im_X1 : Cond.instantiable RX1 3 ∈ xwd := xwd_in (xm3 (j := 128) rfl) rfl
theorem mn_X4_11 : Cond.methodLinkNest RX4 11 yX1_init "MigrateSteps" ∈ xnw := List.mem_filter.mpr ⟨xm3 (j := 129) rfl, rfl⟩
theorem ml_X1_3 : Cond.methodLink RX1 3 objectInit ∈ xwd := xwd_in (xm3 (j := 132) rfl) rfl
theorem fs_X1_9 : xFS RX1 9 1 0 true := ⟨RX1, TX1, 3, rfl, by decide, xwd_in (xm3 (j := 133) rfl) rfl, rfl⟩
theorem fs_X1_15 : xFS RX1 15 1 1 true := ⟨RX1, TX1, 3, rfl, by decide, xwd_in (xm3 (j := 134) rfl) rfl, rfl⟩
theorem fs_X1_18 : xFS RX1 18 1 2 false := ⟨RX1, TX1, 3, rfl, by decide, xwd_in (xm3 (j := 135) rfl) rfl, rfl⟩
theorem fs_X4_25 : xFS RX4 25 4 0 true := ⟨RX4, TX4, 5, rfl, by decide, xwd_in (xm3 (j := 143) rfl) rfl, rfl⟩
theorem fn_X3_56 : xFSN RX3 56 4 0 true := ⟨RX4, TX4, 5, "MigrateSteps", rfl, by decide, List.mem_filter.mpr ⟨xm3 (j := 144) rfl, rfl⟩, rfl⟩
theorem fs_X4_29 : xFS RX4 29 4 1 true := ⟨RX4, TX4, 5, rfl, by decide, xwd_in (xm3 (j := 145) rfl) rfl, rfl⟩
theorem fn_X3_59 : xFSN RX3 59 4 1 true := ⟨RX4, TX4, 5, "MigrateSteps", rfl, by decide, List.mem_filter.mpr ⟨xm3 (j := 146) rfl, rfl⟩, rfl⟩
theorem fs_X4_12 : xFS RX4 12 4 2 true := ⟨RX4, TX4, 5, rfl, by decide, xwd_in (xm3 (j := 147) rfl) rfl, rfl⟩
theorem fn_X6_120 : xFSN RX6 120 4 2 true := ⟨RX4, TX4, 5, "MigrateSteps", rfl, by decide, List.mem_filter.mpr ⟨xm3 (j := 148) rfl, rfl⟩, rfl⟩
theorem fs_X4_18 : xFS RX4 18 4 3 true := ⟨RX4, TX4, 5, rfl, by decide, xwd_in (xm3 (j := 149) rfl) rfl, rfl⟩
theorem fn_X6_112 : xFSN RX6 112 4 3 true := ⟨RX4, TX4, 5, "MigrateSteps", rfl, by decide, List.mem_filter.mpr ⟨xm3 (j := 150) rfl, rfl⟩, rfl⟩
theorem fs_X4_21 : xFS RX4 21 4 4 false := ⟨RX4, TX4, 5, rfl, by decide, xwd_in (xm3 (j := 151) rfl) rfl, rfl⟩
theorem fn_X6_138 : xFSN RX6 138 4 4 false := ⟨RX4, TX4, 5, "MigrateSteps", rfl, by decide, List.mem_filter.mpr ⟨xm3 (j := 152) rfl, rfl⟩, rfl⟩
theorem ml_L_104 : Cond.methodLink RL 104 yL_at ∈ xwd := xwd_in (xm3 (j := 164) rfl) rfl
theorem cl_L_19 : Cond.classLink RL 19 RJx00060 ∈ xwd := xwd_in (xm3 (j := 167) rfl) rfl
theorem ml_L_15 : Cond.methodLink RL 15 yX6_at ∈ xwd := xwd_in (xm3 (j := 168) rfl) rfl
theorem cl_X6_191 : Cond.classLink RX6 191 RJx00060 ∈ xwd := xwd_in (xm3 (j := 172) rfl) rfl
theorem im_Jx00060 : Cond.instantiable RJx00060 6 ∈ xwd := xwd_in (xm3 (j := 173) rfl) rfl
theorem ml_X6_195 : Cond.methodLink RX6 195 yJx00060_init_a7421 ∈ xwd := xwd_in (xm3 (j := 184) rfl) rfl
theorem ml_Jx00060_7 : Cond.methodLink RJx00060 7 ⟨"java/lang/IndexOutOfBoundsException", "<init>", "(Ljava/lang/String;)V"⟩ ∈ xwd := xwd_in (xm3 (j := 187) rfl) rfl
theorem cl_L_30 : Cond.classLink RL 30 RX7 ∈ xwd := xwd_in (xm3 (j := 193) rfl) rfl
theorem im_X7 : Cond.instantiable RX7 32 ∈ xwd := xwd_in (xm3 (j := 194) rfl) rfl
theorem ml_L_32 : Cond.methodLink RL 32 yX7_init ∈ xwd := xwd_in (xm3 (j := 195) rfl) rfl
theorem ml_X7_1 : Cond.methodLink RX7 1 objectInit ∈ xwd := xwd_in (xm3 (j := 198) rfl) rfl
theorem fs_X7_79 : xFS RX7 79 7 0 false := ⟨RX7, TX7, 32, rfl, by decide, xwd_in (xm3 (j := 199) rfl) rfl, rfl⟩
theorem fs_X7_73 : xFS RX7 73 7 1 true := ⟨RX7, TX7, 32, rfl, by decide, xwd_in (xm3 (j := 200) rfl) rfl, rfl⟩
theorem fs_X7_76 : xFS RX7 76 7 2 true := ⟨RX7, TX7, 32, rfl, by decide, xwd_in (xm3 (j := 201) rfl) rfl, rfl⟩
theorem fs_X7_92 : xFS RX7 92 7 3 false := ⟨RX7, TX7, 32, rfl, by decide, xwd_in (xm3 (j := 202) rfl) rfl, rfl⟩
theorem fs_X7_7 : xFS RX7 7 7 4 true := ⟨RX7, TX7, 32, rfl, by decide, xwd_in (xm3 (j := 203) rfl) rfl, rfl⟩
theorem fs_X7_95 : xFS RX7 95 7 5 false := ⟨RX7, TX7, 32, rfl, by decide, xwd_in (xm3 (j := 204) rfl) rfl, rfl⟩
theorem fs_X7_13 : xFS RX7 13 7 6 false := ⟨RX7, TX7, 32, rfl, by decide, xwd_in (xm3 (j := 205) rfl) rfl, rfl⟩
theorem fs_X7_82 : xFS RX7 82 7 7 false := ⟨RX7, TX7, 32, rfl, by decide, xwd_in (xm3 (j := 206) rfl) rfl, rfl⟩
theorem fs_X7_17 : xFS RX7 17 7 8 true := ⟨RX7, TX7, 32, rfl, by decide, xwd_in (xm3 (j := 207) rfl) rfl, rfl⟩
theorem fs_X7_21 : xFS RX7 21 7 9 true := ⟨RX7, TX7, 32, rfl, by decide, xwd_in (xm3 (j := 208) rfl) rfl, rfl⟩
theorem fs_X7_24 : xFS RX7 24 7 10 true := ⟨RX7, TX7, 32, rfl, by decide, xwd_in (xm3 (j := 209) rfl) rfl, rfl⟩
theorem fs_X7_27 : xFS RX7 27 7 11 true := ⟨RX7, TX7, 32, rfl, by decide, xwd_in (xm3 (j := 210) rfl) rfl, rfl⟩
theorem fs_X7_30 : xFS RX7 30 7 12 true := ⟨RX7, TX7, 32, rfl, by decide, xwd_in (xm3 (j := 211) rfl) rfl, rfl⟩
theorem fs_X7_33 : xFS RX7 33 7 13 true := ⟨RX7, TX7, 32, rfl, by decide, xwd_in (xm3 (j := 212) rfl) rfl, rfl⟩
theorem fs_X7_36 : xFS RX7 36 7 14 true := ⟨RX7, TX7, 32, rfl, by decide, xwd_in (xm3 (j := 213) rfl) rfl, rfl⟩
theorem fs_X7_125 : xFS RX7 125 7 15 false := ⟨RX7, TX7, 32, rfl, by decide, xwd_in (xm3 (j := 214) rfl) rfl, rfl⟩
theorem fs_X7_39 : xFS RX7 39 7 16 true := ⟨RX7, TX7, 32, rfl, by decide, xwd_in (xm3 (j := 215) rfl) rfl, rfl⟩
theorem fs_X7_89 : xFS RX7 89 7 17 false := ⟨RX7, TX7, 32, rfl, by decide, xwd_in (xm3 (j := 216) rfl) rfl, rfl⟩
theorem fs_X7_42 : xFS RX7 42 7 18 true := ⟨RX7, TX7, 32, rfl, by decide, xwd_in (xm3 (j := 217) rfl) rfl, rfl⟩
theorem fs_X7_45 : xFS RX7 45 7 19 true := ⟨RX7, TX7, 32, rfl, by decide, xwd_in (xm3 (j := 218) rfl) rfl, rfl⟩
theorem fs_X7_48 : xFS RX7 48 7 20 true := ⟨RX7, TX7, 32, rfl, by decide, xwd_in (xm3 (j := 219) rfl) rfl, rfl⟩
theorem fs_X7_51 : xFS RX7 51 7 21 true := ⟨RX7, TX7, 32, rfl, by decide, xwd_in (xm3 (j := 220) rfl) rfl, rfl⟩
theorem fs_X7_54 : xFS RX7 54 7 22 true := ⟨RX7, TX7, 32, rfl, by decide, xwd_in (xm3 (j := 221) rfl) rfl, rfl⟩
theorem fs_X7_58 : xFS RX7 58 7 23 true := ⟨RX7, TX7, 32, rfl, by decide, xwd_in (xm3 (j := 222) rfl) rfl, rfl⟩
theorem fs_X7_158 : xFS RX7 158 7 24 false := ⟨RX7, TX7, 32, rfl, by decide, xwd_in (xm3 (j := 223) rfl) rfl, rfl⟩
theorem fs_X7_61 : xFS RX7 61 7 25 true := ⟨RX7, TX7, 32, rfl, by decide, xwd_in (xm3 (j := 224) rfl) rfl, rfl⟩
theorem fs_X7_155 : xFS RX7 155 7 26 false := ⟨RX7, TX7, 32, rfl, by decide, xwd_in (xm3 (j := 225) rfl) rfl, rfl⟩
theorem fs_X7_64 : xFS RX7 64 7 27 false := ⟨RX7, TX7, 32, rfl, by decide, xwd_in (xm3 (j := 226) rfl) rfl, rfl⟩
theorem fs_X7_113 : xFS RX7 113 7 28 false := ⟨RX7, TX7, 32, rfl, by decide, xwd_in (xm3 (j := 227) rfl) rfl, rfl⟩
theorem fs_X7_67 : xFS RX7 67 7 29 true := ⟨RX7, TX7, 32, rfl, by decide, xwd_in (xm3 (j := 228) rfl) rfl, rfl⟩
theorem fs_X7_70 : xFS RX7 70 7 30 true := ⟨RX7, TX7, 32, rfl, by decide, xwd_in (xm3 (j := 229) rfl) rfl, rfl⟩
theorem fs_X7_116 : xFS RX7 116 7 31 false := ⟨RX7, TX7, 32, rfl, by decide, xwd_in (xm3 (j := 230) rfl) rfl, rfl⟩
theorem ac_boolean : Cond.arrayClass .boolean ∈ xwd := xwd_in (xm4 (j := 56) rfl) rfl
theorem ml_L_42 : Cond.methodLink RL 42 yX7_thrown ∈ xwd := xwd_in (xm4 (j := 57) rfl) rfl
theorem ml_L_37 : Cond.methodLink RL 37 yX7_sign ∈ xwd := xwd_in (xm4 (j := 61) rfl) rfl
theorem ml_L_41 : Cond.methodLink RL 41 yX7_read ∈ xwd := xwd_in (xm4 (j := 65) rfl) rfl
theorem ml_X7_109 : Cond.methodLink RX7 109 yX7_reads ∈ xwd := xwd_in (xm4 (j := 69) rfl) rfl
theorem ml_X7_106 : Cond.methodLink RX7 106 yX7_command ∈ xwd := xwd_in (xm4 (j := 73) rfl) rfl
theorem ml_X7_98 : Cond.methodLink RX7 98 yX7_look ∈ xwd := xwd_in (xm4 (j := 77) rfl) rfl
theorem ml_X7_102 : Cond.methodLink RX7 102 yX7_isLetter ∈ xwd := xwd_in (xm4 (j := 81) rfl) rfl
theorem ml_X7_85 : Cond.methodLink RX7 85 yX7_in ∈ xwd := xwd_in (xm4 (j := 84) rfl) rfl
theorem ml_L_48 : Cond.methodLink RL 48 yX7_place ∈ xwd := xwd_in (xm4 (j := 87) rfl) rfl
theorem ml_L_52 : Cond.methodLink RL 52 yX7_octet ∈ xwd := xwd_in (xm4 (j := 91) rfl) rfl
theorem ml_L_56 : Cond.methodLink RL 56 yX7_original ∈ xwd := xwd_in (xm4 (j := 95) rfl) rfl
theorem ml_L_61 : Cond.methodLink RL 61 yX7_check ∈ xwd := xwd_in (xm4 (j := 99) rfl) rfl
theorem ml_X7_128 : Cond.methodLink RX7 128 yX7_isScript ∈ xwd := xwd_in (xm4 (j := 103) rfl) rfl
theorem ml_L_65 : Cond.methodLink RL 65 yX7_migrate ∈ xwd := xwd_in (xm4 (j := 107) rfl) rfl
theorem ml_X7_149 : Cond.methodLink RX7 149 yX7_can ∈ xwd := xwd_in (xm4 (j := 111) rfl) rfl
theorem ml_X7_146 : Cond.methodLink RX7 146 yX7_isItem ∈ xwd := xwd_in (xm4 (j := 115) rfl) rfl
theorem ml_X7_152 : Cond.methodLink RX7 152 yX7_derive ∈ xwd := xwd_in (xm4 (j := 119) rfl) rfl
theorem ml_X7_135 : Cond.methodLink RX7 135 yX7_hasDerived ∈ xwd := xwd_in (xm4 (j := 123) rfl) rfl
theorem ml_X7_139 : Cond.methodLink RX7 139 yX7_allHold ∈ xwd := xwd_in (xm4 (j := 127) rfl) rfl
theorem ml_X7_131 : Cond.methodLink RX7 131 yX7_holds ∈ xwd := xwd_in (xm4 (j := 131) rfl) rfl
theorem ml_X7_142 : Cond.methodLink RX7 142 yX7_run ∈ xwd := xwd_in (xm4 (j := 134) rfl) rfl
theorem ml_X7_120 : Cond.methodLink RX7 120 yX7_put ∈ xwd := xwd_in (xm4 (j := 138) rfl) rfl
theorem ct_X7_124 : Cond.constant RX7 124 (1000000) ∈ xwd := xwd_in (xm4 (j := 142) rfl) rfl
theorem ml_L_69 : Cond.methodLink RL 69 yX7_chain ∈ xwd := xwd_in (xm4 (j := 143) rfl) rfl
theorem ml_L_73 : Cond.methodLink RL 73 yX7_goesOn ∈ xwd := xwd_in (xm4 (j := 147) rfl) rfl
theorem ml_L_77 : Cond.methodLink RL 77 yX7_what ∈ xwd := xwd_in (xm4 (j := 151) rfl) rfl
theorem ml_L_81 : Cond.methodLink RL 81 yX7_failed ∈ xwd := xwd_in (xm4 (j := 155) rfl) rfl
theorem ml_L_86 : Cond.methodLink RL 86 yX7_counted ∈ xwd := xwd_in (xm4 (j := 159) rfl) rfl
theorem ml_L_91 : Cond.methodLink RL 91 yX7_batch ∈ xwd := xwd_in (xm4 (j := 163) rfl) rfl
theorem ml_L_95 : Cond.methodLink RL 95 yX7_undo ∈ xwd := xwd_in (xm4 (j := 167) rfl) rfl
theorem ml_X7_161 : Cond.methodLink RX7 161 yX7_goes ∈ xwd := xwd_in (xm4 (j := 171) rfl) rfl
theorem ml_L_99 : Cond.methodLink RL 99 yX7_drop ∈ xwd := xwd_in (xm4 (j := 175) rfl) rfl
theorem ml_L_103 : Cond.methodLink RL 103 yX7_about ∈ xwd := xwd_in (xm4 (j := 179) rfl) rfl
theorem ml_L_107 : Cond.methodLink RL 107 yX7_at ∈ xwd := xwd_in (xm4 (j := 183) rfl) rfl
theorem ml_L_111 : Cond.methodLink RL 111 yX7_tried ∈ xwd := xwd_in (xm4 (j := 187) rfl) rfl
theorem ac_long : Cond.arrayClass .long ∈ xwd := xwd_in (xm4 (j := 191) rfl) rfl
theorem mi_X6_init : xMi yX6_init cX6_init 3 2 := ⟨⟨xwd_in (xm1 (j := 27) rfl) rfl, xwd_in (xm1 (j := 1) rfl) rfl, by decide +kernel⟩, xwd_in (xm1 (j := 26) rfl) rfl, rfl⟩
theorem mi_X5_init : xMi yX5_init cX5_init 1 0 := ⟨⟨xwd_in (xm1 (j := 35) rfl) rfl, xwd_in (xm1 (j := 2) rfl) rfl, by decide +kernel⟩, xwd_in (xm1 (j := 34) rfl) rfl, rfl⟩
theorem mi_X0_init : xMi yX0_init cX0_init 3 2 := ⟨⟨xwd_in (xm1 (j := 58) rfl) rfl, xwd_in (xm1 (j := 3) rfl) rfl, by decide +kernel⟩, xwd_in (xm1 (j := 57) rfl) rfl, rfl⟩
theorem ms_J9_min_7cf53 : xMs yJ9_min_7cf53 cJ9_min_7cf53 2 (some .int) 2 := ⟨⟨xwd_in (xm1 (j := 78) rfl) rfl, xwd_in (xm1 (j := 5) rfl) rfl, by decide +kernel⟩, xwd_in (xm1 (j := 77) rfl) rfl⟩
theorem ms_J9_max_7cf53 : xMs yJ9_max_7cf53 cJ9_max_7cf53 2 (some .int) 2 := ⟨⟨xwd_in (xm1 (j := 81) rfl) rfl, xwd_in (xm1 (j := 5) rfl) rfl, by decide +kernel⟩, xwd_in (xm1 (j := 80) rfl) rfl⟩
theorem mi_X3_init : xMi yX3_init cX3_init 3 2 := ⟨⟨xwd_in (xm1 (j := 84) rfl) rfl, xwd_in (xm1 (j := 4) rfl) rfl, by decide +kernel⟩, xwd_in (xm1 (j := 83) rfl) rfl, rfl⟩
theorem mv_X6_sign : xMv yX6_sign cX6_sign 2 none 1 := ⟨⟨xwd_in (xm1 (j := 153) rfl) rfl, xwd_in (xm1 (j := 1) rfl) rfl, by decide +kernel⟩, xwd_in (xm1 (j := 151) rfl) rfl, xwd_in (xm1 (j := 152) rfl) rfl⟩
theorem mv_X5_add : xMv yX5_add cX5_add 2 none 1 := ⟨⟨xwd_in (xm1 (j := 157) rfl) rfl, xwd_in (xm1 (j := 2) rfl) rfl, by decide +kernel⟩, xwd_in (xm1 (j := 155) rfl) rfl, xwd_in (xm1 (j := 156) rfl) rfl⟩
theorem mv_X6_place : xMv yX6_place cX6_place 1 (some .int) 0 := ⟨⟨xwd_in (xm1 (j := 161) rfl) rfl, xwd_in (xm1 (j := 1) rfl) rfl, by decide +kernel⟩, xwd_in (xm1 (j := 159) rfl) rfl, xwd_in (xm1 (j := 160) rfl) rfl⟩
theorem mv_X6_octet : xMv yX6_octet cX6_octet 2 none 1 := ⟨⟨xwd_in (xm1 (j := 165) rfl) rfl, xwd_in (xm1 (j := 1) rfl) rfl, by decide +kernel⟩, xwd_in (xm1 (j := 163) rfl) rfl, xwd_in (xm1 (j := 164) rfl) rfl⟩
theorem mv_X0_add : xMv yX0_add cX0_add 2 (some .boolean) 1 := ⟨⟨xwd_in (xm1 (j := 169) rfl) rfl, xwd_in (xm1 (j := 3) rfl) rfl, by decide +kernel⟩, xwd_in (xm1 (j := 167) rfl) rfl, xwd_in (xm1 (j := 168) rfl) rfl⟩
theorem mv_X6_original : xMv yX6_original cX6_original 2 (some .int) 0 := ⟨⟨xwd_in (xm1 (j := 173) rfl) rfl, xwd_in (xm1 (j := 1) rfl) rfl, by decide +kernel⟩, xwd_in (xm1 (j := 171) rfl) rfl, xwd_in (xm1 (j := 172) rfl) rfl⟩
theorem mv_X0_copy : xMv yX0_copy cX0_copy 2 (some (.object "MigrateSteps$ByteRow")) 0 := ⟨⟨xwd_in (xm1 (j := 178) rfl) rfl, xwd_in (xm1 (j := 3) rfl) rfl, by decide +kernel⟩, xwd_in (xm1 (j := 176) rfl) rfl, xwd_in (xm1 (j := 177) rfl) rfl⟩
theorem ms_J7_copyOf_59c91 : xMs yJ7_copyOf_59c91 cJ7_copyOf_59c91 3 (some (.array .int)) 2 := ⟨⟨xwd_in (xm1 (j := 184) rfl) rfl, xwd_in (xm1 (j := 17) rfl) rfl, by decide +kernel⟩, xwd_in (xm1 (j := 183) rfl) rfl⟩
theorem mi_X2_init : xMi yX2_init cX2_init 5 4 := ⟨⟨xwd_in (xm1 (j := 199) rfl) rfl, xwd_in (xm1 (j := 20) rfl) rfl, by decide +kernel⟩, xwd_in (xm1 (j := 198) rfl) rfl, rfl⟩
theorem mv_X6_keep : xMv yX6_keep cX6_keep 2 (some .int) 1 := ⟨⟨xwd_in (xm1 (j := 229) rfl) rfl, xwd_in (xm1 (j := 1) rfl) rfl, by decide +kernel⟩, xwd_in (xm1 (j := 228) rfl) rfl, xwd_in (xmp (j := 0) rfl) rfl⟩
theorem mv_X0_clear : xMv yX0_clear cX0_clear 1 none 0 := ⟨⟨xwd_in (xm1 (j := 233) rfl) rfl, xwd_in (xm1 (j := 3) rfl) rfl, by decide +kernel⟩, xwd_in (xm1 (j := 231) rfl) rfl, xwd_in (xm1 (j := 232) rfl) rfl⟩
theorem mv_X6_check : xMv yX6_check cX6_check 6 (some .int) 4 := ⟨⟨xwd_in (xm1 (j := 237) rfl) rfl, xwd_in (xm1 (j := 1) rfl) rfl, by decide +kernel⟩, xwd_in (xm1 (j := 235) rfl) rfl, xwd_in (xm1 (j := 236) rfl) rfl⟩
theorem mv_X6_scriptOf : xMv yX6_scriptOf cX6_scriptOf 2 (some (.object "MigrateSteps$Script")) 1 := ⟨⟨xwd_in (xm2 (j := 1) rfl) rfl, xwd_in (xm1 (j := 1) rfl) rfl, by decide +kernel⟩, xwd_in (xm2 (j := 0) rfl) rfl, xwd_in (xmp (j := 1) rfl) rfl⟩
theorem mv_X1_add : xMv yX1_add cX1_add 3 (some .int) 2 := ⟨⟨xwd_in (xm2 (j := 5) rfl) rfl, xwd_in (xm1 (j := 19) rfl) rfl, by decide +kernel⟩, xwd_in (xm2 (j := 3) rfl) rfl, xwd_in (xm2 (j := 4) rfl) rfl⟩
theorem mv_X6_migrate : xMv yX6_migrate cX6_migrate 4 (some .int) 2 := ⟨⟨xwd_in (xm2 (j := 9) rfl) rfl, xwd_in (xm1 (j := 1) rfl) rfl, by decide +kernel⟩, xwd_in (xm2 (j := 7) rfl) rfl, xwd_in (xm2 (j := 8) rfl) rfl⟩
theorem mv_X6_liveItem : xMv yX6_liveItem cX6_liveItem 3 (some (.object "MigrateSteps$Item")) 1 := ⟨⟨xwd_in (xm2 (j := 13) rfl) rfl, xwd_in (xm1 (j := 1) rfl) rfl, by decide +kernel⟩, xwd_in (xm2 (j := 12) rfl) rfl, xwd_in (xmp (j := 2) rfl) rfl⟩
theorem mv_X6_itemOf : xMv yX6_itemOf cX6_itemOf 2 (some (.object "MigrateSteps$Item")) 1 := ⟨⟨xwd_in (xm2 (j := 17) rfl) rfl, xwd_in (xm1 (j := 1) rfl) rfl, by decide +kernel⟩, xwd_in (xm2 (j := 16) rfl) rfl, xwd_in (xmp (j := 3) rfl) rfl⟩
theorem mv_X6_derive : xMv yX6_derive cX6_derive 6 (some .int) 2 := ⟨⟨xwd_in (xm2 (j := 21) rfl) rfl, xwd_in (xm1 (j := 1) rfl) rfl, by decide +kernel⟩, xwd_in (xm2 (j := 20) rfl) rfl, xwd_in (xmp (j := 4) rfl) rfl⟩
theorem mv_X6_hasDerivedBy : xMv yX6_hasDerivedBy cX6_hasDerivedBy 5 (some .boolean) 2 := ⟨⟨xwd_in (xm2 (j := 25) rfl) rfl, xwd_in (xm1 (j := 1) rfl) rfl, by decide +kernel⟩, xwd_in (xm2 (j := 24) rfl) rfl, xwd_in (xmp (j := 5) rfl) rfl⟩
theorem mv_X1_hold : xMv yX1_hold cX1_hold 3 (some .boolean) 1 := ⟨⟨xwd_in (xm2 (j := 29) rfl) rfl, xwd_in (xm1 (j := 19) rfl) rfl, by decide +kernel⟩, xwd_in (xm2 (j := 27) rfl) rfl, xwd_in (xm2 (j := 28) rfl) rfl⟩
theorem ms_X1_holds : xMs yX1_holds cX1_holds 3 (some .boolean) 3 := ⟨⟨xwd_in (xm2 (j := 32) rfl) rfl, xwd_in (xm1 (j := 19) rfl) rfl, by decide +kernel⟩, xwd_in (xm2 (j := 31) rfl) rfl⟩
theorem mv_X0_byteAt : xMv yX0_byteAt cX0_byteAt 2 (some .int) 1 := ⟨⟨xwd_in (xm2 (j := 36) rfl) rfl, xwd_in (xm1 (j := 3) rfl) rfl, by decide +kernel⟩, xwd_in (xm2 (j := 34) rfl) rfl, xwd_in (xm2 (j := 35) rfl) rfl⟩
theorem mv_X0_sum : xMv yX0_sum cX0_sum 3 (some .int) 0 := ⟨⟨xwd_in (xm2 (j := 40) rfl) rfl, xwd_in (xm1 (j := 3) rfl) rfl, by decide +kernel⟩, xwd_in (xm2 (j := 38) rfl) rfl, xwd_in (xm2 (j := 39) rfl) rfl⟩
theorem mv_X3_run : xMv yX3_run cX3_run 6 (some .int) 2 := ⟨⟨xwd_in (xm2 (j := 45) rfl) rfl, xwd_in (xm1 (j := 4) rfl) rfl, by decide +kernel⟩, xwd_in (xm2 (j := 43) rfl) rfl, xwd_in (xm2 (j := 44) rfl) rfl⟩
theorem mv_X3_begin : xMv yX3_begin cX3_begin 1 none 0 := ⟨⟨xwd_in (xm2 (j := 49) rfl) rfl, xwd_in (xm1 (j := 4) rfl) rfl, by decide +kernel⟩, xwd_in (xm2 (j := 48) rfl) rfl, xwd_in (xmp (j := 6) rfl) rfl⟩
theorem ms_J7_fill_53178 : xMs yJ7_fill_53178 cJ7_fill_53178 4 none 2 := ⟨⟨xwd_in (xm2 (j := 52) rfl) rfl, xwd_in (xm1 (j := 17) rfl) rfl, by decide +kernel⟩, xwd_in (xm2 (j := 51) rfl) rfl⟩
theorem mv_X4_size : xMv yX4_size cX4_size 1 (some .int) 0 := ⟨⟨xwd_in (xm2 (j := 57) rfl) rfl, xwd_in (xm1 (j := 16) rfl) rfl, by decide +kernel⟩, xwd_in (xm2 (j := 55) rfl) rfl, xwd_in (xm2 (j := 56) rfl) rfl⟩
theorem mv_X3_step : xMv yX3_step cX3_step 4 none 3 := ⟨⟨xwd_in (xm2 (j := 62) rfl) rfl, xwd_in (xm1 (j := 4) rfl) rfl, by decide +kernel⟩, xwd_in (xm2 (j := 61) rfl) rfl, xwd_in (xmp (j := 7) rfl) rfl⟩
theorem mv_X3_fetch : xMv yX3_fetch cX3_fetch 2 none 1 := ⟨⟨xwd_in (xm2 (j := 67) rfl) rfl, xwd_in (xm1 (j := 4) rfl) rfl, by decide +kernel⟩, xwd_in (xm2 (j := 66) rfl) rfl, xwd_in (xmp (j := 8) rfl) rfl⟩
theorem mv_X3_putOut : xMv yX3_putOut cX3_putOut 4 none 1 := ⟨⟨xwd_in (xm2 (j := 71) rfl) rfl, xwd_in (xm1 (j := 4) rfl) rfl, by decide +kernel⟩, xwd_in (xm2 (j := 70) rfl) rfl, xwd_in (xmp (j := 9) rfl) rfl⟩
theorem mv_X3_failIf : xMv yX3_failIf cX3_failIf 3 none 2 := ⟨⟨xwd_in (xm2 (j := 76) rfl) rfl, xwd_in (xm1 (j := 4) rfl) rfl, by decide +kernel⟩, xwd_in (xm2 (j := 75) rfl) rfl, xwd_in (xmp (j := 10) rfl) rfl⟩
theorem mv_X3_store : xMv yX3_store cX3_store 2 none 1 := ⟨⟨xwd_in (xm2 (j := 80) rfl) rfl, xwd_in (xm1 (j := 4) rfl) rfl, by decide +kernel⟩, xwd_in (xm2 (j := 79) rfl) rfl, xwd_in (xmp (j := 11) rfl) rfl⟩
theorem mv_X3_recall : xMv yX3_recall cX3_recall 2 none 1 := ⟨⟨xwd_in (xm2 (j := 84) rfl) rfl, xwd_in (xm1 (j := 4) rfl) rfl, by decide +kernel⟩, xwd_in (xm2 (j := 83) rfl) rfl, xwd_in (xmp (j := 12) rfl) rfl⟩
theorem mv_X3_jumpIf : xMv yX3_jumpIf cX3_jumpIf 3 none 2 := ⟨⟨xwd_in (xm2 (j := 88) rfl) rfl, xwd_in (xm1 (j := 4) rfl) rfl, by decide +kernel⟩, xwd_in (xm2 (j := 87) rfl) rfl, xwd_in (xmp (j := 13) rfl) rfl⟩
theorem mv_X3_stepWithin : xMv yX3_stepWithin cX3_stepWithin 3 none 2 := ⟨⟨xwd_in (xm2 (j := 92) rfl) rfl, xwd_in (xm1 (j := 4) rfl) rfl, by decide +kernel⟩, xwd_in (xm2 (j := 91) rfl) rfl, xwd_in (xmp (j := 14) rfl) rfl⟩
theorem ms_X6_against : xMs yX6_against cX6_against 1 (some .int) 1 := ⟨⟨xwd_in (xm2 (j := 97) rfl) rfl, xwd_in (xm1 (j := 1) rfl) rfl, by decide +kernel⟩, xwd_in (xm2 (j := 96) rfl) rfl⟩
theorem mv_X6_chain : xMv yX6_chain cX6_chain 4 (some .int) 2 := ⟨⟨xwd_in (xm2 (j := 101) rfl) rfl, xwd_in (xm1 (j := 1) rfl) rfl, by decide +kernel⟩, xwd_in (xm2 (j := 99) rfl) rfl, xwd_in (xm2 (j := 100) rfl) rfl⟩
theorem mv_X6_comesTo : xMv yX6_comesTo cX6_comesTo 5 (some .boolean) 2 := ⟨⟨xwd_in (xm2 (j := 105) rfl) rfl, xwd_in (xm1 (j := 1) rfl) rfl, by decide +kernel⟩, xwd_in (xm2 (j := 104) rfl) rfl, xwd_in (xmp (j := 15) rfl) rfl⟩
theorem mv_X6_nextOf : xMv yX6_nextOf cX6_nextOf 3 (some .int) 1 := ⟨⟨xwd_in (xm2 (j := 109) rfl) rfl, xwd_in (xm1 (j := 1) rfl) rfl, by decide +kernel⟩, xwd_in (xm2 (j := 108) rfl) rfl, xwd_in (xmp (j := 16) rfl) rfl⟩
theorem mv_X6_goesOn : xMv yX6_goesOn cX6_goesOn 7 (some .int) 2 := ⟨⟨xwd_in (xm2 (j := 113) rfl) rfl, xwd_in (xm1 (j := 1) rfl) rfl, by decide +kernel⟩, xwd_in (xm2 (j := 111) rfl) rfl, xwd_in (xm2 (j := 112) rfl) rfl⟩
theorem mv_X6_what : xMv yX6_what cX6_what 1 (some .int) 0 := ⟨⟨xwd_in (xm2 (j := 117) rfl) rfl, xwd_in (xm1 (j := 1) rfl) rfl, by decide +kernel⟩, xwd_in (xm2 (j := 115) rfl) rfl, xwd_in (xm2 (j := 116) rfl) rfl⟩
theorem mv_X6_failed : xMv yX6_failed cX6_failed 1 (some .int) 0 := ⟨⟨xwd_in (xm2 (j := 121) rfl) rfl, xwd_in (xm1 (j := 1) rfl) rfl, by decide +kernel⟩, xwd_in (xm2 (j := 119) rfl) rfl, xwd_in (xm2 (j := 120) rfl) rfl⟩
theorem mv_X6_counted : xMv yX6_counted cX6_counted 1 (some .long) 0 := ⟨⟨xwd_in (xm2 (j := 125) rfl) rfl, xwd_in (xm1 (j := 1) rfl) rfl, by decide +kernel⟩, xwd_in (xm2 (j := 123) rfl) rfl, xwd_in (xm2 (j := 124) rfl) rfl⟩
theorem mv_X6_batch : xMv yX6_batch cX6_batch 5 (some .int) 1 := ⟨⟨xwd_in (xm2 (j := 129) rfl) rfl, xwd_in (xm1 (j := 1) rfl) rfl, by decide +kernel⟩, xwd_in (xm2 (j := 127) rfl) rfl, xwd_in (xm2 (j := 128) rfl) rfl⟩
theorem mv_X6_isOriginal : xMv yX6_isOriginal cX6_isOriginal 3 (some .boolean) 1 := ⟨⟨xwd_in (xm2 (j := 133) rfl) rfl, xwd_in (xm1 (j := 1) rfl) rfl, by decide +kernel⟩, xwd_in (xm2 (j := 132) rfl) rfl, xwd_in (xmp (j := 17) rfl) rfl⟩
theorem mv_X6_joinBatch : xMv yX6_joinBatch cX6_joinBatch 3 (some .boolean) 1 := ⟨⟨xwd_in (xm2 (j := 137) rfl) rfl, xwd_in (xm1 (j := 1) rfl) rfl, by decide +kernel⟩, xwd_in (xm2 (j := 136) rfl) rfl, xwd_in (xmp (j := 18) rfl) rfl⟩
theorem mv_X6_undo : xMv yX6_undo cX6_undo 3 (some .int) 0 := ⟨⟨xwd_in (xm2 (j := 141) rfl) rfl, xwd_in (xm1 (j := 1) rfl) rfl, by decide +kernel⟩, xwd_in (xm2 (j := 139) rfl) rfl, xwd_in (xm2 (j := 140) rfl) rfl⟩
theorem mv_X6_leaveBatch : xMv yX6_leaveBatch cX6_leaveBatch 3 (some .boolean) 1 := ⟨⟨xwd_in (xm2 (j := 145) rfl) rfl, xwd_in (xm1 (j := 1) rfl) rfl, by decide +kernel⟩, xwd_in (xm2 (j := 144) rfl) rfl, xwd_in (xmp (j := 19) rfl) rfl⟩
theorem mv_X6_hasDerived : xMv yX6_hasDerived cX6_hasDerived 4 (some .boolean) 1 := ⟨⟨xwd_in (xm2 (j := 149) rfl) rfl, xwd_in (xm1 (j := 1) rfl) rfl, by decide +kernel⟩, xwd_in (xm2 (j := 148) rfl) rfl, xwd_in (xmp (j := 20) rfl) rfl⟩
theorem mv_X6_dismiss : xMv yX6_dismiss cX6_dismiss 3 (some .int) 1 := ⟨⟨xwd_in (xm2 (j := 153) rfl) rfl, xwd_in (xm1 (j := 1) rfl) rfl, by decide +kernel⟩, xwd_in (xm2 (j := 152) rfl) rfl, xwd_in (xmp (j := 21) rfl) rfl⟩
theorem mv_X6_drop : xMv yX6_drop cX6_drop 2 (some .int) 1 := ⟨⟨xwd_in (xm2 (j := 157) rfl) rfl, xwd_in (xm1 (j := 1) rfl) rfl, by decide +kernel⟩, xwd_in (xm2 (j := 155) rfl) rfl, xwd_in (xm2 (j := 156) rfl) rfl⟩
theorem mv_X6_about : xMv yX6_about cX6_about 4 (some .int) 2 := ⟨⟨xwd_in (xm2 (j := 161) rfl) rfl, xwd_in (xm1 (j := 1) rfl) rfl, by decide +kernel⟩, xwd_in (xm2 (j := 159) rfl) rfl, xwd_in (xm2 (j := 160) rfl) rfl⟩
theorem mv_X6_tried : xMv yX6_tried cX6_tried 2 (some .int) 1 := ⟨⟨xwd_in (xm2 (j := 165) rfl) rfl, xwd_in (xm1 (j := 1) rfl) rfl, by decide +kernel⟩, xwd_in (xm2 (j := 163) rfl) rfl, xwd_in (xm2 (j := 164) rfl) rfl⟩
theorem ms_L_cell : xMs yL_cell cL_cell 2 (some .int) 2 := ⟨⟨xwd_in (xm2 (j := 169) rfl) rfl, xwd_in (xm1 (j := 0) rfl) rfl, by decide +kernel⟩, xwd_in (xm2 (j := 168) rfl) rfl⟩
theorem mv_X6_read : xMv yX6_read cX6_read 1 (some .int) 0 := ⟨⟨xwd_in (xm2 (j := 177) rfl) rfl, xwd_in (xm1 (j := 1) rfl) rfl, by decide +kernel⟩, xwd_in (xm2 (j := 175) rfl) rfl, xwd_in (xm2 (j := 176) rfl) rfl⟩
theorem mv_X5_parse : xMv yX5_parse cX5_parse 5 (some .int) 0 := ⟨⟨xwd_in (xm2 (j := 181) rfl) rfl, xwd_in (xm1 (j := 2) rfl) rfl, by decide +kernel⟩, xwd_in (xm2 (j := 179) rfl) rfl, xwd_in (xm2 (j := 180) rfl) rfl⟩
theorem mv_X5_signAt : xMv yX5_signAt cX5_signAt 2 (some .int) 1 := ⟨⟨xwd_in (xm2 (j := 185) rfl) rfl, xwd_in (xm1 (j := 2) rfl) rfl, by decide +kernel⟩, xwd_in (xm2 (j := 184) rfl) rfl, xwd_in (xmp (j := 22) rfl) rfl⟩
theorem ms_X5_isLetter : xMs yX5_isLetter cX5_isLetter 1 (some .boolean) 1 := ⟨⟨xwd_in (xm2 (j := 188) rfl) rfl, xwd_in (xm1 (j := 2) rfl) rfl, by decide +kernel⟩, xwd_in (xm2 (j := 187) rfl) rfl⟩
theorem mv_J0_indexOf_0f7a4 : xMv yJ0_indexOf_0f7a4 cJ0_indexOf_0f7a4 2 (some .int) 1 := ⟨⟨xwd_in (xm2 (j := 193) rfl) rfl, xwd_in (xm1 (j := 7) rfl) rfl, by decide +kernel⟩, xwd_in (xm2 (j := 191) rfl) rfl, xwd_in (xm2 (j := 192) rfl) rfl⟩
theorem mv_J0_indexOf_7cf53 : xMv yJ0_indexOf_7cf53 cJ0_indexOf_7cf53 3 (some .int) 2 := ⟨⟨xwd_in (xm2 (j := 197) rfl) rfl, xwd_in (xm1 (j := 7) rfl) rfl, by decide +kernel⟩, xwd_in (xm2 (j := 195) rfl) rfl, xwd_in (xm2 (j := 196) rfl) rfl⟩
theorem mv_J0_isLatin1_aae02 : xMv yJ0_isLatin1_aae02 cJ0_isLatin1_aae02 1 (some .boolean) 0 := ⟨⟨xwd_in (xm2 (j := 201) rfl) rfl, xwd_in (xm1 (j := 7) rfl) rfl, by decide +kernel⟩, xwd_in (xm2 (j := 199) rfl) rfl, xwd_in (xm2 (j := 200) rfl) rfl⟩
theorem mv_J0_length_8abf5 : xMv yJ0_length_8abf5 cJ0_length_8abf5 1 (some .int) 0 := ⟨⟨xwd_in (xm2 (j := 207) rfl) rfl, xwd_in (xm1 (j := 7) rfl) rfl, by decide +kernel⟩, xwd_in (xm2 (j := 205) rfl) rfl, xwd_in (xm2 (j := 206) rfl) rfl⟩
theorem mv_J0_coder_7d493 : xMv yJ0_coder_7d493 cJ0_coder_7d493 1 (some .byte) 0 := ⟨⟨xwd_in (xm2 (j := 211) rfl) rfl, xwd_in (xm1 (j := 7) rfl) rfl, by decide +kernel⟩, xwd_in (xm2 (j := 209) rfl) rfl, xwd_in (xm2 (j := 210) rfl) rfl⟩
theorem ms_J1_indexOf_4cfef : xMs yJ1_indexOf_4cfef cJ1_indexOf_4cfef 4 (some .int) 4 := ⟨⟨xwd_in (xm2 (j := 214) rfl) rfl, xwd_in (xm1 (j := 8) rfl) rfl, by decide +kernel⟩, xwd_in (xm2 (j := 213) rfl) rfl⟩
theorem ms_J1_canEncode_9a6ad : xMs yJ1_canEncode_9a6ad cJ1_canEncode_9a6ad 1 (some .boolean) 1 := ⟨⟨xwd_in (xm2 (j := 217) rfl) rfl, xwd_in (xm1 (j := 8) rfl) rfl, by decide +kernel⟩, xwd_in (xm2 (j := 216) rfl) rfl⟩
theorem ms_J1_indexOfChar_4cfef : xMs yJ1_indexOfChar_4cfef cJ1_indexOfChar_4cfef 6 (some .int) 4 := ⟨⟨xwd_in (xm2 (j := 222) rfl) rfl, xwd_in (xm1 (j := 8) rfl) rfl, by decide +kernel⟩, xwd_in (xm2 (j := 221) rfl) rfl⟩
theorem ms_J2_indexOf_4cfef : xMs yJ2_indexOf_4cfef cJ2_indexOf_4cfef 4 (some .int) 4 := ⟨⟨xwd_in (xm2 (j := 225) rfl) rfl, xwd_in (xm1 (j := 9) rfl) rfl, by decide +kernel⟩, xwd_in (xm2 (j := 224) rfl) rfl⟩
theorem ms_J2_indexOfChar_4cfef : xMs yJ2_indexOfChar_4cfef cJ2_indexOfChar_4cfef 4 (some .int) 4 := ⟨⟨xwd_in (xm2 (j := 231) rfl) rfl, xwd_in (xm1 (j := 9) rfl) rfl, by decide +kernel⟩, xwd_in (xm2 (j := 230) rfl) rfl⟩
theorem ms_J2_checkBoundsBeginEnd_d044e : xMs yJ2_checkBoundsBeginEnd_d044e cJ2_checkBoundsBeginEnd_d044e 3 none 3 := ⟨⟨xwd_in (xm2 (j := 234) rfl) rfl, xwd_in (xm1 (j := 9) rfl) rfl, by decide +kernel⟩, xwd_in (xm2 (j := 233) rfl) rfl⟩
theorem ms_J2_length_9d52b : xMs yJ2_length_9d52b cJ2_length_9d52b 1 (some .int) 1 := ⟨⟨xwd_in (xm2 (j := 237) rfl) rfl, xwd_in (xm1 (j := 9) rfl) rfl, by decide +kernel⟩, xwd_in (xm2 (j := 236) rfl) rfl⟩
theorem ms_J0_checkBoundsBeginEnd_23922 : xMs yJ0_checkBoundsBeginEnd_23922 cJ0_checkBoundsBeginEnd_23922 3 none 3 := ⟨⟨xwd_in (xm3 (j := 0) rfl) rfl, xwd_in (xm1 (j := 7) rfl) rfl, by decide +kernel⟩, xwd_in (xm2 (j := 239) rfl) rfl⟩
theorem ms_J3_checkFromToIndex_8c36e : xMs yJ3_checkFromToIndex_8c36e cJ3_checkFromToIndex_8c36e 4 (some .int) 4 := ⟨⟨xwd_in (xm3 (j := 5) rfl) rfl, xwd_in (xm1 (j := 10) rfl) rfl, by decide +kernel⟩, xwd_in (xm3 (j := 4) rfl) rfl⟩
theorem ms_J2_indexOfCharUnsafe_4cfef : xMs yJ2_indexOfCharUnsafe_4cfef cJ2_indexOfCharUnsafe_4cfef 5 (some .int) 4 := ⟨⟨xwd_in (xm3 (j := 8) rfl) rfl, xwd_in (xm1 (j := 9) rfl) rfl, by decide +kernel⟩, xwd_in (xm3 (j := 7) rfl) rfl⟩
theorem ms_J2_getChar_3b067 : xMs yJ2_getChar_3b067 cJ2_getChar_3b067 2 (some .char) 2 := ⟨⟨xwd_in (xm3 (j := 11) rfl) rfl, xwd_in (xm1 (j := 9) rfl) rfl, by decide +kernel⟩, xwd_in (xm3 (j := 10) rfl) rfl⟩
theorem ms_J2_indexOfSupplementary_4cfef : xMs yJ2_indexOfSupplementary_4cfef cJ2_indexOfSupplementary_4cfef 7 (some .int) 4 := ⟨⟨xwd_in (xm3 (j := 20) rfl) rfl, xwd_in (xm1 (j := 9) rfl) rfl, by decide +kernel⟩, xwd_in (xm3 (j := 19) rfl) rfl⟩
theorem ms_J11_isValidCodePoint_9a6ad : xMs yJ11_isValidCodePoint_9a6ad cJ11_isValidCodePoint_9a6ad 2 (some .boolean) 1 := ⟨⟨xwd_in (xm3 (j := 23) rfl) rfl, xwd_in (xm1 (j := 11) rfl) rfl, by decide +kernel⟩, xwd_in (xm3 (j := 22) rfl) rfl⟩
theorem ms_J11_highSurrogate_5068e : xMs yJ11_highSurrogate_5068e cJ11_highSurrogate_5068e 1 (some .char) 1 := ⟨⟨xwd_in (xm3 (j := 26) rfl) rfl, xwd_in (xm1 (j := 11) rfl) rfl, by decide +kernel⟩, xwd_in (xm3 (j := 25) rfl) rfl⟩
theorem ms_J11_lowSurrogate_5068e : xMs yJ11_lowSurrogate_5068e cJ11_lowSurrogate_5068e 1 (some .char) 1 := ⟨⟨xwd_in (xm3 (j := 30) rfl) rfl, xwd_in (xm1 (j := 11) rfl) rfl, by decide +kernel⟩, xwd_in (xm3 (j := 29) rfl) rfl⟩
theorem mv_X5_digitsFrom : xMv yX5_digitsFrom cX5_digitsFrom 3 (some .int) 1 := ⟨⟨xwd_in (xm3 (j := 35) rfl) rfl, xwd_in (xm1 (j := 2) rfl) rfl, by decide +kernel⟩, xwd_in (xm3 (j := 34) rfl) rfl, xwd_in (xmp (j := 23) rfl) rfl⟩
theorem ms_X5_isDigit : xMs yX5_isDigit cX5_isDigit 1 (some .boolean) 1 := ⟨⟨xwd_in (xm3 (j := 38) rfl) rfl, xwd_in (xm1 (j := 2) rfl) rfl, by decide +kernel⟩, xwd_in (xm3 (j := 37) rfl) rfl⟩
theorem mv_X5_numberFrom : xMv yX5_numberFrom cX5_numberFrom 5 (some .int) 2 := ⟨⟨xwd_in (xm3 (j := 42) rfl) rfl, xwd_in (xm1 (j := 2) rfl) rfl, by decide +kernel⟩, xwd_in (xm3 (j := 41) rfl) rfl, xwd_in (xmp (j := 24) rfl) rfl⟩
theorem mv_X5_clear : xMv yX5_clear cX5_clear 1 none 0 := ⟨⟨xwd_in (xm3 (j := 46) rfl) rfl, xwd_in (xm1 (j := 2) rfl) rfl, by decide +kernel⟩, xwd_in (xm3 (j := 44) rfl) rfl, xwd_in (xm3 (j := 45) rfl) rfl⟩
theorem mv_X5_parsed : xMv yX5_parsed cX5_parsed 2 (some (.object "MigrateSteps$Script")) 0 := ⟨⟨xwd_in (xm3 (j := 117) rfl) rfl, xwd_in (xm1 (j := 2) rfl) rfl, by decide +kernel⟩, xwd_in (xm3 (j := 115) rfl) rfl, xwd_in (xm3 (j := 116) rfl) rfl⟩
theorem mi_X4_init : xMi yX4_init cX4_init 3 2 := ⟨⟨xwd_in (xm3 (j := 125) rfl) rfl, xwd_in (xm1 (j := 16) rfl) rfl, by decide +kernel⟩, xwd_in (xm3 (j := 124) rfl) rfl, rfl⟩
theorem mi_X1_init : xMi yX1_init cX1_init 1 0 := ⟨⟨xwd_in (xm3 (j := 131) rfl) rfl, xwd_in (xm1 (j := 19) rfl) rfl, by decide +kernel⟩, xwd_in (xm3 (j := 130) rfl) rfl, rfl⟩
theorem mv_X6_at : xMv yX6_at cX6_at 5 (some .int) 2 := ⟨⟨xwd_in (xm3 (j := 171) rfl) rfl, xwd_in (xm1 (j := 1) rfl) rfl, by decide +kernel⟩, xwd_in (xm3 (j := 169) rfl) rfl, xwd_in (xm3 (j := 170) rfl) rfl⟩
theorem mi_Jx00060_init_a7421 : xMi yJx00060_init_a7421 cJx00060_init_a7421 2 1 := ⟨⟨xwd_in (xm3 (j := 186) rfl) rfl, xwd_in (xm1 (j := 22) rfl) rfl, by decide +kernel⟩, xwd_in (xm3 (j := 185) rfl) rfl, rfl⟩
theorem mi_X7_init : xMi yX7_init cX7_init 4 2 := ⟨⟨xwd_in (xm3 (j := 197) rfl) rfl, xwd_in (xm1 (j := 6) rfl) rfl, by decide +kernel⟩, xwd_in (xm3 (j := 196) rfl) rfl, rfl⟩
theorem mv_X7_thrown : xMv yX7_thrown cX7_thrown 1 (some .int) 0 := ⟨⟨xwd_in (xm4 (j := 60) rfl) rfl, xwd_in (xm1 (j := 6) rfl) rfl, by decide +kernel⟩, xwd_in (xm4 (j := 58) rfl) rfl, xwd_in (xm4 (j := 59) rfl) rfl⟩
theorem mv_X7_sign : xMv yX7_sign cX7_sign 2 none 1 := ⟨⟨xwd_in (xm4 (j := 64) rfl) rfl, xwd_in (xm1 (j := 6) rfl) rfl, by decide +kernel⟩, xwd_in (xm4 (j := 62) rfl) rfl, xwd_in (xm4 (j := 63) rfl) rfl⟩
theorem mv_X7_read : xMv yX7_read cX7_read 2 (some .int) 0 := ⟨⟨xwd_in (xm4 (j := 68) rfl) rfl, xwd_in (xm1 (j := 6) rfl) rfl, by decide +kernel⟩, xwd_in (xm4 (j := 66) rfl) rfl, xwd_in (xm4 (j := 67) rfl) rfl⟩
theorem mv_X7_reads : xMv yX7_reads cX7_reads 3 (some .boolean) 0 := ⟨⟨xwd_in (xm4 (j := 72) rfl) rfl, xwd_in (xm1 (j := 6) rfl) rfl, by decide +kernel⟩, xwd_in (xm4 (j := 71) rfl) rfl, xwd_in (xmp (j := 26) rfl) rfl⟩
theorem mv_X7_command : xMv yX7_command cX7_command 4 (some .boolean) 1 := ⟨⟨xwd_in (xm4 (j := 76) rfl) rfl, xwd_in (xm1 (j := 6) rfl) rfl, by decide +kernel⟩, xwd_in (xm4 (j := 75) rfl) rfl, xwd_in (xmp (j := 27) rfl) rfl⟩
theorem mv_X7_look : xMv yX7_look cX7_look 1 (some .int) 0 := ⟨⟨xwd_in (xm4 (j := 80) rfl) rfl, xwd_in (xm1 (j := 6) rfl) rfl, by decide +kernel⟩, xwd_in (xm4 (j := 79) rfl) rfl, xwd_in (xmp (j := 28) rfl) rfl⟩
theorem ms_X7_isLetter : xMs yX7_isLetter cX7_isLetter 1 (some .boolean) 1 := ⟨⟨xwd_in (xm4 (j := 83) rfl) rfl, xwd_in (xm1 (j := 6) rfl) rfl, by decide +kernel⟩, xwd_in (xm4 (j := 82) rfl) rfl⟩
theorem ms_X7_in : xMs yX7_in cX7_in 3 (some .boolean) 3 := ⟨⟨xwd_in (xm4 (j := 86) rfl) rfl, xwd_in (xm1 (j := 6) rfl) rfl, by decide +kernel⟩, xwd_in (xm4 (j := 85) rfl) rfl⟩
theorem mv_X7_place : xMv yX7_place cX7_place 1 (some .int) 0 := ⟨⟨xwd_in (xm4 (j := 90) rfl) rfl, xwd_in (xm1 (j := 6) rfl) rfl, by decide +kernel⟩, xwd_in (xm4 (j := 88) rfl) rfl, xwd_in (xm4 (j := 89) rfl) rfl⟩
theorem mv_X7_octet : xMv yX7_octet cX7_octet 2 none 1 := ⟨⟨xwd_in (xm4 (j := 94) rfl) rfl, xwd_in (xm1 (j := 6) rfl) rfl, by decide +kernel⟩, xwd_in (xm4 (j := 92) rfl) rfl, xwd_in (xm4 (j := 93) rfl) rfl⟩
theorem mv_X7_original : xMv yX7_original cX7_original 2 (some .int) 0 := ⟨⟨xwd_in (xm4 (j := 98) rfl) rfl, xwd_in (xm1 (j := 6) rfl) rfl, by decide +kernel⟩, xwd_in (xm4 (j := 96) rfl) rfl, xwd_in (xm4 (j := 97) rfl) rfl⟩
theorem mv_X7_check : xMv yX7_check cX7_check 6 (some .int) 4 := ⟨⟨xwd_in (xm4 (j := 102) rfl) rfl, xwd_in (xm1 (j := 6) rfl) rfl, by decide +kernel⟩, xwd_in (xm4 (j := 100) rfl) rfl, xwd_in (xm4 (j := 101) rfl) rfl⟩
theorem mv_X7_isScript : xMv yX7_isScript cX7_isScript 2 (some .boolean) 1 := ⟨⟨xwd_in (xm4 (j := 106) rfl) rfl, xwd_in (xm1 (j := 6) rfl) rfl, by decide +kernel⟩, xwd_in (xm4 (j := 105) rfl) rfl, xwd_in (xmp (j := 29) rfl) rfl⟩
theorem mv_X7_migrate : xMv yX7_migrate cX7_migrate 4 (some .int) 2 := ⟨⟨xwd_in (xm4 (j := 110) rfl) rfl, xwd_in (xm1 (j := 6) rfl) rfl, by decide +kernel⟩, xwd_in (xm4 (j := 108) rfl) rfl, xwd_in (xm4 (j := 109) rfl) rfl⟩
theorem mv_X7_can : xMv yX7_can cX7_can 3 (some .boolean) 2 := ⟨⟨xwd_in (xm4 (j := 114) rfl) rfl, xwd_in (xm1 (j := 6) rfl) rfl, by decide +kernel⟩, xwd_in (xm4 (j := 113) rfl) rfl, xwd_in (xmp (j := 30) rfl) rfl⟩
theorem mv_X7_isItem : xMv yX7_isItem cX7_isItem 2 (some .boolean) 1 := ⟨⟨xwd_in (xm4 (j := 118) rfl) rfl, xwd_in (xm1 (j := 6) rfl) rfl, by decide +kernel⟩, xwd_in (xm4 (j := 117) rfl) rfl, xwd_in (xmp (j := 31) rfl) rfl⟩
theorem mv_X7_derive : xMv yX7_derive cX7_derive 5 (some .int) 2 := ⟨⟨xwd_in (xm4 (j := 122) rfl) rfl, xwd_in (xm1 (j := 6) rfl) rfl, by decide +kernel⟩, xwd_in (xm4 (j := 121) rfl) rfl, xwd_in (xmp (j := 32) rfl) rfl⟩
theorem mv_X7_hasDerived : xMv yX7_hasDerived cX7_hasDerived 5 (some .boolean) 2 := ⟨⟨xwd_in (xm4 (j := 126) rfl) rfl, xwd_in (xm1 (j := 6) rfl) rfl, by decide +kernel⟩, xwd_in (xm4 (j := 125) rfl) rfl, xwd_in (xmp (j := 33) rfl) rfl⟩
theorem mv_X7_allHold : xMv yX7_allHold cX7_allHold 8 (some .boolean) 2 := ⟨⟨xwd_in (xm4 (j := 130) rfl) rfl, xwd_in (xm1 (j := 6) rfl) rfl, by decide +kernel⟩, xwd_in (xm4 (j := 129) rfl) rfl, xwd_in (xmp (j := 34) rfl) rfl⟩
theorem ms_X7_holds : xMs yX7_holds cX7_holds 5 (some .boolean) 5 := ⟨⟨xwd_in (xm4 (j := 133) rfl) rfl, xwd_in (xm1 (j := 6) rfl) rfl, by decide +kernel⟩, xwd_in (xm4 (j := 132) rfl) rfl⟩
theorem mv_X7_run : xMv yX7_run cX7_run 10 (some .int) 2 := ⟨⟨xwd_in (xm4 (j := 137) rfl) rfl, xwd_in (xm1 (j := 6) rfl) rfl, by decide +kernel⟩, xwd_in (xm4 (j := 136) rfl) rfl, xwd_in (xmp (j := 35) rfl) rfl⟩
theorem mv_X7_put : xMv yX7_put cX7_put 4 none 2 := ⟨⟨xwd_in (xm4 (j := 141) rfl) rfl, xwd_in (xm1 (j := 6) rfl) rfl, by decide +kernel⟩, xwd_in (xm4 (j := 140) rfl) rfl, xwd_in (xmp (j := 36) rfl) rfl⟩
theorem mv_X7_chain : xMv yX7_chain cX7_chain 4 (some .int) 2 := ⟨⟨xwd_in (xm4 (j := 146) rfl) rfl, xwd_in (xm1 (j := 6) rfl) rfl, by decide +kernel⟩, xwd_in (xm4 (j := 144) rfl) rfl, xwd_in (xm4 (j := 145) rfl) rfl⟩
theorem mv_X7_goesOn : xMv yX7_goesOn cX7_goesOn 7 (some .int) 2 := ⟨⟨xwd_in (xm4 (j := 150) rfl) rfl, xwd_in (xm1 (j := 6) rfl) rfl, by decide +kernel⟩, xwd_in (xm4 (j := 148) rfl) rfl, xwd_in (xm4 (j := 149) rfl) rfl⟩
theorem mv_X7_what : xMv yX7_what cX7_what 1 (some .int) 0 := ⟨⟨xwd_in (xm4 (j := 154) rfl) rfl, xwd_in (xm1 (j := 6) rfl) rfl, by decide +kernel⟩, xwd_in (xm4 (j := 152) rfl) rfl, xwd_in (xm4 (j := 153) rfl) rfl⟩
theorem mv_X7_failed : xMv yX7_failed cX7_failed 1 (some .int) 0 := ⟨⟨xwd_in (xm4 (j := 158) rfl) rfl, xwd_in (xm1 (j := 6) rfl) rfl, by decide +kernel⟩, xwd_in (xm4 (j := 156) rfl) rfl, xwd_in (xm4 (j := 157) rfl) rfl⟩
theorem mv_X7_counted : xMv yX7_counted cX7_counted 1 (some .long) 0 := ⟨⟨xwd_in (xm4 (j := 162) rfl) rfl, xwd_in (xm1 (j := 6) rfl) rfl, by decide +kernel⟩, xwd_in (xm4 (j := 160) rfl) rfl, xwd_in (xm4 (j := 161) rfl) rfl⟩
theorem mv_X7_batch : xMv yX7_batch cX7_batch 6 (some .int) 1 := ⟨⟨xwd_in (xm4 (j := 166) rfl) rfl, xwd_in (xm1 (j := 6) rfl) rfl, by decide +kernel⟩, xwd_in (xm4 (j := 164) rfl) rfl, xwd_in (xm4 (j := 165) rfl) rfl⟩
theorem mv_X7_undo : xMv yX7_undo cX7_undo 4 (some .int) 0 := ⟨⟨xwd_in (xm4 (j := 170) rfl) rfl, xwd_in (xm1 (j := 6) rfl) rfl, by decide +kernel⟩, xwd_in (xm4 (j := 168) rfl) rfl, xwd_in (xm4 (j := 169) rfl) rfl⟩
theorem mv_X7_goes : xMv yX7_goes cX7_goes 2 (some .boolean) 1 := ⟨⟨xwd_in (xm4 (j := 174) rfl) rfl, xwd_in (xm1 (j := 6) rfl) rfl, by decide +kernel⟩, xwd_in (xm4 (j := 173) rfl) rfl, xwd_in (xmp (j := 37) rfl) rfl⟩
theorem mv_X7_drop : xMv yX7_drop cX7_drop 2 (some .int) 1 := ⟨⟨xwd_in (xm4 (j := 178) rfl) rfl, xwd_in (xm1 (j := 6) rfl) rfl, by decide +kernel⟩, xwd_in (xm4 (j := 176) rfl) rfl, xwd_in (xm4 (j := 177) rfl) rfl⟩
theorem mv_X7_about : xMv yX7_about cX7_about 4 (some .int) 2 := ⟨⟨xwd_in (xm4 (j := 182) rfl) rfl, xwd_in (xm1 (j := 6) rfl) rfl, by decide +kernel⟩, xwd_in (xm4 (j := 180) rfl) rfl, xwd_in (xm4 (j := 181) rfl) rfl⟩
theorem mv_X7_at : xMv yX7_at cX7_at 3 (some .int) 2 := ⟨⟨xwd_in (xm4 (j := 186) rfl) rfl, xwd_in (xm1 (j := 6) rfl) rfl, by decide +kernel⟩, xwd_in (xm4 (j := 184) rfl) rfl, xwd_in (xm4 (j := 185) rfl) rfl⟩
theorem mv_X7_tried : xMv yX7_tried cX7_tried 2 (some .int) 1 := ⟨⟨xwd_in (xm4 (j := 190) rfl) rfl, xwd_in (xm1 (j := 6) rfl) rfl, by decide +kernel⟩, xwd_in (xm4 (j := 188) rfl) rfl, xwd_in (xm4 (j := 189) rfl) rfl⟩
theorem oi_i : Cond.instanceMethod objectInit ∈ xwd := xwd_in (xm1 (j := 29) rfl) rfl
theorem oi_c : Cond.code objectInit ⟨#[0xb1]⟩ 1 none ∈ xwd := xwd_in (xm1 (j := 30) rfl) rfl
theorem df_X0 : ∀ j, j < 2 → defaultValue (xty 0 j) = vp_V [.null, .int 0] j := by
  intro j hj
  rcases (show j = 0 ∨ j = 1 by omega) with rfl | rfl <;> rfl
theorem df_X1 : ∀ j, j < 3 → defaultValue (xty 1 j) = vp_V [.null, .null, .int 0] j := by
  intro j hj
  rcases (show j = 0 ∨ j = 1 ∨ j = 2 by omega) with rfl | rfl | rfl <;> rfl
theorem df_X2 : ∀ j, j < 6 → defaultValue (xty 2 j) = vp_V [.null, .int 0, .int 0, .int 0, .int 0, .int 0] j := by
  intro j hj
  rcases (show j = 0 ∨ j = 1 ∨ j = 2 ∨ j = 3 ∨ j = 4 ∨ j = 5 by omega) with rfl | rfl | rfl | rfl | rfl | rfl <;> rfl
theorem df_X3 : ∀ j, j < 9 → defaultValue (xty 3 j) = vp_V [.int 0, .null, .null, .int 0, .int 0, .int 0, .int 0, .int 0, .long 0] j := by
  intro j hj
  rcases (show j = 0 ∨ j = 1 ∨ j = 2 ∨ j = 3 ∨ j = 4 ∨ j = 5 ∨ j = 6 ∨ j = 7 ∨ j = 8 by omega) with rfl | rfl | rfl | rfl | rfl | rfl | rfl | rfl | rfl <;> rfl
theorem df_X4 : ∀ j, j < 5 → defaultValue (xty 4 j) = vp_V [.null, .null, .null, .null, .int 0] j := by
  intro j hj
  rcases (show j = 0 ∨ j = 1 ∨ j = 2 ∨ j = 3 ∨ j = 4 by omega) with rfl | rfl | rfl | rfl | rfl <;> rfl
theorem df_X5 : ∀ j, j < 5 → defaultValue (xty 5 j) = vp_V [.null, .null, .null, .int 0, .int 0] j := by
  intro j hj
  rcases (show j = 0 ∨ j = 1 ∨ j = 2 ∨ j = 3 ∨ j = 4 by omega) with rfl | rfl | rfl | rfl | rfl <;> rfl
theorem df_X6 : ∀ j, j < 10 → defaultValue (xty 6 j) = vp_V [.null, .null, .null, .null, .null, .int 0, .int 0, .int 0, .int 0, .int 0] j := by
  intro j hj
  rcases (show j = 0 ∨ j = 1 ∨ j = 2 ∨ j = 3 ∨ j = 4 ∨ j = 5 ∨ j = 6 ∨ j = 7 ∨ j = 8 ∨ j = 9 by omega) with rfl | rfl | rfl | rfl | rfl | rfl | rfl | rfl | rfl | rfl <;> rfl
theorem df_X7 : ∀ j, j < 32 → defaultValue (xty 7 j) = vp_V [.int 0, .int 0, .int 0, .int 0, .null, .int 0, .int 0, .int 0, .null, .null, .null, .null, .null, .null, .null, .int 0, .null, .int 0, .null, .null, .null, .null, .null, .null, .int 0, .null, .int 0, .int 0, .int 0, .null, .null, .long 0] j := by
  intro j hj
  rcases (show j = 0 ∨ j = 1 ∨ j = 2 ∨ j = 3 ∨ j = 4 ∨ j = 5 ∨ j = 6 ∨ j = 7 ∨ j = 8 ∨ j = 9 ∨ j = 10 ∨ j = 11 ∨ j = 12 ∨ j = 13 ∨ j = 14 ∨ j = 15 ∨ j = 16 ∨ j = 17 ∨ j = 18 ∨ j = 19 ∨ j = 20 ∨ j = 21 ∨ j = 22 ∨ j = 23 ∨ j = 24 ∨ j = 25 ∨ j = 26 ∨ j = 27 ∨ j = 28 ∨ j = 29 ∨ j = 30 ∨ j = 31 by omega) with rfl | rfl | rfl | rfl | rfl | rfl | rfl | rfl | rfl | rfl | rfl | rfl | rfl | rfl | rfl | rfl | rfl | rfl | rfl | rfl | rfl | rfl | rfl | rfl | rfl | rfl | rfl | rfl | rfl | rfl | rfl | rfl <;> rfl
