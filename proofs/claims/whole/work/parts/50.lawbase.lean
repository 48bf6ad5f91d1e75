/-! THE CLAIM OUT OF ONE WALK OF THE LAW'S BODY. Your part is whole_start (and what it stands on); all else here is the same for every law, but numbers. -/
def R_law : String := "MigrateStepsLaw"
def lw_P (b : Addr) (xs : List Int32) (args : Array Value) (s : State) : Prop := args = #[.ref b] ∧ s.IntsAt b xs ∧ xs.length ≤ 2562 ∧ (Jvm.Cond.and given_1 narrow_1).before args s = true
def lw_Q (_ : Array Value) (s : State) (o : Outcome) (t : State) : Prop := o = .returned (some (.int 1)) ∧ Framed s o t [] 601024 7293000
def lw_Z (below : List Frame) (a : Array Value) (s : State) : State → Prop := fun t => ∃ o, t.status = .running ∧ Ended t below o ∧ lw_Q a s o t
/-- the law's own end, with 1 on the stack, nothing written that was there before, its room as the claim has it -/
theorem lw_ret {p : Program} {l : Launch} {e : Env} {s : State} {m : MethodId} {below : List Frame} {meth : Method} {c : Code} {b : Nat} (hx : p.tables.exec = Jvm.exec) (hb : c.code = code) (hr : meth.sig.returnType = ret) (hlocks : meth.locks = false) {pc : Nat} {H : Heap} {ls : Array Slot} (hdg : decode code pc = .ok (.ireturn, 1)) : W p l e room_1 s m #[Value.ref b] below meth c H [] 601024 7293000 (lw_Z below #[Value.ref b] s) (F0 m pc ls [.int 1]) := by
  intro T hT X
  obtain ⟨fs, hret, hrun, hended, hW, hframe⟩ := X.leave (v := some (.int 1)) (hlocks := hlocks) (fun h => by rw [hr] at h; cases h)
  have hmeth' : T.vm.method? m = some meth := X.method'
  refine ⟨T.setFrames fs, ?_, .returned (some (.int 1)), hrun, hended, rfl, ⟨_, rfl⟩, hW, hframe⟩
  jvm_step X.here [X.here.top, hx, hb, hdg, hmeth', hr, ret, narrow_b1]
  (try refine ⟨rfl, ?_⟩); (try refine ⟨rfl, ?_⟩)
  first | (intro acts; rw [hret _ acts rfl rfl rfl]) | rw [hret _ _ rfl rfl rfl]
  exact Steps.refl _
/-- what holds at the law's entry: the machine, the code, the tables' words (any of lw_tbl by 'hts w (by decide +kernel)'), the script of L ints xs at the cell b, what the Statement gives of the start (any of its parts by flat_of_before) -/
def lw_At (p : Program) (s : State) (m : MethodId) (meth : Method) (c : Code) (b L : Nat) (xs : Nat → Int32) : Prop :=
  p.tables.exec = Jvm.exec ∧ c.code = code ∧ meth.sig.returnType = ret ∧ c.maxLocals = 7 ∧ s.vm.findClass R_law = some m.cls ∧ (∀ w ∈ lw_tbl, w.before #[Value.ref b] s = true) ∧ va_X b L xs s s.heap ∧ b < s.heap.size ∧ meth.locks = false ∧ (Jvm.Cond.and given_1 narrow_1).before #[Value.ref b] s = true

theorem traces0 {l : Launch} (h : l.flags = flags0) : l.stackTraces = false := by
  unfold Launch.stackTraces; rw [h]; decide
def strT (i : Nat) : Term := match i with
  | 0 => .string "MigrateSteps$ScriptText" 65
  | 1 => .string "MigrateSteps" 84
  | _ => .string "MigrateSteps" 193
theorem st_ex : ∀ i, i < 3 → Cond.exactly (strT i) "java/lang/String" ∈ flatC (Jvm.Cond.and given_1 narrow_1) := by decide +kernel
theorem st_co : ∀ i, i < 3 → Cond.eq (.field (strT i) "java/lang/String" "coder" "B") (.int 0) ∈ flatC (Jvm.Cond.and given_1 narrow_1) := by decide +kernel
theorem st_ar : ∀ i, i < 3 → Cond.arrayOf (.field (strT i) "java/lang/String" "value" "[B") .byte ∈ flatC (Jvm.Cond.and given_1 narrow_1) := by decide +kernel
theorem st_le : ∀ i, i < 3 → Cond.eq (.length (.field (strT i) "java/lang/String" "value" "[B")) (.int (Int32.ofNat (xlen.getD i 0))) ∈ flatC (Jvm.Cond.and given_1 narrow_1) := by decide +kernel
theorem st_el : ∀ i, i < 3 → ∀ j, j < xlen.getD i 0 → Cond.eq (.elem (.field (strT i) "java/lang/String" "value" "[B") (.int (Int32.ofNat j))) (.int ((xbyt.getD i []).getD j 0)) ∈ flatC (Jvm.Cond.and given_1 narrow_1) := by decide +kernel
theorem st_ne : ∀ i, i < 3 → ∀ j, j < 3 → i ≠ j → Cond.not (Cond.eq (strT i) (strT j)) ∈ flatC (Jvm.Cond.and given_1 narrow_1) ∨ Cond.not (Cond.eq (strT j) (strT i)) ∈ flatC (Jvm.Cond.and given_1 narrow_1) := by decide +kernel
theorem st_cs : Cond.eq (.static "java/lang/String" "COMPACT_STRINGS" "Z") (.int 1) ∈ flatC (Jvm.Cond.and given_1 narrow_1) := by decide +kernel
theorem st_un : Cond.isRef (.static "java/lang/Throwable" "UNASSIGNED_STACK" "[Ljava/lang/StackTraceElement;") ∈ flatC (Jvm.Cond.and given_1 narrow_1) := by decide +kernel
theorem st_su : Cond.isRef (.static "java/lang/Throwable" "SUPPRESSED_SENTINEL" "Ljava/util/List;") ∈ flatC (Jvm.Cond.and given_1 narrow_1) := by decide +kernel
theorem st_w1 : Cond.laysStatic "java/lang/String" "COMPACT_STRINGS" "Z" ∈ lw_tbl ∧ Cond.initialized "java/lang/String" ∈ lw_tbl := by decide +kernel
theorem st_w2 : Cond.laysStatic "java/lang/Throwable" "UNASSIGNED_STACK" "[Ljava/lang/StackTraceElement;" ∈ lw_tbl ∧ Cond.laysStatic "java/lang/Throwable" "SUPPRESSED_SENTINEL" "Ljava/util/List;" ∈ lw_tbl ∧ Cond.initialized "java/lang/Throwable" ∈ lw_tbl := by decide +kernel
theorem st_w3 : Cond.stringRef RX5 65 "rwaxsgikjzebfh" ∈ lw_tbl ∧ Cond.stringRef RX6 84 "the script is wrong" ∈ lw_tbl ∧ Cond.stringRef RX6 193 "the item has no such byte" ∈ lw_tbl := by decide +kernel
theorem st_w4 : Cond.arrayClass .int ∈ lw_tbl ∧ Cond.arrayClass .byte ∈ lw_tbl ∧ Cond.arrayClass .boolean ∈ lw_tbl ∧ Cond.arrayClass .long ∈ lw_tbl ∧ Cond.arrayOver (.object RX4) ∈ lw_tbl ∧ Cond.arrayOver (.object RX2) ∈ lw_tbl := by decide +kernel
theorem st_w5 : Cond.instantiable RX0 2 ∈ lw_tbl ∧ Cond.instantiable RX1 3 ∈ lw_tbl ∧ Cond.instantiable RX2 6 ∈ lw_tbl ∧ Cond.instantiable RX3 9 ∈ lw_tbl ∧ Cond.instantiable RX4 5 ∈ lw_tbl ∧ Cond.instantiable RX5 5 ∈ lw_tbl ∧ Cond.instantiable RX6 10 ∈ lw_tbl ∧ Cond.instantiable RX7 32 ∈ lw_tbl := by decide +kernel
theorem xO_start {p : Program} {s : State} {m : MethodId} {meth : Method} {c : Code} {b L : Nat} {xs : Nat → Int32} (C0 : lw_At p s m meth c b L xs) (A : Nat → Prop) (hA : ∀ a : Nat, a < s.heap.size → ¬ A a) : ∃ adK adV : Nat → Nat, ∀ D g, xO (D, g, (adK, adV), (b, L, xs)) A s s.heap := by
  obtain ⟨hx, hb, hr, hml, hown, hts, hX, hbl, hlocks, hgv⟩ := C0
  have hs := flat_of_before _ hgv
  obtain ⟨adK, adV, h1, h2⟩ := vk_Sof (args := #[Value.ref b]) (s := s) (N := 3) (tm := strT) (len := xlen) (byt := xbyt) (A := A) (by decide) (fun i hi => hs _ (st_ex i hi)) (fun i hi => hs _ (st_co i hi)) (fun i hi => hs _ (st_ar i hi)) (fun i hi => hs _ (st_le i hi)) (fun i hi j hj => hs _ (st_el i hi j hj)) (fun i j hi hj hij => (st_ne i hi j hj hij).imp (hs _) (hs _)) hA
  refine ⟨adK, adV, fun D g => ⟨h1, vk_R.of (A := #[Value.ref b]) (hts _ st_w3.1) (h2 0 (by decide)), vk_R.of (A := #[Value.ref b]) (hts _ st_w3.2.1) (h2 1 (by decide)), vk_R.of (A := #[Value.ref b]) (hts _ st_w3.2.2) (h2 2 (by decide)), va_Zof (hts _ st_w1.1) (hts _ st_w1.2) (va_eqt (hs _ st_cs)) hA, vx_Zqof (hts _ st_w2.1) (hts _ st_w2.2.2) (hs _ st_un) hA, vx_Zqof (hts _ st_w2.2.1) (hts _ st_w2.2.2) (hs _ st_su) hA, hX, hA b hbl, hbl⟩⟩
theorem xA_prim {s : State} {args : Array Value} {ty : FieldType} (h : (Cond.arrayClass ty).before args s = true) : ∃ cA, ArrOfT s cA ty ∧ s.vm.findClass ("[" ++ ty.toString) = some cA := by
  obtain ⟨cA, k, comp, h1, h2, h3⟩ := Cond.arrayClass_spec h
  exact ⟨cA, fun N z => ⟨(fun k h => by cases h), k, h2, comp, h3⟩, h1⟩
theorem xA_obj {s : State} {args : Array Value} {C : String} (h : (Cond.arrayOver (.object C)).before args s = true) : ∃ cA, ArrOfT s cA (.object C) ∧ va_RA s cA (.object C) := by
  obtain ⟨comp, cA, k, h1, h2, h3, h4, h5⟩ := Cond.arrayOver_spec h
  exact ⟨cA, fun N z => ⟨(fun k h => by cases h), k, h3, comp, h4⟩, k, comp, h3, h4, h1, h5⟩
theorem xK_start {p : Program} {s : State} {m : MethodId} {meth : Method} {c : Code} {b L : Nat} {xs : Nat → Int32} (C0 : lw_At p s m meth c b L xs) : ∃ (D : va_G) (g : Nat → ClassId), ∀ q r, xK (D, g, q, r) s := by
  obtain ⟨hx, hb, hr, hml, hown, hts, hX, hbl, hlocks, hgv⟩ := C0
  obtain ⟨i0, i1, i2, i3, i4, i5, i6, i7⟩ := st_w5
  obtain ⟨a0, a1, a2, a3, a4, a5⟩ := st_w4
  obtain ⟨c0, s0, k0⟩ := u_known (C := RX0) (T := TX0) (N := 2) (n := 2) hts (fun w hw => (List.mem_filter.mp (x_lay0 w hw)).1) (hts _ i0)
  obtain ⟨c1, s1, k1⟩ := u_known (C := RX1) (T := TX1) (N := 3) (n := 3) hts (fun w hw => (List.mem_filter.mp (x_lay1 w hw)).1) (hts _ i1)
  obtain ⟨c2, s2, k2⟩ := u_known (C := RX2) (T := TX2) (N := 6) (n := 6) hts (fun w hw => (List.mem_filter.mp (x_lay2 w hw)).1) (hts _ i2)
  obtain ⟨c3, s3, k3⟩ := u_known (C := RX3) (T := TX3) (N := 9) (n := 9) hts (fun w hw => (List.mem_filter.mp (x_lay3 w hw)).1) (hts _ i3)
  obtain ⟨c4, s4, k4⟩ := u_known (C := RX4) (T := TX4) (N := 5) (n := 5) hts (fun w hw => (List.mem_filter.mp (x_lay4 w hw)).1) (hts _ i4)
  obtain ⟨c5, s5, k5⟩ := u_known (C := RX5) (T := TX5) (N := 5) (n := 5) hts (fun w hw => (List.mem_filter.mp (x_lay5 w hw)).1) (hts _ i5)
  obtain ⟨c6, s6, k6⟩ := u_known (C := RX6) (T := TX6) (N := 10) (n := 10) hts (fun w hw => (List.mem_filter.mp (x_lay6 w hw)).1) (hts _ i6)
  obtain ⟨c7, s7, k7⟩ := u_known (C := RX7) (T := TX7) (N := 32) (n := 32) hts (fun w hw => (List.mem_filter.mp (x_lay7 w hw)).1) (hts _ i7)
  obtain ⟨g0, u0, w0⟩ := xA_prim (hts _ a0)
  obtain ⟨g1, u1, w1⟩ := xA_prim (hts _ a1)
  obtain ⟨g2, u2, w2⟩ := xA_prim (hts _ a2)
  obtain ⟨g3, u3, w3⟩ := xA_prim (hts _ a3)
  obtain ⟨g4, u4, w4⟩ := xA_obj (hts _ a4)
  obtain ⟨g5, u5, w5⟩ := xA_obj (hts _ a5)
  refine ⟨(fun k => match k with | 0 => c0 | 1 => c1 | 2 => c2 | 3 => c3 | 4 => c4 | 5 => c5 | 6 => c6 | _ => c7, fun k => match k with | 0 => s0 | 1 => s1 | 2 => s2 | 3 => s3 | 4 => s4 | 5 => s5 | 6 => s6 | _ => s7), fun k => match k with | 0 => g0 | 1 => g1 | 2 => g2 | 3 => g3 | 4 => g4 | _ => g5, fun q r => ⟨⟨fun k z hz => ?_, fun k z hz => ?_⟩, fun w hw => va_Nw.of (xnw_tab hw) (hts w (List.mem_filter.mp hw).1), va_AO.of (hts _ a4), va_AO.of (hts _ a5)⟩⟩
  · match k, hz with
    | 0, hz => cases hz; exact k0
    | 1, hz => cases hz; exact k1
    | 2, hz => cases hz; exact k2
    | 3, hz => cases hz; exact k3
    | 4, hz => cases hz; exact k4
    | 5, hz => cases hz; exact k5
    | 6, hz => cases hz; exact k6
    | 7, hz => cases hz; exact k7
    | k + 8, hz => simp [xcl] at hz
  · match k, hz with
    | 0, hz => cases hz; exact ⟨u0, w0⟩
    | 1, hz => cases hz; exact ⟨u1, w1⟩
    | 2, hz => cases hz; exact ⟨u2, w2⟩
    | 3, hz => cases hz; exact ⟨u3, w3⟩
    | 4, hz => cases hz; exact ⟨u4, w4⟩
    | 5, hz => cases hz; exact ⟨u5, w5⟩
    | k + 6, hz => simp [xtys] at hz
theorem x_lawret {p : Program} {l : Launch} {e : Env} {s : State} {m : MethodId} {below : List Frame} {meth : Method} {c : Code} {G : xG} {ad0 : xAd} {h0 : xH} {pc : Nat} {ls : List (Nat × Value)} {ad : xAd} {h : xH} {k n : Nat} {nm : String} {b : Nat} (F : xF p s m #[Value.ref b] meth c G ad0 h0 RL code 7 ret nm) (h0n : ∀ t, h0 t = none) (hd : decode code pc = .ok (.ireturn, 1)) (h1 : k ≤ 601024) (h2 : n ≤ 7293000) : xX p l e room_1 s m #[Value.ref b] below meth c G ad0 h0 7 (lw_Z below #[Value.ref b] s) pc ls [.int 1] ad h k n := by
  intro H locs la hR hS hL hE
  refine va_forget (fun q hq => ?_) (W.widen h1 h2 (lw_ret F.1 F.2.1 F.2.2.2.2.2.2.2.1 F.2.2.2.2.2.1 hd))
  rcases hS.2.2 q hq with ⟨t, ht, _⟩ | z
  · exact absurd (h0n t) ht
  · exact z
