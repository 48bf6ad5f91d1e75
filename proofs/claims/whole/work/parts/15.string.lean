/-! ===== String constants: rows and the members that are reached ===== -/
def CtG (y : MethodName) (b : ByteArray) (n : Nat) (r : Option FieldType) (rm : Room) (sp : xG → xSp) : Prop :=
  ∀ (l : Launch) (G : xG) (ad : xAd) (h : xH) (av : List Value) (Q : xPq) (sz : Nat), sp G ad h av Q → Met l y (xw y b n r) rm (xPre G ad h sz av) (xPost G ad h sz Q) rm.cells rm.slots (xFr ad h sz)
theorem CtG.of {y : MethodName} {b : ByteArray} {n : Nat} {r : Option FieldType} {rm : Room} {sp : xG → xSp} (hy : plainFor y = true)
    (body : ∀ (p : Program) (l : Launch) (e : Env) (s : State) (m : MethodId) (args : Array Value) (below : List Frame) (meth : Method) (c : Code) (G : xG) (ad : xAd) (h : xH) (av : List Value) (Q : xPq), xF p s m args meth c G ad h y.cls b n r y.name → sp G ad h av Q →
      ((lg_sl av).length ≤ n ∧ ∀ q ∈ lv_args 0 av, q.2.category = 1) ∧ xX p l e rm s m args below meth c G ad h n (xZ below G ad h Q args s rm) 0 (lv_args 0 av) [] ad h 0 0) : CtG y b n r rm sp := by
  intro l G ad h av Q sz hsp
  refine va_MetF (cc := b) (maxL := n) (ret := r) hy rfl ?_
  intro p e s m args below meth c s₁ B hml hv
  obtain ⟨rfl, hsz, hR, hK, hO⟩ := hv
  subst hsz
  have hts := atoms_spec (ws := xw y b n r) B.pre
  have hF : xF p s m av.toArray meth c G ad h y.cls b n r y.name := ⟨B.exec, B.bytes, hml, findClass_of_methodNamed B.named, fun w hw => hts w (List.mem_cons_of_mem _ hw), B.notSynchronized, hK, B.returns, (name_of_methodNamed B.named B.method).1, hO⟩
  obtain ⟨⟨h1, h2⟩, hX⟩ := body p l e s m av.toArray below meth c G ad h av Q hF hsp
  rw [lg_entry_eq]
  exact hX s.heap [] _ (hR.any fun t ht => Or.inl ⟨t, ht, rfl⟩) va_S.rf ⟨lv_entry av h1, h2⟩ xExt.rf
/-- the place of the letters' String, and of its bytes -/
abbrev kS (G : xG) : Nat := G.2.2.1.1 0
abbrev kV (G : xG) : Nat := G.2.2.1.2 0
section XSTR
variable {p : Program} {l : Launch} {e : Env} {R : Room} {s : State} {m : MethodId} {args : Array Value} {below : List Frame} {meth : Method} {c : Code} {G : xG} {ad0 : xAd} {h0 : xH} {nL : Nat} {Z : State → Prop} {pc : Nat} {ls : List (Nat × Value)} {st : List Value} {ad : xAd} {h : xH} {k n : Nat} {own : String} {cc : ByteArray} {r : Option FieldType} {nm : String}
theorem x_ldcS (F : xF p s m args meth c G ad0 h0 RX5 cc nL r nm) {q : Nat} (hd : decode cc pc = .ok (.ldc 65, 2)) (hp : pc + 2 = q) (kk : xX p l e R s m args below meth c G ad0 h0 nL Z q ls (.ref (kS G) :: st) ad h k n) : xX p l e R s m args below meth c G ad0 h0 nL Z pc ls st ad h k n := by
  subst hp
  exact fun H locs la hR hS hL hE => va_ldcS F.1 F.2.1 F.2.2.2.1 F.2.2.2.2.2.2.2.2.2.2.1 hd (kk H locs la hR hS hL hE)
theorem x_compact (F : xF p s m args meth c G ad0 h0 own cc nL r nm) {idx q : Nat} (hd : decode cc pc = .ok (.getstatic idx, 3)) (hp : pc + 3 = q) (hl : Cond.fieldLink own idx "java/lang/String" "COMPACT_STRINGS" "Z" ∈ xwd) (kk : xX p l e R s m args below meth c G ad0 h0 nL Z q ls (.int 1 :: st) ad h k n) : xX p l e R s m args below meth c G ad0 h0 nL Z pc ls st ad h k n := by
  subst hp
  exact fun H locs la hR hS hL hE => va_gets F.1 F.2.1 F.2.2.2.2.2.2.2.2.2.2.2.2.2.1 hS F.2.2.2.1 (F.2.2.2.2.1 _ hl) (fun _ z => z) hd (kk H locs la hR hS hL hE)
theorem x_coder (F : xF p s m args meth c G ad0 h0 own cc nL r nm) {idx q : Nat} (hd : decode cc pc = .ok (.getfield idx, 3)) (hp : pc + 3 = q) (hl : Cond.fieldLink own idx "java/lang/String" "coder" "B" ∈ xwd) (kk : xX p l e R s m args below meth c G ad0 h0 nL Z q ls (.int 0 :: st) ad h k n) : xX p l e R s m args below meth c G ad0 h0 nL Z pc ls (.ref (kS G) :: st) ad h k n := by
  subst hp
  exact fun H locs la hR hS hL hE => vk_getf F.1 F.2.1 (F.2.2.2.2.2.2.2.2.2.1.1 0 (by decide)).2.1 hS F.2.2.2.1 (F.2.2.2.2.1 _ hl) (fun _ z => z) hd (kk H locs la hR hS hL hE)
theorem x_value (F : xF p s m args meth c G ad0 h0 own cc nL r nm) {idx q : Nat} (hd : decode cc pc = .ok (.getfield idx, 3)) (hp : pc + 3 = q) (hl : Cond.fieldLink own idx "java/lang/String" "value" "[B" ∈ xwd) (kk : xX p l e R s m args below meth c G ad0 h0 nL Z q ls (.ref (kV G) :: st) ad h k n) : xX p l e R s m args below meth c G ad0 h0 nL Z pc ls (.ref (kS G) :: st) ad h k n := by
  subst hp
  exact fun H locs la hR hS hL hE => vk_getf F.1 F.2.1 (F.2.2.2.2.2.2.2.2.2.1.1 0 (by decide)).2.2.1 hS F.2.2.2.1 (F.2.2.2.2.1 _ hl) (fun _ z => z) hd (kk H locs la hR hS hL hE)
theorem x_vlen (F : xF p s m args meth c G ad0 h0 own cc nL r nm) {q : Nat} (hd : decode cc pc = .ok (.arraylength, 1)) (hp : pc + 1 = q) (kk : xX p l e R s m args below meth c G ad0 h0 nL Z q ls (.int (nI 14) :: st) ad h k n) : xX p l e R s m args below meth c G ad0 h0 nL Z pc ls (.ref (kV G) :: st) ad h k n := by
  subst hp
  exact fun H locs la hR hS hL hE => va_tlen F.1 F.2.1 (F.2.2.2.2.2.2.2.2.2.1.1 0 (by decide)).2.2.2 hS rfl hd (kk H locs la hR hS hL hE)
theorem x_vald (F : xF p s m args meth c G ad0 h0 own cc nL r nm) {q j : Nat} (hd : decode cc pc = .ok (.baload, 1)) (hp : pc + 1 = q) (hj : j < 14) (kk : xX p l e R s m args below meth c G ad0 h0 nL Z q ls (.int ((xbyt.getD 0 []).getD j 0) :: st) ad h k n) : xX p l e R s m args below meth c G ad0 h0 nL Z pc ls (.int (nI j) :: .ref (kV G) :: st) ad h k n := by
  subst hp
  exact fun H locs la hR hS hL hE => va_tb F.1 F.2.1 (F.2.2.2.2.2.2.2.2.2.1.1 0 (by decide)).2.2.2 hS (vp_in_nI (N := 14) hj (by omega)) (by rw [nI_clamp (by omega)]) hd (kk H locs la hR hS hL hE)
theorem x_ishr (F : xF p s m args meth c G ad0 h0 own cc nL r nm) {x y : Int32} {q : Nat} (hd : decode cc pc = .ok (.ishr, 1)) (hp : pc + 1 = q) (kk : xX p l e R s m args below meth c G ad0 h0 nL Z q ls (.int (x >>> (y &&& 31)) :: st) ad h k n) : xX p l e R s m args below meth c G ad0 h0 nL Z pc ls (.int y :: .int x :: st) ad h k n := by
  subst hp
  exact fun H locs la hR hS hL hE => lv_ishr F.1 F.2.1 hd (kk H locs la hR hS hL hE)
theorem x_nret {rt : FieldType} (F : xF p s m args meth c G ad0 h0 own cc nL (some rt) nm) {Q : xPq} {v : Int32} (hd : decode cc pc = .ok (.ireturn, 1)) (h1 : k ≤ R.cells) (h2 : n ≤ R.slots) (hv : narrow rt (.int v) = .int v) (hq : Q (some (.int v)) ad h) : xX p l e R s m args below meth c G ad0 h0 nL (xZ below G ad0 h0 Q args s R) pc ls [.int v] ad h k n :=
  fun H locs la hR hS hL hE => W.widen h1 h2 (W.zret (ty := rt) (hlocks := F.2.2.2.2.2.1) F.1 F.2.1 F.2.2.2.2.2.2.2.1 hv (fun t ht hW => ⟨⟨some (.int v), ad, h, rfl, hq, hE, by rw [ht]; exact hR⟩, hS.F ht⟩) (fun q hq => hS.2.2 q hq) hd)
variable {y : MethodName} {b : ByteArray} {ml na idx : Nat} {ry : Option FieldType} {rm : Room} {sp : xG → xSp} {As rest : List Value} {q : Nat}
theorem x_callSG (F : xF p s m args meth c G ad0 h0 own cc nL r nm) (As : List Value) (C : CtG y b ml ry rm sp) (hd : decode cc pc = .ok (.invokestatic idx, 3)) (hp : pc + 3 = q) (hm : xMs y b ml ry na) (hl : Cond.methodLink own idx y ∈ xwd) (hf : xFit rm R ml k n) (hn : As.length = na) (hroom : (rest.map fun v => v.category).sum ≤ 8) {st0 : List Value} (hst : st0 = As.reverse ++ rest)
    (kk : sp G ad h As (fun v ad' h' => xExt ad h ad' h' → xX p l e R s m args below meth c G ad0 h0 nL Z q ls (v.toList ++ rest) ad' h' (k + rm.cells) (n + rm.slots))) : xX p l e R s m args below meth c G ad0 h0 nL Z pc ls st0 ad h k n := by
  subst hp; subst hst
  intro H locs la hR hS hL hE
  refine x_cont hR hS hL hE (va_runS ⟨F.1, F.2.1, F.2.2.1, F.2.2.2.1, F.2.2.2.2.1⟩ (C l G ad h _ _ H.size kk) ⟨x_callB F hm.1 hf hl, F.2.2.2.2.1 _ hm.2⟩ ⟨xPre.blind, fun U hU hW => ⟨rfl, by rw [hU], by rw [hU]; exact hR.any fun _ _ => trivial, xK.warm hW F.2.2.2.2.2.2.1, x_O F hR hS hU hW⟩⟩ rfl hn hL.1.1 rfl (lv_room hroom) hd hf.2)
theorem x_callK (F : xF p s m args meth c G ad0 h0 own cc nL r nm) (As : List Value) (C : CtG y b ml ry rm sp) (hd : decode cc pc = .ok (.invokevirtual idx, 3)) (hp : pc + 3 = q) (hm : xMv y b ml ry na) (hl : Cond.methodLink own idx y ∈ xwd) (hy : y.cls = "java/lang/String") (hf : xFit rm R ml k n) (hn : As.length = na) (hroom : (rest.map fun v => v.category).sum ≤ 8) {st0 : List Value} (hst : st0 = As.reverse ++ .ref (kS G) :: rest)
    (kk : sp G ad h (.ref (kS G) :: As) (fun v ad' h' => xExt ad h ad' h' → xX p l e R s m args below meth c G ad0 h0 nL Z q ls (v.toList ++ rest) ad' h' (k + rm.cells) (n + rm.slots))) : xX p l e R s m args below meth c G ad0 h0 nL Z pc ls st0 ad h k n := by
  subst hp; subst hst
  intro H locs la hR hS hL hE
  refine x_cont hR hS hL hE (va_runV (C := y.cls) ⟨F.1, F.2.1, F.2.2.1, F.2.2.2.1, F.2.2.2.2.1⟩ (C l G ad h _ _ H.size kk) ⟨x_callB F hm.1 hf hl, F.2.2.2.2.1 _ hm.2.1, F.2.2.2.2.1 _ hm.2.2⟩ ⟨xPre.blind, by rw [hy]; exact vk_recv F.2.2.2.2.2.2.2.2.2.1 (by decide) hS, fun U hU hW => ⟨rfl, by rw [hU], by rw [hU]; exact hR.any fun _ _ => trivial, xK.warm hW F.2.2.2.2.2.2.1, x_O F hR hS hU hW⟩⟩ rfl hn hL.1.1 rfl (lv_room hroom) hd hf.2)
end XSTR
theorem fl_J0_38 : Cond.fieldLink RJ0 38 "java/lang/String" "COMPACT_STRINGS" "Z" ∈ xwd := xwd_in (xm2 (j := 202) rfl) rfl
theorem fl_J0_15 : Cond.fieldLink RJ0 15 "java/lang/String" "coder" "B" ∈ xwd := xwd_in (xm4 (j := 193) rfl) rfl
theorem fl_J0_9 : Cond.fieldLink RJ0 9 "java/lang/String" "value" "[B" ∈ xwd := xwd_in (xm4 (j := 194) rfl) rfl
def s_k0 (v : Int32) : xG → xSp := fun G ad h av Q => av = [.ref (kS G)] ∧ Q (some (.int v)) ad h
set_option maxRecDepth 100000 in
theorem c_isLatin1 : CtG yJ0_isLatin1_aae02 cJ0_isLatin1_aae02 1 (some .boolean) (xrm 0 0 0) (s_k0 1) := by
  refine CtG.of (by decide +kernel) ?_
  intro p l e s m args below meth c G ad h av Q F hsp
  obtain ⟨rfl, hQ⟩ := hsp
  refine ⟨x_ent rfl rfl, ?_⟩
  refine x_compact (q := 3) F dJ0_isLatin1_aae02_0 rfl fl_J0_38 ?_
  refine x_if_eq (q := 6) F 17 dJ0_isLatin1_aae02_3 (by decide) rfl (fun c3 => ?_) (fun c3 => ?_)
  · exact absurd c3 (by decide)
  · refine x_aload_n (q := 7) F dJ0_isLatin1_aae02_6 rfl rfl (by first | exact xref_r | exact xref_n | exact xref_f _ | assumption) ?_
    refine x_coder (q := 10) F dJ0_isLatin1_aae02_7 rfl fl_J0_15 ?_
    refine x_if_ne (q := 13) F 17 dJ0_isLatin1_aae02_10 (by decide) rfl (fun c10 => ?_) (fun c10 => ?_)
    · exact absurd rfl c10
    · refine x_iconst (q := 14) (v := 1) F dJ0_isLatin1_aae02_13 rfl (by decide) ?_
      refine x_goto F 18 dJ0_isLatin1_aae02_14 (by decide) ?_
      refine x_zret F dJ0_isLatin1_aae02_18 (xle rfl) (xle rfl) (by first | exact Or.inl rfl | exact Or.inr rfl) ?_
      exact hQ
set_option maxRecDepth 100000 in
theorem c_coder : CtG yJ0_coder_7d493 cJ0_coder_7d493 1 (some .byte) (xrm 0 0 0) (s_k0 0) := by
  refine CtG.of (by decide +kernel) ?_
  intro p l e s m args below meth c G ad h av Q F hsp
  obtain ⟨rfl, hQ⟩ := hsp
  refine ⟨x_ent rfl rfl, ?_⟩
  refine x_compact (q := 3) F dJ0_coder_7d493_0 rfl fl_J0_38 ?_
  refine x_if_eq (q := 6) F 13 dJ0_coder_7d493_3 (by decide) rfl (fun c3 => ?_) (fun c3 => ?_)
  · exact absurd c3 (by decide)
  · refine x_aload_n (q := 7) F dJ0_coder_7d493_6 rfl rfl (by first | exact xref_r | exact xref_n | exact xref_f _ | assumption) ?_
    refine x_coder (q := 10) F dJ0_coder_7d493_7 rfl fl_J0_15 ?_
    refine x_goto F 14 dJ0_coder_7d493_10 (by decide) ?_
    exact x_nret F dJ0_coder_7d493_14 (xle rfl) (xle rfl) rfl hQ
set_option maxRecDepth 100000 in
theorem c_length : CtG yJ0_length_8abf5 cJ0_length_8abf5 1 (some .int) (xrm 1 0 0) (s_k0 (nI 14)) := by
  refine CtG.of (by decide +kernel) ?_
  intro p l e s m args below meth c G ad h av Q F hsp
  obtain ⟨rfl, hQ⟩ := hsp
  refine ⟨x_ent rfl rfl, ?_⟩
  refine x_aload_n (q := 1) F dJ0_length_8abf5_0 rfl rfl (by first | exact xref_r | exact xref_n | exact xref_f _ | assumption) ?_
  refine x_value (q := 4) F dJ0_length_8abf5_1 rfl fl_J0_9 ?_
  refine x_vlen (q := 5) F dJ0_length_8abf5_4 rfl ?_
  refine x_aload_n (q := 6) F dJ0_length_8abf5_5 rfl rfl (by first | exact xref_r | exact xref_n | exact xref_f _ | assumption) ?_
  refine x_callK (q := 9) (rest := [.int (nI 14)]) F [] c_coder dJ0_length_8abf5_6 rfl mv_J0_coder_7d493 ml_J0_335 rfl ⟨⟨xle rfl, xle rfl⟩, xle rfl, xle rfl⟩ rfl (xle rfl) rfl ⟨rfl, fun _ => ?_⟩
  refine x_ishr (q := 10) F dJ0_length_8abf5_9 rfl ?_
  refine x_topi (y := nI 14) (by decide) ?_
  refine x_iret F dJ0_length_8abf5_10 (xle rfl) (xle rfl) ?_
  exact hQ
def s_enc : xG → xSp := fun _ ad h av Q => ∃ c : Nat, av = [.int (nI c)] ∧ c < 256 ∧ Q (some (.int 1)) ad h
set_option maxRecDepth 100000 in
theorem c_canEncode : CtG yJ1_canEncode_9a6ad cJ1_canEncode_9a6ad 1 (some .boolean) (xrm 0 0 0) s_enc := by
  refine CtG.of (by decide +kernel) ?_
  intro p l e s m args below meth c0 G ad h av Q F hsp
  obtain ⟨c, rfl, hc, hQ⟩ := hsp
  refine ⟨x_ent rfl rfl, ?_⟩
  refine x_iload_n (q := 1) F dJ1_canEncode_9a6ad_0 rfl rfl ?_
  refine x_if_lt (q := 4) F 15 dJ1_canEncode_9a6ad_1 (by decide) rfl (fun c1 => ?_) (fun c1 => ?_)
  · exact absurd c1 (nI_pos (by omega))
  · refine x_iload_n (q := 5) F dJ1_canEncode_9a6ad_4 rfl rfl ?_
    refine x_sipush (q := 8) (v := 255) F dJ1_canEncode_9a6ad_5 rfl (by decide) ?_
    refine x_icmp_gt (q := 11) F 15 dJ1_canEncode_9a6ad_8 (by decide) rfl (fun c8 => ?_) (fun c8 => ?_)
    · exact absurd ((nI_ltI (a := 255) (b := c) (by omega) (by omega)).mp c8) (by omega)
    · refine x_iconst (q := 12) (v := 1) F dJ1_canEncode_9a6ad_11 rfl (by decide) ?_
      refine x_goto F 16 dJ1_canEncode_9a6ad_12 (by decide) ?_
      refine x_zret F dJ1_canEncode_9a6ad_16 (xle rfl) (xle rfl) (by first | exact Or.inl rfl | exact Or.inr rfl) ?_
      exact hQ
theorem byt_ok : ∀ i, i < 14 → ∀ c, c < 256 → (((xbyt.getD 0 []).getD i 0 = (nI c).toInt8.toInt32) ↔ L14.getD i 0 = c) := by decide +kernel
theorem L14_none {c : Nat} (h : ∀ j, j < 14 → L14.getD j 0 ≠ c) : c ∉ L14 := by
  intro hc
  obtain ⟨j, hj, he⟩ := List.getElem_of_mem hc
  exact h j hj (by rw [List.getD_eq_getElem?_getD, List.getElem?_eq_getElem hj]; exact he)
theorem L14_some {j : Nat} (h : j < 14) : L14.getD j 0 ∈ L14 := by
  rw [List.getD_eq_getElem?_getD, List.getElem?_eq_getElem (show j < L14.length from h)]
  exact List.getElem_mem _
/-- the place of a letter, or none -/
def found (c : Nat) (x : Int32) : Prop := (c ∈ L14 ∧ ¬ x < 0) ∨ (c ∉ L14 ∧ x = -1)
def s_ixc : xG → xSp := fun G ad h av Q => ∃ c : Nat, av = [.ref (kV G), .int (nI c), .int (nI 0), .int (nI 14)] ∧ c < 256 ∧ ∀ x, found c x → Q (some (.int x)) ad h
set_option maxRecDepth 100000 in
theorem c_indexOfChar : CtG yJ1_indexOfChar_4cfef cJ1_indexOfChar_4cfef 6 (some .int) (xrm 0 0 0) s_ixc := by
  refine CtG.of (by decide +kernel) ?_
  intro p l e s m args below meth c0 G ad h av Q F hsp
  obtain ⟨c, rfl, hc, hQ⟩ := hsp
  refine ⟨x_ent rfl rfl, ?_⟩
  have loop : ∀ i : Nat, i ≤ 14 → (∀ j, j < i → L14.getD j 0 ≠ c) → xX p l e (xrm 0 0 0) s m args below meth c0 G ad h 6 (xZ below G ad h Q args s (xrm 0 0 0)) 7 [(0, .ref (kV G)), (3, .int (nI 14)), (4, .int (nI c).toInt8.toInt32), (5, .int (nI i))] [] ad h 0 0 := by
    intro i
    induction hd : 14 - i using Nat.strongRecOn generalizing i with
    | ind d ih =>
      intro hi hno
      refine x_iload (q := 9) F dJ1_indexOfChar_4cfef_7 rfl rfl ?_
      refine x_iload_n (q := 10) F dJ1_indexOfChar_4cfef_9 rfl rfl ?_
      refine x_icmp_ge (q := 13) F 31 dJ1_indexOfChar_4cfef_10 (by decide) rfl (fun c10 => ?_) (fun c10 => ?_)
      · have : i = 14 := by have := (nI_leI (by omega) (by omega)).mp c10; omega
        subst this
        refine x_iconst (q := 32) (v := -1) F dJ1_indexOfChar_4cfef_31 rfl (by decide) ?_
        refine x_iret F dJ1_indexOfChar_4cfef_32 (xle rfl) (xle rfl) ?_
        exact hQ _ (Or.inr ⟨L14_none hno, rfl⟩)
      · have hlt : i < 14 := by
          rcases Nat.lt_or_ge i 14 with q | q
          · exact q
          · exact absurd ((nI_leI (by omega) (by omega)).mpr q) c10
        refine x_aload_n (q := 14) F dJ1_indexOfChar_4cfef_13 rfl rfl (by first | exact xref_r | exact xref_n | exact xref_f _ | assumption) ?_
        refine x_iload (q := 16) F dJ1_indexOfChar_4cfef_14 rfl rfl ?_
        refine x_vald (q := 17) F dJ1_indexOfChar_4cfef_16 rfl hlt ?_
        refine x_iload (q := 19) F dJ1_indexOfChar_4cfef_17 rfl rfl ?_
        refine x_icmp_ne (q := 22) F 25 dJ1_indexOfChar_4cfef_19 (by decide) rfl (fun c19 => ?_) (fun c19 => ?_)
        · refine x_iinc (q := 28) F dJ1_indexOfChar_4cfef_25 rfl rfl (nI_1 i) (by decide) ?_
          refine x_goto F 7 dJ1_indexOfChar_4cfef_28 (by decide) ?_
          refine x_ls [(0, .ref (kV G)), (3, .int (nI 14)), (4, .int (nI c).toInt8.toInt32), (5, .int (nI (i + 1)))] rfl ?_
          refine ih (14 - (i + 1)) (by omega) (i + 1) rfl (by omega) (fun j hj => ?_)
          by_cases z : j = i
          · subst z; exact fun q => c19 ((byt_ok j hlt c hc).mpr q)
          · exact hno j (by omega)
        · have he := (byt_ok i hlt c hc).mp c19
          refine x_iload (q := 24) F dJ1_indexOfChar_4cfef_22 rfl rfl ?_
          refine x_iret F dJ1_indexOfChar_4cfef_24 (xle rfl) (xle rfl) ?_
          exact hQ _ (Or.inl ⟨he ▸ L14_some hlt, nI_pos (by omega)⟩)
  refine x_ls [(0, .ref (kV G)), (1, .int (nI c)), (2, .int (nI 0)), (3, .int (nI 14))] rfl ?_
  refine x_iload_n (q := 1) F dJ1_indexOfChar_4cfef_0 rfl rfl ?_
  refine x_i2b (q := 2) F dJ1_indexOfChar_4cfef_1 rfl ?_
  refine x_istore (q := 4) F dJ1_indexOfChar_4cfef_2 rfl (by decide) ?_
  refine x_iload_n (q := 5) F dJ1_indexOfChar_4cfef_4 rfl rfl ?_
  refine x_istore (q := 7) F dJ1_indexOfChar_4cfef_5 rfl (by decide) ?_
  refine x_ls [(0, .ref (kV G)), (3, .int (nI 14)), (4, .int (nI c).toInt8.toInt32), (5, .int (nI 0))] rfl ?_
  exact loop 0 (Nat.zero_le _) (fun j hj => absurd hj (Nat.not_lt_zero j))
set_option maxRecDepth 100000 in
theorem c_latinIx : CtG yJ1_indexOf_4cfef cJ1_indexOf_4cfef 4 (some .int) (xrm 1 0 0) s_ixc := by
  refine CtG.of (by decide +kernel) ?_
  intro p l e s m args below meth c0 G ad h av Q F hsp
  obtain ⟨c, rfl, hc, hQ⟩ := hsp
  refine ⟨x_ent rfl rfl, ?_⟩
  refine x_ls [(0, .ref (kV G)), (1, .int (nI c)), (2, .int (nI 0)), (3, .int (nI 14))] rfl ?_
  refine x_iload_n (q := 1) F dJ1_indexOf_4cfef_0 rfl rfl ?_
  refine x_callSG (q := 4) (rest := []) F [.int (nI c)] c_canEncode dJ1_indexOf_4cfef_1 rfl ms_J1_canEncode_9a6ad ml_J1_88 ⟨⟨xle rfl, xle rfl⟩, xle rfl, xle rfl⟩ rfl (xle rfl) rfl ⟨c, rfl, hc, fun _ => ?_⟩
  refine x_if_ne (q := 7) F 9 dJ1_indexOf_4cfef_4 (by decide) rfl (fun c4 => ?_) (fun c4 => ?_)
  · refine x_iload_n (q := 10) F dJ1_indexOf_4cfef_9 rfl rfl ?_
    refine x_iconst (q := 11) (v := 0) F dJ1_indexOf_4cfef_10 rfl (by decide) ?_
    refine x_mmax (q := 14) F dJ1_indexOf_4cfef_11 rfl ml_J1_92 mw_max (xle rfl) (xle rfl) (xle rfl) (xle rfl) ?_
    refine x_topi (y := nI 0) (by decide) ?_
    refine x_istore_n (q := 15) F dJ1_indexOf_4cfef_14 rfl (by decide) ?_
    refine x_iload_n (q := 16) F dJ1_indexOf_4cfef_15 rfl rfl ?_
    refine x_aload_n (q := 17) F dJ1_indexOf_4cfef_16 rfl rfl (by first | exact xref_r | exact xref_n | exact xref_f _ | assumption) ?_
    refine x_vlen (q := 18) F dJ1_indexOf_4cfef_17 rfl ?_
    refine x_mmin (q := 21) F dJ1_indexOf_4cfef_18 rfl ml_J1_38 mw_min (xle rfl) (xle rfl) (xle rfl) (xle rfl) ?_
    refine x_topi (y := nI 14) (by decide) ?_
    refine x_istore_n (q := 22) F dJ1_indexOf_4cfef_21 rfl (by decide) ?_
    refine x_iload_n (q := 23) F dJ1_indexOf_4cfef_22 rfl rfl ?_
    refine x_iload_n (q := 24) F dJ1_indexOf_4cfef_23 rfl rfl ?_
    refine x_icmp_lt (q := 27) F 29 dJ1_indexOf_4cfef_24 (by decide) rfl (fun c24 => ?_) (fun c24 => ?_)
    · refine x_aload_n (q := 30) F dJ1_indexOf_4cfef_29 rfl rfl (by first | exact xref_r | exact xref_n | exact xref_f _ | assumption) ?_
      refine x_iload_n (q := 31) F dJ1_indexOf_4cfef_30 rfl rfl ?_
      refine x_iload_n (q := 32) F dJ1_indexOf_4cfef_31 rfl rfl ?_
      refine x_iload_n (q := 33) F dJ1_indexOf_4cfef_32 rfl rfl ?_
      refine x_callSG (q := 36) (rest := []) F [.ref (kV G), .int (nI c), .int (nI 0), .int (nI 14)] c_indexOfChar dJ1_indexOf_4cfef_33 rfl ms_J1_indexOfChar_4cfef ml_J1_95 ⟨⟨xle rfl, xle rfl⟩, xle rfl, xle rfl⟩ rfl (xle rfl) rfl ⟨c, rfl, hc, fun x hx _ => ?_⟩
      refine x_iret F dJ1_indexOf_4cfef_36 (xle rfl) (xle rfl) ?_
      exact hQ x hx
    · exact absurd (by decide) c24
  · exact absurd c4 (by decide)
def s_ix2 : xG → xSp := fun G ad h av Q => ∃ c : Nat, av = [.ref (kS G), .int (nI c), .int 0] ∧ c < 256 ∧ ∀ x, found c x → Q (some (.int x)) ad h
set_option maxRecDepth 100000 in
theorem c_ix2 : CtG yJ0_indexOf_7cf53 cJ0_indexOf_7cf53 3 (some .int) (xrm 2 0 0) s_ix2 := by
  refine CtG.of (by decide +kernel) ?_
  intro p l e s m args below meth c0 G ad h av Q F hsp
  obtain ⟨c, rfl, hc, hQ⟩ := hsp
  refine ⟨x_ent rfl rfl, ?_⟩
  refine x_ls [(0, .ref (kS G)), (1, .int (nI c)), (2, .int 0)] rfl ?_
  refine x_aload_n (q := 1) F dJ0_indexOf_7cf53_0 rfl rfl (by first | exact xref_r | exact xref_n | exact xref_f _ | assumption) ?_
  refine x_callK (q := 4) (rest := []) F [] c_isLatin1 dJ0_indexOf_7cf53_1 rfl mv_J0_isLatin1_aae02 ml_J0_492 rfl ⟨⟨xle rfl, xle rfl⟩, xle rfl, xle rfl⟩ rfl (xle rfl) rfl ⟨rfl, fun _ => ?_⟩
  refine x_if_eq (q := 7) F 23 dJ0_indexOf_7cf53_4 (by decide) rfl (fun c4 => ?_) (fun c4 => ?_)
  · exact absurd c4 (by decide)
  · refine x_aload_n (q := 8) F dJ0_indexOf_7cf53_7 rfl rfl (by first | exact xref_r | exact xref_n | exact xref_f _ | assumption) ?_
    refine x_value (q := 11) F dJ0_indexOf_7cf53_8 rfl fl_J0_9 ?_
    refine x_iload_n (q := 12) F dJ0_indexOf_7cf53_11 rfl rfl ?_
    refine x_iload_n (q := 13) F dJ0_indexOf_7cf53_12 rfl rfl ?_
    refine x_aload_n (q := 14) F dJ0_indexOf_7cf53_13 rfl rfl (by first | exact xref_r | exact xref_n | exact xref_f _ | assumption) ?_
    refine x_callK (q := 17) (rest := [.int 0, .int (nI c), .ref (kV G)]) F [] c_length dJ0_indexOf_7cf53_14 rfl mv_J0_length_8abf5 ml_J0_505 rfl ⟨⟨xle rfl, xle rfl⟩, xle rfl, xle rfl⟩ rfl (xle rfl) rfl ⟨rfl, fun _ => ?_⟩
    refine x_callSG (q := 20) (rest := []) F [.ref (kV G), .int (nI c), .int (nI 0), .int (nI 14)] c_latinIx dJ0_indexOf_7cf53_17 rfl ms_J1_indexOf_4cfef ml_J0_637 ⟨⟨xle rfl, xle rfl⟩, xle rfl, xle rfl⟩ rfl (xle rfl) rfl ⟨c, rfl, hc, fun x hx _ => ?_⟩
    refine x_goto F 36 dJ0_indexOf_7cf53_20 (by decide) ?_
    refine x_iret F dJ0_indexOf_7cf53_36 (xle rfl) (xle rfl) ?_
    exact hQ x hx
def s_ix1 : xG → xSp := fun G ad h av Q => ∃ c : Nat, av = [.ref (kS G), .int (nI c)] ∧ c < 256 ∧ ∀ x, found c x → Q (some (.int x)) ad h
set_option maxRecDepth 100000 in
theorem c_ix1 : CtG yJ0_indexOf_0f7a4 cJ0_indexOf_0f7a4 2 (some .int) (xrm 3 0 0) s_ix1 := by
  refine CtG.of (by decide +kernel) ?_
  intro p l e s m args below meth c0 G ad h av Q F hsp
  obtain ⟨c, rfl, hc, hQ⟩ := hsp
  refine ⟨x_ent rfl rfl, ?_⟩
  refine x_ls [(0, .ref (kS G)), (1, .int (nI c))] rfl ?_
  refine x_aload_n (q := 1) F dJ0_indexOf_0f7a4_0 rfl rfl (by first | exact xref_r | exact xref_n | exact xref_f _ | assumption) ?_
  refine x_iload_n (q := 2) F dJ0_indexOf_0f7a4_1 rfl rfl ?_
  refine x_iconst (q := 3) (v := 0) F dJ0_indexOf_0f7a4_2 rfl (by decide) ?_
  refine x_callK (q := 6) (rest := []) F [.int (nI c), .int 0] c_ix2 dJ0_indexOf_0f7a4_3 rfl mv_J0_indexOf_7cf53 ml_J0_633 rfl ⟨⟨xle rfl, xle rfl⟩, xle rfl, xle rfl⟩ rfl (xle rfl) rfl ⟨c, rfl, hc, fun x hx _ => ?_⟩
  refine x_iret F dJ0_indexOf_0f7a4_6 (xle rfl) (xle rfl) ?_
  exact hQ x hx
/-- a sign that is there or NONE: is it a letter of a command -/
def isLet (o : Option Nat) : Bool := match o with
  | none => false
  | some c => decide (c ∈ L14)
def s_isLetter : xSp := fun ad h av Q => ∃ o : Option Nat, av = [.int (optI o)] ∧ (∀ v, o = some v → v < 256) ∧ Q (some (.int (bI (isLet o)))) ad h
theorem char_ok {c : Nat} (h : c < 256) : ((nI c).toUInt32 % 65536).toInt32 = nI c := by
  rw [pk_char, pk_tn (by omega), Nat.mod_eq_of_lt (by omega)]
set_option maxRecDepth 100000 in
theorem c_X5_isLetter : Ct yX5_isLetter cX5_isLetter 1 (some .boolean) (xrm 4 0 0) s_isLetter := by
  refine Ct.of (by decide) ?_
  intro p l e s m args below meth c0 G ad h av Q F hsp
  obtain ⟨o, rfl, ho, hQ⟩ := hsp
  refine ⟨x_ent rfl rfl, ?_⟩
  refine x_ls [(0, .int (optI o))] rfl ?_
  refine x_iload_n (q := 1) F dX5_isLetter_0 rfl rfl ?_
  cases o with
  | none =>
    refine x_if_lt (q := 4) F 18 dX5_isLetter_1 (by decide) rfl (fun c1 => ?_) (fun c1 => ?_)
    · refine x_iconst (q := 19) (v := 0) F dX5_isLetter_18 rfl (by decide) ?_
      refine x_zret F dX5_isLetter_19 (xle rfl) (xle rfl) (by first | exact Or.inl rfl | exact Or.inr rfl) ?_
      exact hQ
    · exact absurd (by decide) c1
  | some c =>
    have hc : c < 256 := ho c rfl
    refine x_if_lt (q := 4) F 18 dX5_isLetter_1 (by decide) rfl (fun c1 => ?_) (fun c1 => ?_)
    · exact absurd c1 (nI_pos (by omega))
    · refine x_ldcS (q := 6) F dX5_isLetter_4 rfl ?_
      refine x_iload_n (q := 7) F dX5_isLetter_6 rfl rfl ?_
      refine x_i2c (q := 8) F dX5_isLetter_7 rfl ?_
      refine x_topi (y := nI c) (char_ok hc) ?_
      refine x_callK (q := 11) (rest := []) F [.int (nI c)] c_ix1 dX5_isLetter_8 rfl mv_J0_indexOf_0f7a4 ml_X5_67 rfl ⟨⟨xle rfl, xle rfl⟩, xle rfl, xle rfl⟩ rfl (xle rfl) rfl ⟨c, rfl, hc, fun x hx _ => ?_⟩
      have hQ : Q (some (.int (bI (decide (c ∈ L14))))) ad h := hQ
      rcases hx with ⟨h1, h2⟩ | ⟨h1, h2⟩
      · rw [show decide (c ∈ L14) = true from decide_eq_true h1] at hQ
        refine x_if_lt (q := 14) F 18 dX5_isLetter_11 (by decide) rfl (fun c11 => ?_) (fun c11 => ?_)
        · exact absurd c11 h2
        · refine x_iconst (q := 15) (v := 1) F dX5_isLetter_14 rfl (by decide) ?_
          refine x_goto F 19 dX5_isLetter_15 (by decide) ?_
          refine x_zret F dX5_isLetter_19 (xle rfl) (xle rfl) (by first | exact Or.inl rfl | exact Or.inr rfl) ?_
          exact hQ
      · rw [show decide (c ∈ L14) = false from decide_eq_false h1] at hQ
        subst h2
        refine x_if_lt (q := 14) F 18 dX5_isLetter_11 (by decide) rfl (fun c11 => ?_) (fun c11 => ?_)
        · refine x_iconst (q := 19) (v := 0) F dX5_isLetter_18 rfl (by decide) ?_
          refine x_zret F dX5_isLetter_19 (xle rfl) (xle rfl) (by first | exact Or.inl rfl | exact Or.inr rfl) ?_
          exact hQ
        · exact absurd (by decide) c11
