/-! ===== contracts of methods that may throw ===== -/
theorem xt_ise : ∀ w ∈ vx_atS RX6 86 "java/lang/IllegalStateException" ["java/lang/RuntimeException", "java/lang/Exception"], w ∈ xwd ∨ w ∈ xnw := by decide +kernel
theorem xt_aio : ∀ w ∈ vx_atS RX6 195 "java/lang/ArrayIndexOutOfBoundsException" ["java/lang/IndexOutOfBoundsException", "java/lang/RuntimeException", "java/lang/Exception"], w ∈ xwd ∨ w ∈ xnw := by decide +kernel
theorem xt_ise2 : ∀ w ∈ Cond.classLink RX6 82 "java/lang/IllegalStateException" :: Cond.initialized "java/lang/IllegalStateException" :: vx_atS RX6 86 "java/lang/IllegalStateException" ["java/lang/RuntimeException", "java/lang/Exception"], vx_ot w = true := by decide +kernel
theorem xt_aio2 : ∀ w ∈ Cond.classLink RX6 191 "java/lang/ArrayIndexOutOfBoundsException" :: Cond.initialized "java/lang/ArrayIndexOutOfBoundsException" :: vx_atS RX6 195 "java/lang/ArrayIndexOutOfBoundsException" ["java/lang/IndexOutOfBoundsException", "java/lang/RuntimeException", "java/lang/Exception"], vx_ot w = true := by decide +kernel
theorem xt_w1 : Cond.classLink RX6 82 "java/lang/IllegalStateException" ∈ xwd ∧ Cond.initialized "java/lang/IllegalStateException" ∈ xwd := by decide +kernel
theorem xt_w2 : Cond.classLink RX6 191 "java/lang/ArrayIndexOutOfBoundsException" ∈ xwd ∧ Cond.initialized "java/lang/ArrayIndexOutOfBoundsException" ∈ xwd := by decide +kernel
theorem xt_w3 : Cond.classLink RL 13 "java/lang/IllegalStateException" ∈ xwd ∧ Cond.castable "java/lang/IllegalStateException" "java/lang/IllegalStateException" ∈ xnw := by decide +kernel
theorem xt_w4 : Cond.classLink RL 19 "java/lang/ArrayIndexOutOfBoundsException" ∈ xwd ∧ Cond.castable "java/lang/ArrayIndexOutOfBoundsException" "java/lang/ArrayIndexOutOfBoundsException" ∈ xnw := by decide +kernel
theorem xnw_tab {w : Cond} (h : w ∈ xnw) : w.onTables = true := by
  have hn : xnest w = true := (List.mem_filter.mp h).2
  cases w <;> first | rfl | cases hn
theorem xnw_use {G : xG} {s : State} {args : Array Value} (hK : xK G s) {w : Cond} (h : w ∈ xnw) : w.before args s = true := va_Nw.use (xnw_tab h) (hK.2.1 w h)
abbrev xPx : Type := String → xAd → xH → Prop
abbrev xSx : Type := xAd → xH → List Value → xPq → xPx → Prop
def xXC (G : xG) (ad : xAd) (h : xH) (sz : Nat) (QX : xPx) : String → State → State → Prop := fun E st t =>
  (∃ (ad' : xAd) (h' : xH), QX E ad' h' ∧ xExt ad h ad' h' ∧ xR G ad' h' (xFr ad h sz) t.heap) ∧ va_F (xFr ad h sz) st t
/-- a contract of a method without a table: it returns, and Q; or it throws, and QX -/
def Cx (y : MethodName) (b : ByteArray) (n : Nat) (r : Option FieldType) (rm : Room) (sp : xSx) : Prop :=
  ∀ (l : Launch), l.stackTraces = false → ∀ (G : xG) (ad : xAd) (h : xH) (av : List Value) (Q : xPq) (QX : xPx) (sz : Nat), sp ad h av Q QX → vx_Met l y (xw y b n r) rm (xPre G ad h sz av) (xPost G ad h sz Q) (xXC G ad h sz QX) rm.cells rm.slots (xFr ad h sz)
def xZx (below : List Frame) (G : xG) (ad0 : xAd) (h0 : xH) (Q : xPq) (QX : xPx) (args : Array Value) (s : State) (R : Room) : State → Prop := vx_MQ below (xPost G ad0 h0 s.heap.size Q) (xXC G ad0 h0 s.heap.size QX) args s R.cells R.slots (xFr ad0 h0 s.heap.size)
theorem Cx.of {y : MethodName} {b : ByteArray} {n : Nat} {r : Option FieldType} {rm : Room} {sp : xSx} (hy : plainName y.cls = true)
    (body : ∀ (p : Program) (l : Launch) (e : Env) (s : State) (m : MethodId) (args : Array Value) (below : List Frame) (meth : Method) (c : Code) (G : xG) (ad : xAd) (h : xH) (av : List Value) (Q : xPq) (QX : xPx), l.stackTraces = false → (∀ x ∈ c.exceptionTable.toList, False) → xF p s m args meth c G ad h y.cls b n r y.name → sp ad h av Q QX →
      ((lg_sl av).length ≤ n ∧ ∀ q ∈ lv_args 0 av, q.2.category = 1) ∧ xX p l e rm s m args below meth c G ad h n (xZx below G ad h Q QX args s rm) 0 (lv_args 0 av) [] ad h 0 0) : Cx y b n r rm sp := by
  intro l hl G ad h av Q QX sz hsp
  refine vx_ofW (cc := b) (maxL := n) (ret := r) hy rfl ?_
  intro p e s m args below meth c s₁ B hml ht hv
  obtain ⟨rfl, hsz, hR, hK, hO⟩ := hv
  subst hsz
  have hts := atoms_spec (ws := xw y b n r) B.pre
  have hF : xF p s m av.toArray meth c G ad h y.cls b n r y.name := ⟨B.exec, B.bytes, hml, findClass_of_methodNamed B.named, fun w hw => hts w (List.mem_cons_of_mem _ hw), B.notSynchronized, hK, B.returns, (name_of_methodNamed B.named B.method).1, hO⟩
  obtain ⟨⟨h1, h2⟩, hX⟩ := body p l e s m av.toArray below meth c G ad h av Q QX hl ht hF hsp
  rw [lg_entry_eq]
  exact hX s.heap [] _ (hR.any fun t ht => Or.inl ⟨t, ht, rfl⟩) va_S.rf ⟨lv_entry av h1, h2⟩ xExt.rf
/-- a contract of a method with a table -/
def Cw (y : MethodName) (b : ByteArray) (n : Nat) (r : Option FieldType) (hh : List (Nat × Nat × Nat × Nat)) (rm : Room) (sp : xSp) : Prop :=
  ∀ (l : Launch), l.stackTraces = false → ∀ (G : xG) (ad : xAd) (h : xH) (av : List Value) (Q : xPq) (sz : Nat), sp ad h av Q → vx_Met l y (Cond.codeWith y b n r hh :: xwd) rm (xPre G ad h sz av) (xPost G ad h sz Q) (fun _ _ _ => False) rm.cells rm.slots (xFr ad h sz)
def xZw (below : List Frame) (G : xG) (ad0 : xAd) (h0 : xH) (Q : xPq) (args : Array Value) (s : State) (R : Room) : State → Prop := vx_MQ below (xPost G ad0 h0 s.heap.size Q) (fun _ _ _ => False) args s R.cells R.slots (xFr ad0 h0 s.heap.size)
theorem Cw.of {y : MethodName} {b : ByteArray} {n : Nat} {r : Option FieldType} {hh : List (Nat × Nat × Nat × Nat)} {rm : Room} {sp : xSp} (hy : plainName y.cls = true)
    (body : ∀ (p : Program) (l : Launch) (e : Env) (s : State) (m : MethodId) (args : Array Value) (below : List Frame) (meth : Method) (c : Code) (G : xG) (ad : xAd) (h : xH) (av : List Value) (Q : xPq), l.stackTraces = false → c.exceptionTable.toList = tableOf hh → xF p s m args meth c G ad h y.cls b n r y.name → sp ad h av Q →
      ((lg_sl av).length ≤ n ∧ ∀ q ∈ lv_args 0 av, q.2.category = 1) ∧ xX p l e rm s m args below meth c G ad h n (xZw below G ad h Q args s rm) 0 (lv_args 0 av) [] ad h 0 0) : Cw y b n r hh rm sp := by
  intro l hl G ad h av Q sz hsp
  refine vx_ofWH (cc := b) (maxL := n) (ret := r) (hh := hh) hy rfl ?_
  intro p e s m args below meth c s₁ B hml hv
  obtain ⟨rfl, hsz, hR, hK, hO⟩ := hv
  subst hsz
  have hts := atoms_spec (ws := Cond.codeWith y b n r hh :: xwd) B.pre
  have hF : xF p s m av.toArray meth c G ad h y.cls b n r y.name := ⟨B.exec, B.bytes, hml, findClass_of_methodNamed B.named, fun w hw => hts w (List.mem_cons_of_mem _ hw), B.notSynchronized, hK, B.returns, (name_of_methodNamed B.named B.method).1, hO⟩
  obtain ⟨⟨h1, h2⟩, hX⟩ := body p l e s m av.toArray below meth c G ad h av Q hl (vx_table (x := y) B (hts _ List.mem_cons_self)) hF hsp
  rw [lg_entry_eq]
  exact hX s.heap [] _ (hR.any fun t ht => Or.inl ⟨t, ht, rfl⟩) va_S.rf ⟨lv_entry av h1, h2⟩ xExt.rf
section XTHROW
variable {p : Program} {l : Launch} {e : Env} {R : Room} {s : State} {m : MethodId} {args : Array Value} {below : List Frame} {meth : Method} {c : Code} {G : xG} {ad0 : xAd} {h0 : xH} {nL : Nat} {Z : State → Prop} {pc : Nat} {ls : List (Nat × Value)} {st : List Value} {ad : xAd} {h : xH} {k n : Nat} {own : String} {cc : ByteArray} {r : Option FieldType} {nm : String}
theorem x_back {Q : xPq} {QX : xPx} (kk : xX p l e R s m args below meth c G ad0 h0 nL (xZ below G ad0 h0 Q args s R) pc ls st ad h k n) : xX p l e R s m args below meth c G ad0 h0 nL (xZx below G ad0 h0 Q QX args s R) pc ls st ad h k n := fun H locs la hR hS hL hE => vx_ret (kk H locs la hR hS hL hE)
theorem x_backW {Q : xPq} (kk : xX p l e R s m args below meth c G ad0 h0 nL (xZ below G ad0 h0 Q args s R) pc ls st ad h k n) : xX p l e R s m args below meth c G ad0 h0 nL (xZw below G ad0 h0 Q args s R) pc ls st ad h k n := fun H locs la hR hS hL hE => vx_ret (kk H locs la hR hS hL hE)
theorem xR.grow {A : Nat → Prop} {H H1 : Heap} (hR : xR G ad h A H) (hk : ∀ q : Nat, q < H.size → H1[q]? = H[q]?) : xR G ad h A H1 := ⟨fun t e ht => ⟨va_at.kept (hR.1 t e ht).1 (hk _ (va_at.lt (hR.1 t e ht).1)), (hR.1 t e ht).2⟩, hR.2⟩
theorem x_throwS (F : xF p s m args meth c G ad0 h0 own cc nL r nm) (hl : l.stackTraces = false) (hno : ∀ x ∈ c.exceptionTable.toList, False) {Q : xPq} {QX : xPx} {cls text : String} {names : List String} {ik is ic sa : Nat} (hcls : Bundle.fit cls = true) (hnames : ∀ n ∈ names, Bundle.fit n = true)
    (hw : Cond.classLink own ik cls ∈ xwd ∧ Cond.initialized cls ∈ xwd) (hstr : vk_R own is text sa s) (hat : ∀ w ∈ vx_atS own ic cls names, w ∈ xwd ∨ w ∈ xnw) (hgood : ∀ w ∈ Cond.classLink own ik cls :: Cond.initialized cls :: vx_atS own ic cls names, vx_ot w = true)
    (d0 : decode cc pc = .ok (.new ik, 3)) (d3 : decode cc (pc + 3) = .ok (.dup, 1)) (d4 : decode cc (pc + 4) = .ok (.ldc is, 2)) (d6 : decode cc (pc + 6) = .ok (.invokespecial ic, 3)) (d9 : decode cc (pc + 9) = .ok (.athrow, 1))
    (h1 : names.length + 3 < R.frames) (h2 : 13 * (names.length + 1) + 43 ≤ R.locals) (h3 : k + 1 ≤ R.cells) (h4 : n + 6 ≤ R.slots) (hq : QX cls ad h) : xX p l e R s m args below meth c G ad0 h0 nL (xZx below G ad0 h0 Q QX args s R) pc ls [] ad h k n := by
  intro H locs la hR hS hL hE
  refine vx_throwS F.1 F.2.1 hl F.2.2.2.1 hcls hnames (F.2.2.2.2.1 _ hw.1) (F.2.2.2.2.1 _ hw.2) hstr (fun w h => ?_) hgood F.2.2.2.2.2.2.2.2.2.2.2.2.2.2.1 F.2.2.2.2.2.2.2.2.2.2.2.2.2.2.2.1 hS (hL.1.1.trans F.2.2.1.symm) d0 d3 d4 d6 d9 (fun x hx => (hno x hx).elim) h1 (by show 0 + _ ≤ _; omega) h3 h4 F.2.2.2.2.2.1 (fun t _ hz hk => ⟨⟨ad, h, hq, hE, hR.grow hk⟩, Nat.le_trans hS.1 hz, fun q h1 h2 => (hk q (Nat.lt_of_lt_of_le h1 hS.1)).trans (hS.2.1 q h1 h2)⟩) (fun z hz => hS.2.2 z hz) h3 h4
  rcases hat w h with z | z
  · exact F.2.2.2.2.1 _ z
  · exact xnw_use F.2.2.2.2.2.2.1 z
/-- E is thrown over this frame -/
def xXT (p : Program) (l : Launch) (e : Env) (R : Room) (s : State) (m : MethodId) (args : Array Value) (below : List Frame) (meth : Method) (c : Code) (G : xG) (ad0 : xAd) (h0 : xH) (nL : Nat) (Z : State → Prop) (pc : Nat) (E : String) (ls : List (Nat × Value)) (ad : xAd) (h : xH) (k n : Nat) : Prop :=
  ∀ (H : Heap) (locs : List Loc) (la : Array Slot) (q9 : Addr) (ce : Cell) (rest : List Value), xR G ad h (xFr ad0 h0 s.heap.size) H → va_S (xFr ad0 h0 s.heap.size) s.heap H locs → xL la nL ls → xExt ad0 h0 ad h → H[q9]? = some ce → ce.vm = .none → s.vm.findClass E = some ce.cls → vx_W p l e R s m args below meth c H locs k n Z (F0 m pc la rest) q9
theorem x_catch (F : xF p s m args meth c G ad0 h0 own cc nL r nm) {E name : String} (x : ExceptionTableEntry) (ht : c.exceptionTable.toList = [x]) (hx : covers x pc = true) (h0' : x.catchType ≠ 0) (hw : Cond.classLink own x.catchType name ∈ xwd ∧ Cond.castable E name ∈ xnw) (kk : ∀ q9 : Nat, xX p l e R s m args below meth c G ad0 h0 nL Z x.handlerPc ls [.ref q9] ad h k n) : xXT p l e R s m args below meth c G ad0 h0 nL Z pc E ls ad h k n :=
  fun H locs la q9 ce rest hR hS hL hE hc hv hcl => xc_catch F.2.2.2.1 x ht hx h0' (F.2.2.2.2.1 _ hw.1) (xnw_use F.2.2.2.2.2.2.1 hw.2) hc hv hcl (kk q9 H locs la hR hS hL hE)
theorem x_contX {H : Heap} {locs : List Loc} {la : Array Slot} {st0 rest : List Value} {mc ms : Nat} {a : Array Value} (hR : xR G ad h (xFr ad0 h0 s.heap.size) H) (hS : va_S (xFr ad0 h0 s.heap.size) s.heap H locs) (hL : xL la nL ls) (hE : xExt ad0 h0 ad h)
    (hr : vx_Run p l e R s m args below meth c H locs k n mc ms (F0 m pc la st0) rest (xPost G ad h H.size (fun v ad' h' => xExt ad h ad' h' → xX p l e R s m args below meth c G ad0 h0 nL Z (pc + 3) ls (v.toList ++ rest) ad' h' (k + mc) (n + ms)) a) (xXC G ad h H.size (fun E ad' h' => xExt ad h ad' h' → xXT p l e R s m args below meth c G ad0 h0 nL Z pc E ls ad' h' (k + mc) (n + ms))) (xFr ad h H.size)) : W p l e R s m args below meth c H locs k n Z (F0 m pc la st0) := by
  intro T hT X
  have hfr := fun q hq => x_frame (ad := ad) (h := h) hR hS q hq
  have hcall : ∀ {T' t st₀ : State} {L : List Loc}, st₀.heap = H → T'.heap = t.heap → (∀ q ∈ L, xFr ad h H.size q.base) → va_F (xFr ad h H.size) st₀ t → va_S (xFr ad0 h0 s.heap.size) s.heap T'.heap (locs ++ L) := by
    intro T' t st₀ L hh0 e1 hLL ⟨hz, hk⟩
    rw [hh0] at hz hk
    refine ⟨Nat.le_trans hS.1 (by rw [e1]; exact hz), fun q h1 h2 => by rw [e1, hk q (Nat.lt_of_lt_of_le h1 hS.1) (fun z => h2 (hfr q z))]; exact hS.2.1 q h1 h2, fun q hq => ?_⟩
    rcases List.mem_append.mp hq with h | h
    · exact hS.2.2 q h
    · exact hfr _ (hLL q h)
  have hext : ∀ {ad' : xAd} {h' : xH}, xExt ad h ad' h' → xExt ad0 h0 ad' h' := fun z => hE.tr z
  rcases hr T hT X with ⟨v, st₀, t, T', L, hh0, X', hLL, e1, e2, ⟨⟨v', ad', h', hv, hQ, hE', hR'⟩, hF⟩, go⟩ | ⟨q, st₀, t, T', L, E, ce, hh0, X', hLL, e1, e2, ⟨⟨ad', h', hQ, hE', hR'⟩, hF⟩, hce, hcv, hcl, go⟩
  · cases hv
    obtain ⟨t2, a1, b1⟩ := hQ hE' T'.heap (locs ++ L) la (by rw [e1]; exact hR'.weaken hfr) (hcall hh0 e1 hLL hF) hL (hext hE') T' rfl X'
    exact ⟨t2, go t2 a1, b1⟩
  · obtain ⟨t2, a1, b1⟩ := hQ hE' T'.heap (locs ++ L) la q ce rest (by rw [e1]; exact hR'.weaken hfr) (hcall hh0 e1 hLL hF) hL (hext hE') (by rw [e1]; exact hce) hcv hcl T' rfl X'
    exact ⟨t2, go.trans a1, b1⟩
variable {y : MethodName} {b : ByteArray} {ml na idx : Nat} {ry : Option FieldType} {rm : Room} {As rest : List Value} {q : Nat}
theorem x_callX {sp : xSx} (F : xF p s m args meth c G ad0 h0 own cc nL r nm) (hls : l.stackTraces = false) (t : Tg) (As : List Value) {ci : Nat} {fs : List Value} {T : u_T} {N : Nat} (C : Cx y b ml ry rm sp) (hd : decode cc pc = .ok (.invokevirtual idx, 3)) (hp : pc + 3 = q) (hm : xMv y b ml ry na) (hl : Cond.methodLink own idx y ∈ xwd) (hf : xFit rm R ml k n) (hn : As.length = na) (hc : xcl[ci]? = some (y.cls, T, N)) (ht : h t = some (.inr (ci, fs))) (hroom : (rest.map fun v => v.category).sum ≤ 8) {st0 : List Value} (hst : st0 = As.reverse ++ .ref (ad t) :: rest)
    (kk : sp ad h (.ref (ad t) :: As) (fun v ad' h' => xExt ad h ad' h' → xX p l e R s m args below meth c G ad0 h0 nL Z q ls (v.toList ++ rest) ad' h' (k + rm.cells) (n + rm.slots)) (fun E ad' h' => xExt ad h ad' h' → xXT p l e R s m args below meth c G ad0 h0 nL Z pc E ls ad' h' (k + rm.cells) (n + rm.slots))) : xX p l e R s m args below meth c G ad0 h0 nL Z pc ls st0 ad h k n := by
  subst hp; subst hst
  intro H locs la hR hS hL hE
  refine x_contX hR hS hL hE (vx_runV (C := y.cls) ⟨F.1, F.2.1, F.2.2.1, F.2.2.2.1, F.2.2.2.2.1⟩ (C l hls G ad h _ _ _ H.size kk) ⟨x_callB F hm.1 hf hl, F.2.2.2.2.1 _ hm.2.1, F.2.2.2.2.1 _ hm.2.2⟩ ⟨xPre.blind, va_recv F.2.2.2.2.2.2.1.1 (hR.one ht) (ci := ci) (q0 := 0) hc rfl, fun U hU hW => ⟨rfl, by rw [hU], by rw [hU]; exact hR.any fun _ _ => trivial, xK.warm hW F.2.2.2.2.2.2.1, x_O F hR hS hU hW⟩⟩ rfl hn hL.1.1 rfl (lv_room hroom) hd hf.2)
theorem x_callW {sp : xSp} {hh : List (Nat × Nat × Nat × Nat)} (F : xF p s m args meth c G ad0 h0 own cc nL r nm) (hls : l.stackTraces = false) (As : List Value) (C : Cw y b ml ry hh rm sp) (hd : decode cc pc = .ok (.invokestatic idx, 3)) (hp : pc + 3 = q) (hm : Cond.codeWith y b ml ry hh ∈ xwd ∧ Cond.static y ∈ xwd ∧ Cond.initialized y.cls ∈ xwd) (hd2 : y.cls ≠ "java/lang/invoke/MethodHandle" ∧ y.cls ≠ "java/lang/invoke/VarHandle" ∧ (parseMethodDescriptor y.desc).map (fun d => d.parameters.length) = some na) (hl : Cond.methodLink own idx y ∈ xwd) (hf : xFit rm R ml k n) (hn : As.length = na) (hroom : (rest.map fun v => v.category).sum ≤ 8) {st0 : List Value} (hst : st0 = As.reverse ++ rest)
    (kk : sp ad h As (fun v ad' h' => xExt ad h ad' h' → xX p l e R s m args below meth c G ad0 h0 nL Z q ls (v.toList ++ rest) ad' h' (k + rm.cells) (n + rm.slots))) : xX p l e R s m args below meth c G ad0 h0 nL Z pc ls st0 ad h k n := by
  subst hp; subst hst
  intro H locs la hR hS hL hE
  have hr := vx_runSX (hh := hh) (bytes := b) (maxL := ml) (ret := ry) (index := idx) (As := As) (rest := rest) (g := F0 m pc la (As.reverse ++ rest)) (below := below) (p := p) (e := e) (R := R) (locs := locs) (H := H) (cells := k) (slots := n) (c := c) (meth := meth) (Ts := xwd) (own := own) (nL := nL) (cc := cc) (n := na) ⟨F.1, F.2.1, F.2.2.1, F.2.2.2.1, F.2.2.2.2.1⟩ (C l hls G ad h _ _ H.size kk) ⟨⟨rfl, rfl, hf.1.1, hf.1.2, pay_in F.2.2.2.2.1 (xwd_goodC hm.1), List.mem_cons_self⟩, F.2.2.2.2.1 _ hm.1, F.2.2.2.2.1 _ hm.2.2, ⟨hd2.1, hd2.2.1⟩, fun sig h => (by have h2 := hd2.2.2; rw [h] at h2; exact (Option.some.inj h2).symm), F.2.2.2.2.1 _ hl, F.2.2.2.2.1 _ hm.2.1⟩ ⟨xPre.blind, fun U hU hW => ⟨rfl, by rw [hU], by rw [hU]; exact hR.any fun _ _ => trivial, xK.warm hW F.2.2.2.2.2.2.1, x_O F hR hS hU hW⟩⟩ rfl hn hL.1.1 rfl (lv_room hroom) hd hf.2
  refine x_cont (mc := rm.cells) (ms := rm.slots) (a := As.toArray) (rest := rest) hR hS hL hE (fun T hT X => ?_)
  rcases hr T hT X with z | ⟨q, st₀, t, T', L, E, ce, hh0, X', hLL, e1, e2, hF, _⟩
  · exact z
  · exact hF.elim
end XTHROW
