/-! ===== the layer: a heap of named cells over the machine; a contract takes the heap whole ===== -/
def xcl : List vw_C := [(RX0, TX0, 2), (RX1, TX1, 3), (RX2, TX2, 6), (RX3, TX3, 9), (RX4, TX4, 5), (RX5, TX5, 5), (RX6, TX6, 10), (RX7, TX7, 32)]
def xty (ci k : Nat) : FieldType := match ci with
  | 0 => tyX0 k
  | 1 => tyX1 k
  | 2 => tyX2 k
  | 3 => tyX3 k
  | 4 => tyX4 k
  | 5 => tyX5 k
  | 6 => tyX6 k
  | _ => tyX7 k
def xgood (w : Cond) : Bool := (w.onTables && w.keeps) || (match w with | .arrayClass _ => true | _ => false)
def xwd : List Cond := lw_tbl.filter xgood
def xnest (w : Cond) : Bool := match w with
  | .fieldLinkNest .. => true
  | .methodLinkNest .. => true
  | .castable .. => true
  | .declares .. => true
  | _ => false
def xnw : List Cond := lw_tbl.filter xnest
theorem xgood_spec {w : Cond} (h : xgood w = true) : (w.onTables && w.keeps) = true ∨ ∃ ty, w = .arrayClass ty := by
  unfold xgood at h
  rcases Bool.or_eq_true _ _ ▸ h with h | h
  · exact Or.inl h
  · cases w <;> first | exact Or.inr ⟨_, rfl⟩ | cases h
theorem xwd_good : GoodIn xwd xwd := fun w h => ⟨h, xgood_spec (List.mem_filter.mp h).2⟩
theorem xwd_goodC {w : Cond} (h : w ∈ xwd) : GoodIn xwd (w :: xwd) := fun v hv => by
  rcases List.mem_cons.mp hv with rfl | hv
  · exact xwd_good _ h
  · exact xwd_good _ hv
abbrev Tg : Type := Nat × Nat
abbrev xE : Type := (Nat × vp_A) ⊕ (Nat × List Value)
abbrev xH : Type := Tg → Option xE
abbrev xAd : Type := Tg → Nat
/-- class numbers and slots; array classes; the String constants' places; the script: its place, length, ints -/
abbrev xG : Type := va_G × (Nat → ClassId) × ((Nat → Nat) × (Nat → Nat)) × (Nat × Nat × (Nat → Int32))
def xup (h : xH) (t : Tg) (e : xE) : xH := fun u => if u = t then some e else h u
def aup (ad : xAd) (t : Tg) (a : Nat) : xAd := fun u => if u = t then a else ad u
theorem xup_self (h : xH) (t : Tg) (e : xE) : xup h t e t = some e := if_pos rfl
theorem xup_ne (h : xH) {t u : Tg} (e : xE) (n : u ≠ t) : xup h t e u = h u := if_neg n
theorem aup_self (ad : xAd) (t : Tg) (a : Nat) : aup ad t a t = a := if_pos rfl
theorem aup_ne (ad : xAd) {t u : Tg} (a : Nat) (n : u ≠ t) : aup ad t a u = ad u := if_neg n
theorem xup_xup (h : xH) (t : Tg) (e f : xE) : xup (xup h t e) t f = xup h t f := by
  funext u
  unfold xup
  by_cases q : u = t
  · rw [if_pos q, if_pos q]
  · rw [if_neg q, if_neg q, if_neg q]
theorem xup_comm (h : xH) {t u : Tg} (e f : xE) (n : t ≠ u) : xup (xup h t e) u f = xup (xup h u f) t e := by
  funext v
  unfold xup
  by_cases q : v = u
  · rw [if_pos q, if_neg (fun z => n (z.symm.trans q)), if_pos q]
  · rw [if_neg q, if_neg q]
theorem xup_same (h : xH) {t : Tg} {e : xE} (q : h t = some e) : xup h t e = h := by
  funext v
  unfold xup
  by_cases z : v = t
  · rw [if_pos z, z, q]
  · rw [if_neg z]
def xe (G : xG) (e : xE) : va_E := match e with
  | .inl a => .inl (G.2.1 a.1, a.2)
  | .inr o => .inr o
def xR (G : xG) (ad : xAd) (h : xH) (A : Nat → Prop) (H : Heap) : Prop :=
  (∀ t e, h t = some e → va_at G.1 xcl (ad t, xe G e) H ∧ A (ad t)) ∧ ∀ t u, h t ≠ none → h u ≠ none → ad t = ad u → t = u
theorem xR.one {G : xG} {ad : xAd} {h : xH} {A : Nat → Prop} {H : Heap} (R : xR G ad h A H) {t : Tg} {e : xE} (ht : h t = some e) : va_P G.1 xcl [(ad t, xe G e)] H := by
  intro k q hk
  have hz : k < 1 := (List.getElem?_eq_some_iff.mp hk).1
  rw [show k = 0 by omega] at hk
  cases hk
  exact (R.1 t e ht).1
theorem xR.set {G : xG} {ad : xAd} {h : xH} {A : Nat → Prop} {H H1 : Heap} (R : xR G ad h A H) {t : Tg} {e0 e : xE} (ht : h t = some e0) (he : va_at G.1 xcl (ad t, xe G e) H1) (oq : ∀ q : Nat, q ≠ ad t → H1[q]? = H[q]?) : xR G ad (xup h t e) A H1 := by
  refine ⟨fun u f hu => ?_, fun u v hu hv huv => ?_⟩
  · by_cases q : u = t
    · subst q
      rw [xup_self] at hu
      cases hu
      exact ⟨he, (R.1 u e0 ht).2⟩
    · rw [xup_ne _ _ q] at hu
      obtain ⟨a, b⟩ := R.1 u f hu
      refine ⟨va_at.kept a (oq _ fun z => q (R.2 u t (by rw [hu]; exact fun z => by cases z) (by rw [ht]; exact fun z => by cases z) z)), b⟩
  · have key : ∀ w, xup h t e w ≠ none → h w ≠ none := by
      intro w hw
      by_cases q : w = t
      · rw [q, ht]; exact fun z => by cases z
      · rw [xup_ne _ _ q] at hw; exact hw
    exact R.2 u v (key u hu) (key v hv) huv
theorem xR.lt {G : xG} {ad : xAd} {h : xH} {A : Nat → Prop} {H : Heap} (R : xR G ad h A H) {t : Tg} (ht : h t ≠ none) : ad t < H.size := by
  cases q : h t with
  | none => exact absurd q ht
  | some e => exact va_at.lt (R.1 t e q).1
theorem xR.new {G : xG} {ad : xAd} {h : xH} {A : Nat → Prop} {H H1 : Heap} (R : xR G ad h A H) {t : Tg} {e : xE} (ht : h t = none) (he : va_at G.1 xcl (H.size, xe G e) H1) (oq : ∀ q : Nat, q < H.size → H1[q]? = H[q]?) (hA : A H.size) : xR G (aup ad t H.size) (xup h t e) A H1 := by
  have key : ∀ w, w ≠ t → xup h t e w ≠ none → ad w < H.size := by
    intro w q hw
    rw [xup_ne _ _ q] at hw
    exact R.lt hw
  refine ⟨fun u f hu => ?_, fun u v hu hv huv => ?_⟩
  · by_cases q : u = t
    · subst q
      rw [xup_self] at hu
      cases hu
      rw [aup_self]
      exact ⟨he, hA⟩
    · rw [xup_ne _ _ q] at hu
      rw [aup_ne _ _ q]
      obtain ⟨a, b⟩ := R.1 u f hu
      exact ⟨va_at.kept a (oq _ (va_at.lt a)), b⟩
  · by_cases q : u = t
    · by_cases q2 : v = t
      · rw [q, q2]
      · rw [q, aup_self, aup_ne _ _ q2] at huv
        exact absurd huv (Nat.ne_of_gt (key v q2 hv))
    · by_cases q2 : v = t
      · rw [q2, aup_self, aup_ne _ _ q] at huv
        exact absurd huv (Nat.ne_of_lt (key u q hu))
      · rw [aup_ne _ _ q, aup_ne _ _ q2] at huv
        rw [xup_ne _ _ q] at hu
        rw [xup_ne _ _ q2] at hv
        exact R.2 u v hu hv huv
theorem xR.weaken {G : xG} {ad : xAd} {h : xH} {A B : Nat → Prop} {H : Heap} (R : xR G ad h A H) (hAB : ∀ q, A q → B q) : xR G ad h B H := ⟨fun t e ht => ⟨(R.1 t e ht).1, hAB _ (R.1 t e ht).2⟩, R.2⟩
theorem xR.any {G : xG} {ad : xAd} {h : xH} {A B : Nat → Prop} {H : Heap} (R : xR G ad h A H) (hB : ∀ t, h t ≠ none → B (ad t)) : xR G ad h B H := ⟨fun t e ht => ⟨(R.1 t e ht).1, hB t (by rw [ht]; exact fun z => by cases z)⟩, R.2⟩
def xtys (g : Nat → ClassId) : List (ClassId × FieldType) := [(g 0, .int), (g 1, .byte), (g 2, .boolean), (g 3, .long), (g 4, .object RX4), (g 5, .object RX2)]
def xK (G : xG) (U : State) : Prop := va_K G.1 xcl (xtys G.2.1) U ∧ (∀ w ∈ xnw, va_Nw w U) ∧ va_AO RX4 U ∧ va_AO RX2 U
theorem xK.warm {G : xG} {s U : State} (hW : s.WarmedH U.vm) (h : xK G s) : xK G U := by
  refine ⟨va_K.moved hW.alike h.1, fun w hw => ?_, va_AO.moved hW.alike h.2.2.1, va_AO.moved hW.alike h.2.2.2⟩
  have hq := h.2.1 w hw
  have hn : xnest w = true := (List.mem_filter.mp hw).2
  cases w <;> first | exact va_Nw.warmF hW hq | exact va_Nw.warmM hW hq | exact va_Nw.warmC hW hq | exact va_Nw.warmD hW hq | cases hn
theorem xK.same {G : xG} {u U : State} (hv : u.vm = U.vm) (h : xK G u) : xK G U := by
  have ha : u.vm.Alike U.vm := by rw [hv]; exact Vm.Alike.refl _
  refine ⟨va_K.moved ha h.1, fun w hw => ?_, va_AO.moved ha h.2.2.1, va_AO.moved ha h.2.2.2⟩
  have hq := h.2.1 w hw
  have hn : xnest w = true := (List.mem_filter.mp hw).2
  cases w <;> first | exact va_Nw.same rfl hv hq | cases hn
def xlen : List Nat := [14, 19, 25]
def xbyt : List (List Int32) := [[114, 119, 97, 120, 115, 103, 105, 107, 106, 122, 101, 98, 102, 104], [116, 104, 101, 32, 115, 99, 114, 105, 112, 116, 32, 105, 115, 32, 119, 114, 111, 110, 103], [116, 104, 101, 32, 105, 116, 101, 109, 32, 104, 97, 115, 32, 110, 111, 32, 115, 117, 99, 104, 32, 98, 121, 116, 101]]
/-- what was there before and nobody writes: String constants, statics, the script -/
def xO (G : xG) (A : Nat → Prop) (U : State) (H : Heap) : Prop :=
  vk_S 3 xlen xbyt G.2.2.1.1 G.2.2.1.2 A U H ∧ vk_R RX5 65 "rwaxsgikjzebfh" (G.2.2.1.1 0) U ∧ vk_R RX6 84 "the script is wrong" (G.2.2.1.1 1) U ∧ vk_R RX6 193 "the item has no such byte" (G.2.2.1.1 2) U ∧
  va_Z "java/lang/String" "COMPACT_STRINGS" "Z" (.int 1) A U H ∧ vx_Zq "java/lang/Throwable" "UNASSIGNED_STACK" "[Ljava/lang/StackTraceElement;" A U H ∧ vx_Zq "java/lang/Throwable" "SUPPRESSED_SENTINEL" "Ljava/util/List;" A U H ∧
  va_X G.2.2.2.1 G.2.2.2.2.1 G.2.2.2.2.2 U H ∧ ¬ A G.2.2.2.1 ∧ G.2.2.2.1 < H.size
theorem xO.warm {G : xG} {A : Nat → Prop} {s U : State} {H : Heap} (hW : s.WarmedH U.vm) (h : xO G A s H) : xO G A U H := by
  obtain ⟨h1, h2, h3, h4, h5, h6, h7, h8, h9⟩ := h
  exact ⟨vk_S.moved hW.alike h1, vk_R.warm hW h2, vk_R.warm hW h3, vk_R.warm hW h4, va_Z.moved hW.alike h5, vx_Zq.moved hW.alike h6, vx_Zq.moved hW.alike h7, va_X.moved hW.alike h8, h9⟩
theorem xO.same {G : xG} {A : Nat → Prop} {u U : State} {H : Heap} (hv : u.vm = U.vm) (h : xO G A u H) : xO G A U H := by
  have ha : u.vm.Alike U.vm := by rw [hv]; exact Vm.Alike.refl _
  obtain ⟨h1, h2, h3, h4, h5, h6, h7, h8, h9⟩ := h
  exact ⟨vk_S.moved ha h1, vk_R.same hv.symm h2, vk_R.same hv.symm h3, vk_R.same hv.symm h4, va_Z.moved ha h5, vx_Zq.moved ha h6, vx_Zq.moved ha h7, va_X.moved ha h8, h9⟩
theorem xO.kept {G : xG} {A : Nat → Prop} {U : State} {H H1 : Heap} (hz : H.size ≤ H1.size) (hq : ∀ a : Nat, a < H.size → ¬ A a → H1[a]? = H[a]?) (h : xO G A U H) : xO G A U H1 := by
  obtain ⟨h1, h2, h3, h4, h5, h6, h7, h8, h9, h10⟩ := h
  exact ⟨h1.kept hq, h2, h3, h4, h5.kept hq, h6.kept hq, h7.kept hq, h8.kept (hq _ h10 h9), h9, Nat.lt_of_lt_of_le h10 hz⟩
theorem xO.narrow {G : xG} {A B : Nat → Prop} {U : State} {H : Heap} (hAB : ∀ q, B q → A q) (h : xO G A U H) : xO G B U H := by
  obtain ⟨h1, h2, h3, h4, h5, h6, h7, h8, h9, h10⟩ := h
  exact ⟨h1.narrow hAB, h2, h3, h4, h5.narrow hAB, h6.narrow hAB, h7.narrow hAB, h8, fun z => h9 (hAB _ z), h10⟩
/-- which cells a method may change: the heap's named cells, and what it makes -/
def xFr (ad : xAd) (h : xH) (sz : Nat) : Nat → Prop := fun q => (∃ t, h t ≠ none ∧ ad t = q) ∨ sz ≤ q
/-- no cell is dropped, none moves -/
def xExt (ad : xAd) (h : xH) (ad' : xAd) (h' : xH) : Prop := ∀ u, h u ≠ none → h' u ≠ none ∧ ad' u = ad u
theorem xExt.rf {ad : xAd} {h : xH} : xExt ad h ad h := fun _ q => ⟨q, rfl⟩
theorem xExt.tr {ad ad1 ad2 : xAd} {h h1 h2 : xH} (a : xExt ad h ad1 h1) (b : xExt ad1 h1 ad2 h2) : xExt ad h ad2 h2 := fun u q => ⟨(b u (a u q).1).1, (b u (a u q).1).2.trans (a u q).2⟩
theorem xup_live {h : xH} {t : Tg} {e : xE} {u : Tg} (q : h u ≠ none) : xup h t e u ≠ none := by
  unfold xup
  by_cases z : u = t
  · rw [if_pos z]; exact fun q => by cases q
  · rw [if_neg z]; exact q
theorem xExt.up {ad : xAd} {h : xH} {t : Tg} {e : xE} : xExt ad h ad (xup h t e) := fun _ q => ⟨xup_live q, rfl⟩
theorem xExt.new {ad : xAd} {h : xH} {t : Tg} {e : xE} {a : Nat} (ht : h t = none) : xExt ad h (aup ad t a) (xup h t e) := fun u q => ⟨xup_live q, aup_ne _ _ fun z => q (z ▸ ht)⟩
abbrev xPq : Type := Option Value → xAd → xH → Prop
abbrev xSp : Type := xAd → xH → List Value → xPq → Prop
def xPre (G : xG) (ad : xAd) (h : xH) (sz : Nat) (av : List Value) : Array Value → State → Prop := va_Pc av (fun U => U.heap.size = sz ∧ xR G ad h (fun _ => True) U.heap ∧ xK G U ∧ xO G (xFr ad h sz) U U.heap)
def xPost (G : xG) (ad : xAd) (h : xH) (sz : Nat) (Q : xPq) : Array Value → State → Outcome → State → Prop := fun _ st oc t =>
  (∃ (v : Option Value) (ad' : xAd) (h' : xH), oc = .returned v ∧ Q v ad' h' ∧ xExt ad h ad' h' ∧ xR G ad' h' (xFr ad h sz) t.heap) ∧ va_F (xFr ad h sz) st t
def xw (y : MethodName) (b : ByteArray) (n : Nat) (r : Option FieldType) : List Cond := Cond.code y b n r :: xwd
/-- a method's contract: from every heap where 'sp' can pay Q, the method returns and Q holds -/
def Ct (y : MethodName) (b : ByteArray) (n : Nat) (r : Option FieldType) (rm : Room) (sp : xSp) : Prop :=
  ∀ (l : Launch) (G : xG) (ad : xAd) (h : xH) (av : List Value) (Q : xPq) (sz : Nat), sp ad h av Q → Met l y (xw y b n r) rm (xPre G ad h sz av) (xPost G ad h sz Q) rm.cells rm.slots (xFr ad h sz)
theorem xPre.blind {G : xG} {ad : xAd} {h : xH} {sz : Nat} {av : List Value} : FrameBlind (xPre G ad h sz av) := fun a U g mk q => ⟨q.1, q.2.1, q.2.2.1, xK.same (u := U) (U := U.calling g mk a) rfl q.2.2.2.1, xO.same (u := U) (U := U.calling g mk a) rfl q.2.2.2.2⟩
/-- the locals: held, one slot each -/
def xL (la : Array Slot) (nL : Nat) (ls : List (Nat × Value)) : Prop := lv_has la nL ls ∧ ∀ q ∈ ls, q.2.category = 1
theorem x_lkm {ls : List (Nat × Value)} {i : Nat} {v : Value} (h : ls.lookup i = some v) : (i, v) ∈ ls := by
  induction ls with
  | nil => cases h
  | cons a l ih =>
    obtain ⟨j, w⟩ := a
    rw [List.lookup_cons] at h
    by_cases q : i = j
    · subst q
      simp at h
      subst h
      exact List.mem_cons_self
    · have : (i == j) = false := by simpa using q
      rw [this] at h
      exact List.mem_cons_of_mem _ (ih h)
theorem xL.at {la : Array Slot} {nL : Nat} {ls : List (Nat × Value)} (h : xL la nL ls) {i : Nat} {v : Value} (hl : ls.lookup i = some v) : la[i]? = some (.val v) := h.1.2.2 (i, v) (x_lkm hl)
def xst (ls : List (Nat × Value)) (i : Nat) (v : Value) : List (Nat × Value) := (i, v) :: ls.filter (fun q => !(q.1 == i))
theorem xst_eq {ls : List (Nat × Value)} (h : ∀ q ∈ ls, q.2.category = 1) (i : Nat) (v : Value) : (i, v) :: ls.filter (fun q => !(q.1 == i) && !(q.1 + 1 == i && q.2.category == 2)) = xst ls i v := by
  unfold xst
  congr 1
  refine List.filter_congr fun q hq => ?_
  rw [h q hq]
  simp
theorem xst_cat {ls : List (Nat × Value)} (h : ∀ q ∈ ls, q.2.category = 1) (i : Nat) {v : Value} (hv : v.category = 1) : ∀ q ∈ xst ls i v, q.2.category = 1 := by
  intro q hq
  rcases List.mem_cons.mp hq with rfl | hq
  · exact hv
  · exact h q (List.mem_filter.mp hq).1
theorem xL.sub {la : Array Slot} {nL : Nat} {ls ls' : List (Nat × Value)} (h : xL la nL ls) (e : ls'.map (fun q => ls.lookup q.1) = ls'.map (fun q => some q.2)) : xL la nL ls' := by
  have key : ∀ q ∈ ls', (q.1, q.2) ∈ ls := by
    intro q hq
    refine x_lkm ?_
    exact List.map_inj_left.mp e q hq
  exact ⟨⟨h.1.1, h.1.2.1, fun q hq => h.1.2.2 q (key q hq)⟩, fun q hq => h.2 q (key q hq)⟩
/-- the machine at pc, with these locals, this stack and this named heap, comes to a state with Z -/
def xX (p : Program) (l : Launch) (e : Env) (R : Room) (s : State) (m : MethodId) (args : Array Value) (below : List Frame) (meth : Method) (c : Code) (G : xG) (ad0 : xAd) (h0 : xH) (nL : Nat) (Z : State → Prop) (pc : Nat) (ls : List (Nat × Value)) (st : List Value) (ad : xAd) (h : xH) (k n : Nat) : Prop :=
  ∀ (H : Heap) (locs : List Loc) (la : Array Slot), xR G ad h (xFr ad0 h0 s.heap.size) H → va_S (xFr ad0 h0 s.heap.size) s.heap H locs → xL la nL ls → xExt ad0 h0 ad h → W p l e R s m args below meth c H locs k n Z (F0 m pc la st)
/-- what a method knows of the machine -/
def xF (p : Program) (s : State) (m : MethodId) (args : Array Value) (meth : Method) (c : Code) (G : xG) (ad0 : xAd) (h0 : xH) (own : String) (cc : ByteArray) (nL : Nat) (r : Option FieldType) (nm : String) : Prop :=
  p.tables.exec = Jvm.exec ∧ c.code = cc ∧ c.maxLocals = nL ∧ s.vm.findClass own = some m.cls ∧ (∀ w ∈ xwd, w.before args s = true) ∧ meth.locks = false ∧ xK G s ∧ meth.sig.returnType = r ∧ meth.name = nm ∧ xO G (xFr ad0 h0 s.heap.size) s s.heap
def xZ (below : List Frame) (G : xG) (ad0 : xAd) (h0 : xH) (Q : xPq) (args : Array Value) (s : State) (R : Room) : State → Prop := MQ below (xPost G ad0 h0 s.heap.size Q) args s R.cells R.slots (xFr ad0 h0 s.heap.size)
theorem Ct.of {y : MethodName} {b : ByteArray} {n : Nat} {r : Option FieldType} {rm : Room} {sp : xSp} (hy : plainName y.cls = true)
    (body : ∀ (p : Program) (l : Launch) (e : Env) (s : State) (m : MethodId) (args : Array Value) (below : List Frame) (meth : Method) (c : Code) (G : xG) (ad : xAd) (h : xH) (av : List Value) (Q : xPq), xF p s m args meth c G ad h y.cls b n r y.name → sp ad h av Q →
      ((lg_sl av).length ≤ n ∧ ∀ q ∈ lv_args 0 av, q.2.category = 1) ∧ xX p l e rm s m args below meth c G ad h n (xZ below G ad h Q args s rm) 0 (lv_args 0 av) [] ad h 0 0) : Ct y b n r rm sp := by
  intro l G ad h av Q sz hsp
  refine Met.ofW (cc := b) (maxL := n) (ret := r) hy rfl ?_
  intro p e s m args below meth c s₁ B hml hv
  obtain ⟨rfl, hsz, hR, hK, hO⟩ := hv
  subst hsz
  have hts := atoms_spec (ws := xw y b n r) B.pre
  have hF : xF p s m av.toArray meth c G ad h y.cls b n r y.name := ⟨B.exec, B.bytes, hml, findClass_of_methodNamed B.named, fun w hw => hts w (List.mem_cons_of_mem _ hw), B.notSynchronized, hK, B.returns, (name_of_methodNamed B.named B.method).1, hO⟩
  obtain ⟨⟨h1, h2⟩, hX⟩ := body p l e s m av.toArray below meth c G ad h av Q hF hsp
  rw [lg_entry_eq]
  exact hX s.heap [] _ (hR.any fun t ht => Or.inl ⟨t, ht, rfl⟩) va_S.rf ⟨lv_entry av h1, h2⟩ xExt.rf
