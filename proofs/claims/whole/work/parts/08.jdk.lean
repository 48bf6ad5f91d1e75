/-! ===== rows for System.arraycopy, clone() and checkcast of int arrays ===== -/
section XJDK
variable {p : Program} {l : Launch} {e : Env} {R : Room} {s : State} {m : MethodId} {args : Array Value} {below : List Frame} {meth : Method} {c : Code} {G : xG} {ad0 : xAd} {h0 : xH} {nL : Nat} {Z : State → Prop} {pc : Nat} {ls : List (Nat × Value)} {st : List Value} {ad : xAd} {h : xH} {k n : Nat} {own : String} {cc : ByteArray} {r : Option FieldType} {nm : String}
theorem x_arraycopy (F : xF p s m args meth c G ad0 h0 own cc nL r nm) {t u : Tg} {n0 n1 sp dp w idx : Nat} {x y z : Int32} {f g : Nat → Int32} {q : Nat} (hd : decode cc pc = .ok (.invokestatic idx, 3)) (hp : pc + 3 = q) (hw : Cond.methodLink own idx arraycopyName ∈ xwd ∧ Cond.native arraycopyName ∈ xwd ∧ Cond.static arraycopyName ∈ xwd ∧ Cond.initialized "java/lang/System" ∈ xwd) (ht : h t = some (.inl (0, n0, .inl f))) (hu : h u = some (.inl (0, n1, .inl g)))
    (hx : x = nI sp) (hy : y = nI dp) (hz : z = nI w) (h1 : sp + w ≤ n0) (h2 : dp + w ≤ n1) (h3 : n0 < 2 ^ 31) (h4 : n1 < 2 ^ 31) (hfr : 1 ≤ R.frames) (hlo : (st.map fun v => v.category).sum + (nativeFrameWords "java/lang/System" "arraycopy" 5 + 11) ≤ R.locals)
    (kk : xX p l e R s m args below meth c G ad0 h0 nL Z q ls st ad (xup h u (.inl (0, n1, .inl (va_cpy f g sp dp w)))) k n) : xX p l e R s m args below meth c G ad0 h0 nL Z pc ls (.int z :: .int y :: .ref (ad u) :: .int x :: .ref (ad t) :: st) ad h k n := by
  subst hp; subst hx; subst hy; subst hz
  intro H locs la hR hS hL hE
  have hts := F.2.2.2.2.1
  have hK := F.2.2.2.2.2.2.1.1
  intro T hT X
  have hc0 : H[ad t]? = some (vp_cell (G.2.1 0) (n0, .inl f)) := (hR.1 t _ ht).1
  have hc1 : H[ad u]? = some (vp_cell (G.2.1 0) (n1, .inl g)) := (hR.1 u _ hu).1
  obtain ⟨-, k0, hk0, cm0, hkk0⟩ := (hK.2 0 _ rfl).1 n0 (fun j => .int (f j))
  obtain ⟨-, k1, hk1, cm1, hkk1⟩ := (hK.2 0 _ rfl).1 n1 (fun j => .int (g j))
  have c1 : (nI sp).toNatClampNeg = sp := nI_clamp (by omega)
  have c2 : (nI dp).toNatClampNeg = dp := nI_clamp (by omega)
  have c3 : (nI w).toNatClampNeg = w := nI_clamp (by omega)
  have t1 : (nI sp).toInt = (sp : Int) := nI_toInt (by omega)
  have t2 : (nI dp).toInt = (dp : Int) := nI_toInt (by omega)
  have t3 : (nI w).toInt = (w : Int) := nI_toInt (by omega)
  obtain ⟨vm', X', step⟩ := X.arraycopy F.1 F.2.2.2.1 (hts _ hw.1) (hts _ hw.2.1) (hts _ hw.2.2.1) (hts _ hw.2.2.2) (src := ad t) (dst := ad u) (cs := vp_cell (G.2.1 0) (n0, .inl f)) (cd := vp_cell (G.2.1 0) (n1, .inl g)) (srcPos := nI sp) (destPos := nI dp) (n := nI w) (by rw [hT]; exact hc0) (by rw [hT]; exact hc1)
    (fun _ h => by cases h) (fun _ h => by cases h) (fun h => by cases h) (fun h => by cases h) hk0 hk1 hkk0 hkk1 rfl (nI_pos (by omega)) (nI_pos (by omega)) (nI_pos (by omega))
    (by rw [t1, t3]; show ¬ _ > ((arrV (G.2.1 0) n0 (fun j => .int (f j))).slots.size : Int); rw [arrV_size]; omega)
    (by rw [t2, t3]; show ¬ _ > ((arrV (G.2.1 0) n1 (fun j => .int (g j))).slots.size : Int); rw [arrV_size]; omega)
    (fun vm₁ _ i hi => by
      rw [c3] at hi
      rw [c1]
      have e : (vp_cell (G.2.1 0) (n0, .inl f)).slots.getD (sp + i) .null = .int (f (sp + i)) := by
        show (arrV (G.2.1 0) n0 (fun j => .int (f j))).slots.getD _ _ = _
        rw [Array.getD_eq_getD_getElem?, arrV_read _ _ (by omega)]
        rfl
      refine ⟨?_, ?_⟩
      · rw [e]
        rfl
      · rw [e]
        exact trivial)
    (g := F0 m pc la (.int (nI w) :: .int (nI dp) :: .ref (ad u) :: .int (nI sp) :: .ref (ad t) :: st)) rfl (by rw [F.2.2.1]; exact hL.1.1) (rest := st) rfl (by rw [F.2.1]; exact hd) hfr (by show 2 * 0 + _ + _ ≤ _; omega)
  have e1 : copied (vp_cell (G.2.1 0) (n0, .inl f)) (vp_cell (G.2.1 0) (n1, .inl g)) (nI sp) (nI dp) (nI w) = vp_cell (G.2.1 0) (n1, .inl (va_cpy f g sp dp w)) := by
    have := va_copied (fun z => .int z) (G.2.1 0) (G.2.1 0) (sp := (nI sp).toNatClampNeg) (dp := (nI dp).toNatClampNeg) (n := (nI w).toNatClampNeg) (n0 := n0) (n1 := n1) f g (by rw [c1, c3]; exact h1)
    rw [c1, c2, c3] at this
    unfold copied
    rw [c1, c2, c3]
    exact this
  rw [e1] at X' step
  have hl : ad u < H.size := (Array.getElem?_eq_some_iff.mp hc1).1
  have hheap : ((T.setVm vm').setCell (ad u) (vp_cell (G.2.1 0) (n1, .inl (va_cpy f g sp dp w)))).heap = H.setIfInBounds (ad u) (vp_cell (G.2.1 0) (n1, .inl (va_cpy f g sp dp w))) := by rw [← hT]; rfl
  have oq : ∀ q : Nat, q ≠ ad u → (H.setIfInBounds (ad u) (vp_cell (G.2.1 0) (n1, .inl (va_cpy f g sp dp w))))[q]? = H[q]? := fun q hq => by simp [Array.getElem?_setIfInBounds, Ne.symm hq]
  obtain ⟨t', a1, b1⟩ := kk _ _ la (hR.set hu (show (H.setIfInBounds (ad u) _)[ad u]? = some _ by simp [Array.getElem?_setIfInBounds, hl, xe]) oq) ⟨by simp; exact hS.1, fun q g1 g2 => by
      rw [oq q (fun e => g2 (by rw [e]; exact (hR.1 u _ hu).2))]
      exact hS.2.1 q g1 g2, fun q hq => by
      rcases List.mem_append.mp hq with h | h
      · exact hS.2.2 q h
      · obtain ⟨z, -, hz⟩ := List.mem_map.mp h
        rw [← hz]
        exact (hR.1 u _ hu).2⟩ hL (hE.tr xExt.up) _ hheap X'
  exact ⟨t', step t' a1, b1⟩
theorem x_clone (F : xF p s m args meth c G ad0 h0 own cc nL r nm) (u : Tg) {t : Tg} {N idx : Nat} {f : Nat → Int32} {q : Nat} (hd : decode cc pc = .ok (.invokevirtual idx, 3)) (hp : pc + 3 = q)
    (hw : Cond.methodLink own idx ⟨"[I", "clone", "()Ljava/lang/Object;"⟩ ∈ xwd ∧ Cond.sameMethod "[I" "java/lang/Object" "clone" "()Ljava/lang/Object;" ∈ xwd ∧ Cond.native ⟨"java/lang/Object", "clone", "()Ljava/lang/Object;"⟩ ∈ xwd ∧ Cond.instanceMethod ⟨"java/lang/Object", "clone", "()Ljava/lang/Object;"⟩ ∈ xwd ∧ Cond.selects "[I" ⟨"[I", "clone", "()Ljava/lang/Object;"⟩ ⟨"java/lang/Object", "clone", "()Ljava/lang/Object;"⟩ ∈ xwd) (hcl : Cond.castable "[I" "java/lang/Cloneable" ∈ xnw)
    (ht : h t = some (.inl (0, N, .inl f))) (hu : h u = none) (hfr : 1 ≤ R.frames) (hlo : (st.map fun v => v.category).sum + 14 ≤ R.locals) (h1 : k + 1 ≤ R.cells) (h2 : n + N ≤ R.slots)
    (kk : ∀ ad' : xAd, (∀ v, v ≠ u → ad' v = ad v) → xX p l e R s m args below meth c G ad0 h0 nL Z q ls (.ref (ad' u) :: st) ad' (xup h u (.inl (0, N, .inl f))) (k + 1) (n + N)) : xX p l e R s m args below meth c G ad0 h0 nL Z pc ls (.ref (ad t) :: st) ad h k n := by
  subst hp
  intro H locs la hR hS hL hE
  have hts := F.2.2.2.2.1
  have hK := F.2.2.2.2.2.2.1.1
  have hnm : s.vm.findClass "[I" = some (G.2.1 0) := (hK.2 0 _ rfl).2
  obtain ⟨c0, t0', f1, f2, f3⟩ := Cond.castable_spec (va_Nw.use (A := args) rfl (F.2.2.2.2.2.2.1.2.1 _ hcl))
  cases hnm.symm.trans f1
  intro T hT X
  have hcellT : T.heap[ad t]? = some (vp_cell (G.2.1 0) (N, .inl f)) := by rw [hT]; exact (hR.1 t _ ht).1
  obtain ⟨-, kA, hkA, comp, hkind⟩ := State.isArrayOf_alike X.warmed.alike ((hK.2 0 _ rfl).1 0 (fun _ => .null))
  obtain ⟨-, kS, hkS, compS, hkindS⟩ := (hK.2 0 _ rfl).1 0 (fun _ => .null)
  have hsz : (vp_cell (G.2.1 0) (N, .inl f)).slots.size = N := arrV_size _ _ _
  obtain ⟨vm', X', step⟩ := X.cloneArray F.1 F.2.2.2.1 (hts _ hw.1) (hts _ hw.2.1) (hts _ hw.2.2.1) (hts _ hw.2.2.2.1) (hts _ hw.2.2.2.2) (a := ad t) (cell := vp_cell (G.2.1 0) (N, .inl f)) hcellT (fun k h => by cases h) (fun h => by cases h) hnm f2 f3
    (fun i v hv => by
      have hk' : T.vm.classes[G.2.1 0]? = some kA := hkA
      have hi : i < N := by have := (Array.getElem?_eq_some_iff.mp hv).1; rw [hsz] at this; exact this
      have hv' : (arrV (G.2.1 0) N (fun j => .int (f j))).slots[i]? = some v := hv
      rw [arrV_read _ _ hi] at hv'
      cases hv'
      show T.fitsSlot (G.2.1 0) .none i (.int (f i)) = true
      simp [State.fitsSlot, State.slotType?, hk', hkind, fits])
    (g := F0 m pc la (.ref (ad t) :: st)) rfl (by rw [F.2.2.1]; exact hL.1.1) rfl (by rw [F.2.1]; exact hd) hfr (by show 2 * 0 + _ + 14 ≤ _; omega) h1 (by rw [hsz]; exact h2) (hloader := Vm.clonesLoader_of_array hkS hkindS)
  rw [hsz] at X'
  generalize hH1 : H.push (vp_cell (G.2.1 0) (N, .inl f)) = H1
  have z1 : H1.size = H.size + 1 := by rw [← hH1, Array.size_push]
  have e1 : H1[H.size]? = some (vp_cell (G.2.1 0) (N, .inl f)) := by rw [← hH1, Array.getElem?_push_size]
  have o1 : ∀ q : Nat, q < H.size → H1[q]? = H[q]? := fun q hq => by rw [← hH1, Array.getElem?_push, if_neg (Nat.ne_of_lt hq)]
  have hR' := hR.new (e := .inl (0, N, .inl f)) hu (show H1[H.size]? = some (vp_cell _ _) from e1) o1 (x_A hS)
  have hX := kk (aup ad u H.size) (fun v hv => aup_ne _ _ hv) H1 locs la hR' (x_Snew hS z1 o1) hL (hE.tr (xExt.new hu))
  rw [aup_self] at hX
  obtain ⟨t', b1, b2⟩ := hX ((T.setVm vm').pushCell (vp_cell (G.2.1 0) (N, .inl f))) (by rw [← hH1, ← hT]; rfl) X'
  refine ⟨t', step t' ?_, b2⟩
  rw [hT]
  exact b1
theorem x_castI (F : xF p s m args meth c G ad0 h0 own cc nL r nm) {t : Tg} {a : vp_A} {idx : Nat} {q : Nat} (hd : decode cc pc = .ok (.checkcast idx, 3)) (hp : pc + 3 = q) (hw : Cond.classLink own idx "[I" ∈ xwd) (ht : h t = some (.inl (0, a))) (kk : xX p l e R s m args below meth c G ad0 h0 nL Z q ls (.ref (ad t) :: st) ad h k n) : xX p l e R s m args below meth c G ad0 h0 nL Z pc ls (.ref (ad t) :: st) ad h k n := by
  subst hp
  intro H locs la hR hS hL hE
  exact va_castA F.1 F.2.1 F.2.2.2.1 (F.2.2.2.2.1 _ hw) (hR.one ht) 0 rfl (F.2.2.2.2.2.2.1.1.2 0 _ rfl).2 hd (kk H locs la hR hS hL hE)
theorem x_mmin (F : xF p s m args meth c G ad0 h0 own cc nL r nm) {x y : Int32} {idx q : Nat} (hd : decode cc pc = .ok (.invokestatic idx, 3)) (hp : pc + 3 = q) (hl : Cond.methodLink own idx Lib.Math.min.name ∈ xwd) (hw : Cond.static Lib.Math.min.name ∈ xwd ∧ Cond.initialized "java/lang/Math" ∈ xwd ∧ Cond.code Lib.Math.min.name Lib.Math.min.code 2 (some .int) ∈ xwd) (hfr : 1 ≤ R.frames) (hlo : (st.map fun v => v.category).sum + 13 ≤ R.locals) (h1 : k ≤ R.cells) (h2 : n ≤ R.slots) (kk : xX p l e R s m args below meth c G ad0 h0 nL Z q ls (.int (if y < x then y else x) :: st) ad h k n) : xX p l e R s m args below meth c G ad0 h0 nL Z pc ls (.int y :: .int x :: st) ad h k n := by
  subst hp
  intro H locs la hR hS hL hE
  exact va_mmin F.1 F.2.1 (F.2.2.1.trans hL.1.1.symm) F.2.2.2.1 (F.2.2.2.2.1 _ hl) (F.2.2.2.2.1 _ hw.1) (F.2.2.2.2.1 _ hw.2.1) (F.2.2.2.2.1 _ hw.2.2) hfr hlo h1 h2 hd (kk H locs la hR hS hL hE)
theorem x_mmax (F : xF p s m args meth c G ad0 h0 own cc nL r nm) {x y : Int32} {idx q : Nat} (hd : decode cc pc = .ok (.invokestatic idx, 3)) (hp : pc + 3 = q) (hl : Cond.methodLink own idx Lib.Math.max.name ∈ xwd) (hw : Cond.static Lib.Math.max.name ∈ xwd ∧ Cond.initialized "java/lang/Math" ∈ xwd ∧ Cond.code Lib.Math.max.name Lib.Math.max.code 2 (some .int) ∈ xwd) (hfr : 1 ≤ R.frames) (hlo : (st.map fun v => v.category).sum + 13 ≤ R.locals) (h1 : k ≤ R.cells) (h2 : n ≤ R.slots) (kk : xX p l e R s m args below meth c G ad0 h0 nL Z q ls (.int (if x < y then y else x) :: st) ad h k n) : xX p l e R s m args below meth c G ad0 h0 nL Z pc ls (.int y :: .int x :: st) ad h k n := by
  subst hp
  intro H locs la hR hS hL hE
  exact va_mmax F.1 F.2.1 (F.2.2.1.trans hL.1.1.symm) F.2.2.2.1 (F.2.2.2.2.1 _ hl) (F.2.2.2.2.1 _ hw.1) (F.2.2.2.2.1 _ hw.2.1) (F.2.2.2.2.1 _ hw.2.2) hfr hlo h1 h2 hd (kk H locs la hR hS hL hE)
end XJDK
theorem mw_min : Cond.static Lib.Math.min.name ∈ xwd ∧ Cond.initialized "java/lang/Math" ∈ xwd ∧ Cond.code Lib.Math.min.name Lib.Math.min.code 2 (some .int) ∈ xwd := ⟨xwd_in (xm1 (j := 77) rfl) rfl, xwd_in (xm1 (j := 5) rfl) rfl, xwd_in (xm1 (j := 78) rfl) rfl⟩
theorem mw_max : Cond.static Lib.Math.max.name ∈ xwd ∧ Cond.initialized "java/lang/Math" ∈ xwd ∧ Cond.code Lib.Math.max.name Lib.Math.max.code 2 (some .int) ∈ xwd := ⟨xwd_in (xm1 (j := 80) rfl) rfl, xwd_in (xm1 (j := 5) rfl) rfl, xwd_in (xm1 (j := 81) rfl) rfl⟩
