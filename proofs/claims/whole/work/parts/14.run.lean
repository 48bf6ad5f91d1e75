/-! ===== a run: begin, Script.size, run ===== -/
section XCELL
variable {p : Program} {l : Launch} {e : Env} {R : Room} {s : State} {m : MethodId} {args : Array Value} {below : List Frame} {meth : Method} {c : Code} {G : xG} {ad0 : xAd} {h0 : xH} {nL : Nat} {Z : State → Prop} {pc : Nat} {ls : List (Nat × Value)} {st : List Value} {ad : xAd} {h : xH} {k n : Nat}
/-- an array's places behind its end are nobody's -/
theorem x_cell {t : Tg} {ti N : Nat} {f g : Nat → Int32} (hfg : ∀ j, j < N → f j = g j) (kk : xX p l e R s m args below meth c G ad0 h0 nL Z pc ls st ad (xup h t (.inl (ti, N, .inl g))) k n) : xX p l e R s m args below meth c G ad0 h0 nL Z pc ls st ad (xup h t (.inl (ti, N, .inl f))) k n := by
  intro H locs la hR hS hL hE
  have hc : ∀ cA, vp_cell cA (N, .inl f) = vp_cell cA (N, .inl g) := by
    intro cA
    rw [vp_cell_i, vp_cell_i]
    unfold arrV
    congr 1
    apply Array.ext
    · simp
    · intro i h1 h2
      simp at h1
      simp [hfg i h1]
  have hlive : ∀ u, xup h t (.inl (ti, N, .inl f)) u ≠ none ↔ xup h t (.inl (ti, N, .inl g)) u ≠ none := by
    intro u
    unfold xup
    by_cases z : u = t
    · rw [if_pos z, if_pos z]
      constructor <;> (intro _ q; cases q)
    · rw [if_neg z, if_neg z]
  refine kk H locs la ⟨fun u e he => ?_, fun u v hu hv => hR.2 u v ((hlive u).mpr hu) ((hlive v).mpr hv)⟩ hS hL (fun u hu => ⟨(hlive u).mp (hE u hu).1, (hE u hu).2⟩)
  by_cases z : u = t
  · subst z
    rw [xup_self] at he
    cases he
    have := hR.1 u _ (xup_self _ _ _)
    refine ⟨?_, this.2⟩
    have h1 : H[ad u]? = some (vp_cell (G.2.1 ti) (N, .inl f)) := this.1
    show H[ad u]? = some (vp_cell (G.2.1 ti) (N, .inl g))
    rw [← hc]; exact h1
  · rw [xup_ne _ _ z] at he
    exact hR.1 u e (by rw [xup_ne _ _ z]; exact he)
end XCELL
def s_begin : xSp := fun ad h av Q => ∃ g st nc mem no out a i p fl fa all, h = wR g ad st nc (mem, no, out, a, i, p, fl) fa all ∧ av = [.ref (ad (10, 0))] ∧ nc ≤ 32 ∧ Q none ad (wR g ad st nc (fun _ => 0, 0, out, 0, 0, 0, 0) (-1) all)
set_option maxRecDepth 100000 in
set_option maxHeartbeats 1000000 in
theorem c_X3_begin : Ct yX3_begin cX3_begin 1 none (xrm 1 0 0) s_begin := by
  refine Ct.of (by decide) ?_
  intro p0 l e s m args below meth c0 G ad h av Q F hsp
  obtain ⟨g, st, nc, mem, no, out, a, i, p, fl, fa, all, rfl, rfl, hnc, hQ⟩ := hsp
  refine ⟨x_ent rfl rfl, ?_⟩
  refine x_ls [(0, .ref (ad (10, 0)))] rfl ?_
  refine x_aload_n (q := 1) F dX3_begin_0 rfl rfl (by first | exact xref_r | exact xref_n | exact xref_f _ | assumption) ?_
  refine x_get (q := 4) F dX3_begin_1 rfl fs_X3_43 rfl rfl ?_
  refine x_iconst (q := 5) (v := 0) F dX3_begin_4 rfl (by decide) ?_
  refine x_callS2 (q := 8) F c_J7_fill_53178 dX3_begin_5 rfl ms_J7_fill_53178 ml_X3_66 ⟨⟨xle rfl, xle rfl⟩, xle rfl, xle rfl⟩ (xle rfl) ?_
  refine ⟨(11, 0), nc, _, _, rfl, rfl, by omega, fun _ => ?_⟩
  refine x_cell (g := fun j => nI ((fun _ => 0) j)) (fun j hj => by show filled _ _ _ j = nI 0; unfold filled; rw [if_pos hj]; rfl) ?_
  refine x_h (wR_mem _ _ _ _ _ _ _ _ _ _ _ _ _ _) ?_
  refine x_aload_n (q := 9) F dX3_begin_8 rfl rfl (by first | exact xref_r | exact xref_n | exact xref_f _ | assumption) ?_
  refine x_get (q := 12) F dX3_begin_9 rfl fs_X3_14 rfl rfl ?_
  refine x_callV0 (q := 15) F (12, 0) c_X0_clear dX3_begin_12 rfl mv_X0_clear ml_X3_71 ⟨⟨xle rfl, xle rfl⟩, xle rfl, xle rfl⟩ rfl rfl (xle rfl) ?_
  refine ⟨(12, 0), _, _, rfl, rfl, fun _ => ?_⟩
  refine x_h (wR_size _ _ _ _ _ _ _ _ _ _ _ _ _ 0) ?_
  refine x_aload_n (q := 16) F dX3_begin_15 rfl rfl (by first | exact xref_r | exact xref_n | exact xref_f _ | assumption) ?_
  refine x_iconst (q := 17) (v := 0) F dX3_begin_16 rfl (by decide) ?_
  refine x_put (q := 20) F dX3_begin_17 rfl fs_X3_20 rfl (xle rfl) rfl rfl ?_
  refine x_h (h2 := wR g ad st nc (fun _ => 0, 0, out, 0, i, p, fl) fa all) (xup_xup _ _ _ _) ?_
  refine x_aload_n (q := 21) F dX3_begin_20 rfl rfl (by first | exact xref_r | exact xref_n | exact xref_f _ | assumption) ?_
  refine x_iconst (q := 22) (v := 0) F dX3_begin_21 rfl (by decide) ?_
  refine x_put (q := 25) F dX3_begin_22 rfl fs_X3_24 rfl (xle rfl) rfl rfl ?_
  refine x_h (h2 := wR g ad st nc (fun _ => 0, 0, out, 0, 0, p, fl) fa all) (xup_xup _ _ _ _) ?_
  refine x_aload_n (q := 26) F dX3_begin_25 rfl rfl (by first | exact xref_r | exact xref_n | exact xref_f _ | assumption) ?_
  refine x_iconst (q := 27) (v := 0) F dX3_begin_26 rfl (by decide) ?_
  refine x_put (q := 30) F dX3_begin_27 rfl fs_X3_27 rfl (xle rfl) rfl rfl ?_
  refine x_h (h2 := wR g ad st nc (fun _ => 0, 0, out, 0, 0, 0, fl) fa all) (xup_xup _ _ _ _) ?_
  refine x_aload_n (q := 31) F dX3_begin_30 rfl rfl (by first | exact xref_r | exact xref_n | exact xref_f _ | assumption) ?_
  refine x_iconst (q := 32) (v := 0) F dX3_begin_31 rfl (by decide) ?_
  refine x_put (q := 35) F dX3_begin_32 rfl fs_X3_30 rfl (xle rfl) rfl rfl ?_
  refine x_h (h2 := wR g ad st nc (fun _ => 0, 0, out, 0, 0, 0, 0) fa all) (xup_xup _ _ _ _) ?_
  refine x_aload_n (q := 36) F dX3_begin_35 rfl rfl (by first | exact xref_r | exact xref_n | exact xref_f _ | assumption) ?_
  refine x_iconst (q := 37) (v := -1) F dX3_begin_36 rfl (by decide) ?_
  refine x_put (q := 40) F dX3_begin_37 rfl fs_X3_33 rfl (xle rfl) rfl rfl ?_
  refine x_h (h2 := wR g ad st nc (fun _ => 0, 0, out, 0, 0, 0, 0) (-1) all) (xup_xup _ _ _ _) ?_
  refine x_vret F dX3_begin_40 (xle rfl) (xle rfl) ?_
  exact hQ
abbrev cScr (a b d f : Nat) (nx : Int32) : xE := .inr (4, [.ref a, .ref b, .ref d, .ref f, .int nx])
def s_scrSize : xSp := fun ad h av Q => ∃ (t b1 b2 : Tg) (d f : Nat) (nx : Int32) (N : Nat) (u v : Nat → Int32), av = [.ref (ad t)] ∧ h t = some (cScr (ad b1) (ad b2) d f nx) ∧ h b1 = some (cI N u) ∧ h b2 = some (cI N v) ∧ N ≤ 1000 ∧ Q (some (.int (nI N))) ad h
set_option maxRecDepth 100000 in
theorem c_X4_size : Ct yX4_size cX4_size 1 (some .int) (xrm 1 0 0) s_scrSize := by
  refine Ct.of (by decide) ?_
  intro p0 l e s m args below meth c0 G ad h av Q F hsp
  obtain ⟨t, b1, b2, d, f, nx, N, u, v, rfl, e1, e2, e3, hN, hQ⟩ := hsp
  refine ⟨x_ent rfl rfl, ?_⟩
  refine x_ls [(0, .ref (ad t))] rfl ?_
  refine x_aload_n (q := 1) F dX4_size_0 rfl rfl (by first | exact xref_r | exact xref_n | exact xref_f _ | assumption) ?_
  refine x_get (q := 4) F dX4_size_1 rfl fs_X4_25 e1 rfl ?_
  refine x_alen (q := 5) F dX4_size_4 rfl e2 (by decide) ?_
  refine x_aload_n (q := 6) F dX4_size_5 rfl rfl (by first | exact xref_r | exact xref_n | exact xref_f _ | assumption) ?_
  refine x_get (q := 9) F dX4_size_6 rfl fs_X4_29 e1 rfl ?_
  refine x_alen (q := 10) F dX4_size_9 rfl e3 (by decide) ?_
  refine x_mmin (q := 13) F dX4_size_10 rfl ml_X4_32 mw_min (xle rfl) (xle rfl) (xle rfl) (xle rfl) ?_
  refine x_topi (y := nI N) (by split <;> rfl) ?_
  refine x_iret F dX4_size_13 (xle rfl) (xle rfl) ?_
  exact hQ
def rP (q : RS) : Nat := q.2.2.2.2.2.1
def rF (q : RS) : Nat := q.2.2.2.2.2.2
def rA (q : RS) : Nat := q.2.2.2.1
def rI (q : RS) : Nat := q.2.2.2.2.1
def rNo (q : RS) : Nat := q.2.1
def rOut (q : RS) : Nat → Nat := q.2.2.1
def rMem (q : RS) : Nat → Nat := q.1
def setP (q : RS) (v : Nat) : RS := (q.1, q.2.1, q.2.2.1, q.2.2.2.1, q.2.2.2.2.1, v, q.2.2.2.2.2.2)
def setF (q : RS) (v : Nat) : RS := (q.1, q.2.1, q.2.2.1, q.2.2.2.1, q.2.2.2.2.1, q.2.2.2.2.2.1, v)
/-- numbers in their ranges -/
def RSok (q : RS) : Prop := rA q < 256 ∧ rI q ≤ 1000000 ∧ rNo q ≤ 40 ∧ (∀ j, rMem q j < 256) ∧ rP q ≤ 255 ∧ rF q ≤ 4 ∧ ∀ j, j < rNo q → rOut q j < 256
theorem stepF_ok {nc sz : Nat} {f : Nat → Nat} {c v : Nat} {q : RS} (h : RSok q) (hv : v < 256) (hf : ∀ j, j < sz → f j < 256) : RSok (stepF nc sz f c v q) := by
  obtain ⟨mem, no, out, a, i, p, fl⟩ := q
  obtain ⟨h1, h2, h3, h4, h5, h6, h7⟩ := h
  have h1 : a < 256 := h1
  have h2 : i ≤ 1000000 := h2
  have h3 : no ≤ 40 := h3
  have h4 : ∀ j, mem j < 256 := h4
  have h5 : p ≤ 255 := h5
  have h6 : fl ≤ 4 := h6
  have h7 : ∀ j, j < no → out j < 256 := h7
  unfold stepF
  dsimp only
  by_cases c1 : c = 114
  · rw [if_pos c1]
    by_cases hz : i + v < sz
    · rw [if_pos hz]; exact ⟨hf _ hz, h2, h3, h4, h5, h6, h7⟩
    · rw [if_neg hz]; exact ⟨h1, h2, h3, h4, h5, (by show 2 ≤ 4; omega), h7⟩
  rw [if_neg c1]
  by_cases c1 : c = 119
  · rw [if_pos c1]
    refine ⟨h1, h2, by show min (no + v) 40 ≤ 40; omega, h4, h5, ?_, fun j hj => ?_⟩
    · show (if no + v ≤ 40 then fl else 3) ≤ 4
      by_cases hz : no + v ≤ 40
      · rw [if_pos hz]; exact h6
      · rw [if_neg hz]; omega
    have hj : j < min (no + v) 40 := hj
    show pushF no out a v j < 256
    unfold pushF
    by_cases hz : no ≤ j ∧ j < min (no + v) 40
    · rw [if_pos hz]; exact h1
    · rw [if_neg hz]; exact h7 j (by omega)
  rw [if_neg c1]
  by_cases c1 : c = 115
  · rw [if_pos c1]
    by_cases hz : v < nc
    · rw [if_pos hz]
      refine ⟨h1, h2, h3, fun j => ?_, h5, h6, h7⟩
      show updN mem v a j < 256
      unfold updN
      by_cases hy : j = v
      · rw [if_pos hy]; exact h1
      · rw [if_neg hy]; exact h4 j
    · rw [if_neg hz]; exact ⟨h1, h2, h3, h4, h5, (by show 3 ≤ 4; omega), h7⟩
  rw [if_neg c1]
  by_cases c1 : c = 103
  · rw [if_pos c1]
    by_cases hz : v < nc
    · rw [if_pos hz]; exact ⟨h4 _, h2, h3, h4, h5, h6, h7⟩
    · rw [if_neg hz]; exact ⟨h1, h2, h3, h4, h5, (by show 3 ≤ 4; omega), h7⟩
  rw [if_neg c1]
  by_cases c1 : c = 101
  · rw [if_pos c1]
    refine ⟨h1, h2, h3, h4, ?_, h6, h7⟩
    show (if sz ≤ i then v else p) ≤ 255
    by_cases hz : sz ≤ i
    · rw [if_pos hz]; omega
    · rw [if_neg hz]; exact h5
  rw [if_neg c1]
  by_cases c1 : c = 97
  · rw [if_pos c1]; exact ⟨by show (a + v) % 256 < 256; omega, h2, h3, h4, h5, h6, h7⟩
  rw [if_neg c1]
  by_cases c1 : c = 120
  · rw [if_pos c1]; exact ⟨xor_256 h1 hv, h2, h3, h4, h5, h6, h7⟩
  rw [if_neg c1]
  by_cases c1 : c = 105
  · rw [if_pos c1]; exact ⟨h1, by show min (i + v) 1000000 ≤ 1000000; omega, h3, h4, h5, h6, h7⟩
  rw [if_neg c1]
  by_cases c1 : c = 107
  · rw [if_pos c1]; exact ⟨h1, by show v ≤ 1000000; omega, h3, h4, h5, h6, h7⟩
  rw [if_neg c1]
  by_cases c1 : c = 106
  · rw [if_pos c1]
    refine ⟨h1, h2, h3, h4, ?_, h6, h7⟩
    show (if a = 0 then p else v) ≤ 255
    by_cases hz : a = 0
    · rw [if_pos hz]; exact h5
    · rw [if_neg hz]; omega
  rw [if_neg c1]
  by_cases c1 : c = 122
  · rw [if_pos c1]
    refine ⟨h1, h2, h3, h4, ?_, h6, h7⟩
    show (if a = 0 then v else p) ≤ 255
    by_cases hz : a = 0
    · rw [if_pos hz]; omega
    · rw [if_neg hz]; exact h5
  rw [if_neg c1]
  by_cases c1 : c = 98
  · rw [if_pos c1]; exact ⟨h1, h2, h3, h4, by show v ≤ 255; omega, h6, h7⟩
  rw [if_neg c1]
  by_cases c1 : c = 102
  · rw [if_pos c1]
    refine ⟨h1, h2, h3, h4, h5, ?_, h7⟩
    show (if a = v then fl else 1) ≤ 4
    by_cases hz : a = v
    · rw [if_pos hz]; exact h6
    · rw [if_neg hz]; omega
  rw [if_neg c1]
  exact ⟨h1, h2, h3, h4, by show 40 ≤ 255; omega, h6, h7⟩
/-- at most so many commands more: the state, where it failed, how many were done -/
def loopF (nc sz : Nat) (f L V : Nat → Nat) (nk : Nat) : Nat → RS → Option Nat → Nat → RS × Option Nat × Nat
  | 0, q, fa, d => (q, fa, d)
  | k + 1, q, fa, d => if rP q < nk ∧ rF q = 0 then
      loopF nc sz f L V nk k (stepF nc sz f (L (rP q)) (V (rP q)) (setP q (rP q + 1))) (if rF (stepF nc sz f (L (rP q)) (V (rP q)) (setP q (rP q + 1))) = 0 then fa else some (rP q)) (d + 1)
    else (q, fa, d)
/-- behind the loop: one command more than the steps would be done -/
def endF (nk : Nat) (z : RS × Option Nat × Nat) : RS × Option Nat × Nat := if rF z.1 = 0 ∧ rP z.1 < nk then (setF z.1 4, some (rP z.1), z.2.2) else z
def runF (nc sz : Nat) (f L V : Nat → Nat) (nk st : Nat) (out : Nat → Nat) : RS × Option Nat × Nat := endF nk (loopF nc sz f L V nk st (fun _ => 0, 0, out, 0, 0, 0, 0) none 0)
theorem loopF_ok {nc sz : Nat} {f L V : Nat → Nat} {nk : Nat} (hV : ∀ j, j < nk → V j < 256) (hf : ∀ j, j < sz → f j < 256) (hk : nk ≤ 40) : ∀ (k : Nat) (q : RS) (fa : Option Nat) (d : Nat), RSok q → RSok (loopF nc sz f L V nk k q fa d).1 := by
  intro k
  induction k with
  | zero => intro q fa d h; exact h
  | succ k ih =>
    intro q fa d h
    unfold loopF
    split
    · rename_i hz
      refine ih _ _ _ (stepF_ok ?_ (hV _ hz.1) hf)
      obtain ⟨h1, h2, h3, h4, h5, h6, h7⟩ := h
      exact ⟨h1, h2, h3, h4, by show rP q + 1 ≤ 255; omega, h6, h7⟩
    · exact h
theorem rs0_ok (out : Nat → Nat) : RSok (fun _ => 0, 0, out, 0, 0, 0, 0) := ⟨(by show 0 < 256; omega), (by show 0 ≤ 1000000; omega), (by show 0 ≤ 40; omega), fun _ => (by show 0 < 256; omega), (by show 0 ≤ 255; omega), (by show 0 ≤ 4; omega), fun j hj => absurd hj (Nat.not_lt_zero j)⟩
theorem runF_ok {nc sz : Nat} {f L V : Nat → Nat} {nk st : Nat} {out : Nat → Nat} (hV : ∀ j, j < nk → V j < 256) (hf : ∀ j, j < sz → f j < 256) (hk : nk ≤ 40) : RSok (runF nc sz f L V nk st out).1 := by
  have h := loopF_ok (nc := nc) (L := L) hV hf hk st (fun _ => 0, 0, out, 0, 0, 0, 0) none 0 (rs0_ok out)
  unfold runF endF
  split
  · obtain ⟨h1, h2, h3, h4, h5, h6, h7⟩ := h
    exact ⟨h1, h2, h3, h4, h5, by show 4 ≤ 4; omega, h7⟩
  · exact h
theorem loopF_d {nc sz : Nat} {f L V : Nat → Nat} {nk : Nat} : ∀ (k : Nat) (q : RS) (fa : Option Nat) (d : Nat), (loopF nc sz f L V nk k q fa d).2.2 ≤ d + k := by
  intro k
  induction k with
  | zero => intro q fa d; exact Nat.le_refl _
  | succ k ih =>
    intro q fa d
    unfold loopF
    split
    · have := ih (stepF nc sz f (L (rP q)) (V (rP q)) (setP q (rP q + 1))) (if rF (stepF nc sz f (L (rP q)) (V (rP q)) (setP q (rP q + 1))) = 0 then fa else some (rP q)) (d + 1)
      omega
    · exact Nat.le_add_right _ _
/-- the loop, once it stands, stays -/
theorem loopF_stop {nc sz : Nat} {f L V : Nat → Nat} {nk : Nat} {q : RS} (h : ¬ (rP q < nk ∧ rF q = 0)) (k : Nat) (fa : Option Nat) (d : Nat) : loopF nc sz f L V nk k q fa d = (q, fa, d) := by
  cases k with
  | zero => rfl
  | succ k => unfold loopF; rw [if_neg h]
def s_run : xSp := fun ad h av Q => ∃ g st nc q fa all sc io n N f nk L V d3 d4 nx, h = wR g ad st nc q fa all ∧ av = [.ref (ad (10, 0)), .ref (ad (20, sc)), .ref (ad (31, io))] ∧
  g (20, sc) = some (cScr (ad (21, sc)) (ad (22, sc)) d3 d4 nx) ∧ g (21, sc) = some (cN nk L) ∧ g (22, sc) = some (cN nk V) ∧ nk ≤ 40 ∧ (∀ j, j < nk → L j ∈ L14) ∧ (∀ j, j < nk → V j < 256) ∧
  g (31, io) = some (cRow (ad (32, io)) (nI n)) ∧ g (32, io) = some (cN N f) ∧ n ≤ N ∧ N ≤ 1000 ∧ (∀ j, j < n → f j < 256) ∧ nc ≤ 32 ∧ st ≤ 2000 ∧
  Q (some (.int (nI (rF (runF nc n f L V nk st (rOut q)).1)))) ad (wR g ad st nc (runF nc n f L V nk st (rOut q)).1 (optI (runF nc n f L V nk st (rOut q)).2.1) (all + (nI (runF nc n f L V nk st (rOut q)).2.2).toInt64))
set_option maxRecDepth 100000 in
set_option maxHeartbeats 4000000 in
theorem c_X3_run : Ct yX3_run cX3_run 6 (some .int) (xrm 3 0 0) s_run := by
  refine Ct.of (by decide) ?_
  intro p0 l e s m args below meth c0 G ad h av Q F hsp
  obtain ⟨g, st, nc, q, fa, all, sc, io, n, N, f, nk, L, V, d3, d4, nx, rfl, rfl, e1, e2, e3, hnk, hL, hV, e4, e5, hn, hN, hf, hnc, hst, hQ⟩ := hsp
  refine ⟨x_ent rfl rfl, ?_⟩
  refine x_ls [(0, .ref (ad (10, 0))), (1, .ref (ad (20, sc))), (2, .ref (ad (31, io)))] rfl ?_
  obtain ⟨mem, no, out, a, i, p, fl⟩ := q
  generalize hh0 : wR g ad st nc (mem, no, out, a, i, p, fl) fa all = h0 at F ⊢
  -- behind the loop
  have fin : ∀ (q : RS) (fb : Option Nat) (d : Nat), RSok q → d ≤ 2000 → endF nk (q, fb, d) = runF nc n f L V nk st out →
      xX p0 l e (xrm 3 0 0) s m args below meth c0 G ad h0 6 (xZ below G ad h0 Q args s (xrm 3 0 0)) 97 [(0, .ref (ad (10, 0))), (1, .ref (ad (20, sc))), (2, .ref (ad (31, io))), (3, .int (nI nk)), (4, .int (nI d))] [] ad (wR g ad st nc q (optI fb) all) 0 0 := by
    intro q fb d hok hd2 hend
    rw [show rOut (mem, no, out, a, i, p, fl) = out from rfl, ← hend] at hQ
    obtain ⟨mem, no, out2, a, i, p, fl⟩ := q
    obtain ⟨-, -, -, -, hp, hfl, -⟩ := hok
    have hp : p ≤ 255 := hp
    have hfl : fl ≤ 4 := hfl
    refine x_aload_n (q := 98) F dX3_run_97 rfl rfl (by first | exact xref_r | exact xref_n | exact xref_f _ | assumption) ?_
    refine x_dup (q := 99) F dX3_run_98 rfl rfl ?_
    refine x_get (q := 102) F dX3_run_99 rfl fs_X3_36 rfl rfl ?_
    refine x_iload (q := 104) F dX3_run_102 rfl rfl ?_
    refine x_i2l (q := 105) F dX3_run_104 rfl ?_
    refine x_ladd (q := 106) F dX3_run_105 rfl ?_
    refine x_put (q := 109) F dX3_run_106 rfl fs_X3_36 rfl (xle rfl) rfl rfl ?_
    refine x_h (h2 := wR g ad st nc (mem, no, out2, a, i, p, fl) (optI fb) (all + (nI d).toInt64)) (xup_xup _ _ _ _) ?_
    refine x_aload_n (q := 110) F dX3_run_109 rfl rfl (by first | exact xref_r | exact xref_n | exact xref_f _ | assumption) ?_
    refine x_get (q := 113) F dX3_run_110 rfl fs_X3_30 rfl rfl ?_
    refine x_if_ne (q := 116) F 137 dX3_run_113 (by decide) rfl (fun c113 => ?_) (fun c113 => ?_)
    · have hz : ¬ fl = 0 := fun z => c113 (by rw [z]; rfl)
      have he : endF nk ((mem, no, out2, a, i, p, fl), fb, d) = ((mem, no, out2, a, i, p, fl), fb, d) := if_neg (fun z => hz z.1)
      rw [he] at hQ
      refine x_aload_n (q := 138) F dX3_run_137 rfl rfl (by first | exact xref_r | exact xref_n | exact xref_f _ | assumption) ?_
      refine x_get (q := 141) F dX3_run_138 rfl fs_X3_30 rfl rfl ?_
      refine x_iret F dX3_run_141 (xle rfl) (xle rfl) ?_
      exact hQ
    · have hz : fl = 0 := (nI_eq (b := 0) (by omega) (by omega)).mp c113
      refine x_aload_n (q := 117) F dX3_run_116 rfl rfl (by first | exact xref_r | exact xref_n | exact xref_f _ | assumption) ?_
      refine x_get (q := 120) F dX3_run_117 rfl fs_X3_27 rfl rfl ?_
      refine x_iload_n (q := 121) F dX3_run_120 rfl rfl ?_
      refine x_icmp_ge (q := 124) F 137 dX3_run_121 (by decide) rfl (fun c121 => ?_) (fun c121 => ?_)
      · have hge : ¬ p < nk := by have := (nI_leI (by omega) (by omega)).mp c121; omega
        have he : endF nk ((mem, no, out2, a, i, p, fl), fb, d) = ((mem, no, out2, a, i, p, fl), fb, d) := if_neg (fun z => hge z.2)
        rw [he] at hQ
        refine x_aload_n (q := 138) F dX3_run_137 rfl rfl (by first | exact xref_r | exact xref_n | exact xref_f _ | assumption) ?_
        refine x_get (q := 141) F dX3_run_138 rfl fs_X3_30 rfl rfl ?_
        refine x_iret F dX3_run_141 (xle rfl) (xle rfl) ?_
        exact hQ
      · have hlt : p < nk := by
          rcases Nat.lt_or_ge p nk with q | q
          · exact q
          · exact absurd ((nI_leI (by omega) (by omega)).mpr q) c121
        have he : endF nk ((mem, no, out2, a, i, p, fl), fb, d) = ((mem, no, out2, a, i, p, 4), some p, d) := if_pos ⟨hz, hlt⟩
        rw [he] at hQ
        refine x_aload_n (q := 125) F dX3_run_124 rfl rfl (by first | exact xref_r | exact xref_n | exact xref_f _ | assumption) ?_
        refine x_iconst (q := 126) (v := 4) F dX3_run_125 rfl (by decide) ?_
        refine x_put (q := 129) F dX3_run_126 rfl fs_X3_30 rfl (xle rfl) rfl rfl ?_
        refine x_h (h2 := wR g ad st nc (mem, no, out2, a, i, p, 4) (optI fb) (all + (nI d).toInt64)) (xup_xup _ _ _ _) ?_
        refine x_aload_n (q := 130) F dX3_run_129 rfl rfl (by first | exact xref_r | exact xref_n | exact xref_f _ | assumption) ?_
        refine x_aload_n (q := 131) F dX3_run_130 rfl rfl (by first | exact xref_r | exact xref_n | exact xref_f _ | assumption) ?_
        refine x_get (q := 134) F dX3_run_131 rfl fs_X3_27 rfl rfl ?_
        refine x_put (q := 137) F dX3_run_134 rfl fs_X3_33 rfl (xle rfl) rfl rfl ?_
        refine x_h (h2 := wR g ad st nc (mem, no, out2, a, i, p, 4) (optI (some p)) (all + (nI d).toInt64)) (xup_xup _ _ _ _) ?_
        refine x_aload_n (q := 138) F dX3_run_137 rfl rfl (by first | exact xref_r | exact xref_n | exact xref_f _ | assumption) ?_
        refine x_get (q := 141) F dX3_run_138 rfl fs_X3_30 rfl rfl ?_
        refine x_iret F dX3_run_141 (xle rfl) (xle rfl) ?_
        exact hQ
  have loop : ∀ (k : Nat) (q : RS) (fb : Option Nat) (d : Nat), d + k = st → RSok q → endF nk (loopF nc n f L V nk k q fb d) = runF nc n f L V nk st out →
      xX p0 l e (xrm 3 0 0) s m args below meth c0 G ad h0 6 (xZ below G ad h0 Q args s (xrm 3 0 0)) 12 [(0, .ref (ad (10, 0))), (1, .ref (ad (20, sc))), (2, .ref (ad (31, io))), (3, .int (nI nk)), (4, .int (nI d))] [] ad (wR g ad st nc q (optI fb) all) 0 0 := by
    intro k
    induction k with
    | zero =>
      intro q fb d hd hok hend
      have hfin := fin q fb d hok (by omega) hend
      obtain ⟨mem, no, out2, a, i, p, fl⟩ := q
      refine x_iload (q := 14) F dX3_run_12 rfl rfl ?_
      refine x_aload_n (q := 15) F dX3_run_14 rfl rfl (by first | exact xref_r | exact xref_n | exact xref_f _ | assumption) ?_
      refine x_get (q := 18) F dX3_run_15 rfl fs_X3_40 rfl rfl ?_
      refine x_icmp_ge (q := 21) F 97 dX3_run_18 (by decide) rfl (fun c18 => ?_) (fun c18 => ?_)
      · exact hfin
      · exact absurd ((nI_leI (by omega) (by omega)).mpr (by omega)) c18
    | succ k ih =>
      intro q fb d hd hok hend
      have hstop : ¬ (rP q < nk ∧ rF q = 0) → xX p0 l e (xrm 3 0 0) s m args below meth c0 G ad h0 6 (xZ below G ad h0 Q args s (xrm 3 0 0)) 97 [(0, .ref (ad (10, 0))), (1, .ref (ad (20, sc))), (2, .ref (ad (31, io))), (3, .int (nI nk)), (4, .int (nI d))] [] ad (wR g ad st nc q (optI fb) all) 0 0 := fun hz => fin q fb d hok (by omega) (by rw [loopF_stop hz] at hend; exact hend)
      obtain ⟨mem, no, out2, a, i, p, fl⟩ := q
      obtain ⟨ha, hi, hno, hmem, hp, hfl, hout⟩ := id hok
      have ha : a < 256 := ha
      have hi : i ≤ 1000000 := hi
      have hno : no ≤ 40 := hno
      have hp : p ≤ 255 := hp
      have hfl : fl ≤ 4 := hfl
      refine x_iload (q := 14) F dX3_run_12 rfl rfl ?_
      refine x_aload_n (q := 15) F dX3_run_14 rfl rfl (by first | exact xref_r | exact xref_n | exact xref_f _ | assumption) ?_
      refine x_get (q := 18) F dX3_run_15 rfl fs_X3_40 rfl rfl ?_
      refine x_icmp_ge (q := 21) F 97 dX3_run_18 (by decide) rfl (fun c18 => ?_) (fun c18 => ?_)
      · exact absurd ((nI_leI (by omega) (by omega)).mp c18) (by omega)
      · refine x_aload_n (q := 22) F dX3_run_21 rfl rfl (by first | exact xref_r | exact xref_n | exact xref_f _ | assumption) ?_
        refine x_get (q := 25) F dX3_run_22 rfl fs_X3_27 rfl rfl ?_
        refine x_if_lt (q := 28) F 97 dX3_run_25 (by decide) rfl (fun c25 => ?_) (fun c25 => ?_)
        · exact absurd c25 (nI_pos (by omega))
        · refine x_aload_n (q := 29) F dX3_run_28 rfl rfl (by first | exact xref_r | exact xref_n | exact xref_f _ | assumption) ?_
          refine x_get (q := 32) F dX3_run_29 rfl fs_X3_27 rfl rfl ?_
          refine x_iload_n (q := 33) F dX3_run_32 rfl rfl ?_
          refine x_icmp_ge (q := 36) F 97 dX3_run_33 (by decide) rfl (fun c33 => ?_) (fun c33 => ?_)
          · refine hstop (fun z => ?_)
            have h1 : p < nk := z.1
            exact absurd ((nI_leI (by omega) (by omega)).mp c33) (by omega)
          · have hlt : p < nk := by
              rcases Nat.lt_or_ge p nk with q | q
              · exact q
              · exact absurd ((nI_leI (by omega) (by omega)).mpr q) c33
            refine x_aload_n (q := 37) F dX3_run_36 rfl rfl (by first | exact xref_r | exact xref_n | exact xref_f _ | assumption) ?_
            refine x_get (q := 40) F dX3_run_37 rfl fs_X3_30 rfl rfl ?_
            refine x_if_ne (q := 43) F 97 dX3_run_40 (by decide) rfl (fun c40 => ?_) (fun c40 => ?_)
            · exact hstop (fun z => c40 (by rw [show fl = 0 from z.2]; rfl))
            · have hz : fl = 0 := (nI_eq (b := 0) (by omega) (by omega)).mp c40
              refine x_aload_n (q := 44) F dX3_run_43 rfl rfl (by first | exact xref_r | exact xref_n | exact xref_f _ | assumption) ?_
              refine x_get (q := 47) F dX3_run_44 rfl fs_X3_27 rfl rfl ?_
              refine x_istore (q := 49) F dX3_run_47 rfl (by decide) ?_
              refine x_aload_n (q := 50) F dX3_run_49 rfl rfl (by first | exact xref_r | exact xref_n | exact xref_f _ | assumption) ?_
              refine x_dup (q := 51) F dX3_run_50 rfl rfl ?_
              refine x_get (q := 54) F dX3_run_51 rfl fs_X3_27 rfl rfl ?_
              refine x_iconst (q := 55) (v := 1) F dX3_run_54 rfl (by decide) ?_
              refine x_iadd (q := 56) F dX3_run_55 rfl ?_
              refine x_topi (nI_1 p) ?_
              refine x_put (q := 59) F dX3_run_56 rfl fs_X3_27 rfl (xle rfl) rfl rfl ?_
              refine x_h (h2 := wR g ad st nc (mem, no, out2, a, i, p + 1, fl) (optI fb) all) (xup_xup _ _ _ _) ?_
              refine x_iinc (q := 62) F dX3_run_59 rfl rfl (nI_1 d) (by decide) ?_
              refine x_aload_n (q := 63) F dX3_run_62 rfl rfl (by first | exact xref_r | exact xref_n | exact xref_f _ | assumption) ?_
              refine x_aload_n (q := 64) F dX3_run_63 rfl rfl (by first | exact xref_r | exact xref_n | exact xref_f _ | assumption) ?_
              refine x_getN (q := 67) F dX3_run_64 rfl fn_X3_56 e1 rfl ?_
              refine x_iload (q := 69) F dX3_run_67 rfl rfl ?_
              refine x_iald (q := 70) F dX3_run_69 rfl e2 rfl (by omega) (by omega) ?_
              refine x_aload_n (q := 71) F dX3_run_70 rfl rfl (by first | exact xref_r | exact xref_n | exact xref_f _ | assumption) ?_
              refine x_getN (q := 74) F dX3_run_71 rfl fn_X3_59 e1 rfl ?_
              refine x_iload (q := 76) F dX3_run_74 rfl rfl ?_
              refine x_iald (q := 77) F dX3_run_76 rfl e3 rfl (by omega) (by omega) ?_
              refine x_aload_n (q := 78) F dX3_run_77 rfl rfl (by first | exact xref_r | exact xref_n | exact xref_f _ | assumption) ?_
              refine x_callV3 (q := 81) F (10, 0) c_X3_step dX3_run_78 rfl mv_X3_step ml_X3_62 ⟨⟨xle rfl, xle rfl⟩, xle rfl, xle rfl⟩ rfl rfl (xle rfl) ?_
              refine ⟨g, st, nc, mem, no, out2, a, i, p + 1, fl, optI fb, all, L p, V p, io, n, N, f, rfl, rfl, e4, e5, hn, hN, hf, hL p hlt, hV p hlt, ha, hi, hnc, hno, fun _ => ?_⟩
              have hok' : RSok (stepF nc n f (L p) (V p) (mem, no, out2, a, i, p + 1, fl)) := stepF_ok ⟨ha, hi, hno, hmem, by show p + 1 ≤ 255; omega, hfl, hout⟩ (hV p hlt) hf
              have hstep : loopF nc n f L V nk (k + 1) (mem, no, out2, a, i, p, fl) fb d = loopF nc n f L V nk k (stepF nc n f (L p) (V p) (mem, no, out2, a, i, p + 1, fl)) (if rF (stepF nc n f (L p) (V p) (mem, no, out2, a, i, p + 1, fl)) = 0 then fb else some p) (d + 1) := by
                rw [loopF, if_pos ⟨hlt, hz⟩]
                rfl
              rw [hstep] at hend
              have hih := ih (stepF nc n f (L p) (V p) (mem, no, out2, a, i, p + 1, fl)) _ (d + 1) (by omega) hok' hend
              generalize stepF nc n f (L p) (V p) (mem, no, out2, a, i, p + 1, fl) = q2 at hok' hih ⊢
              obtain ⟨mem2, no2, out3, a2, i2, p2, fl2⟩ := q2
              obtain ⟨-, -, -, -, -, hfl2, -⟩ := hok'
              have hfl2 : fl2 ≤ 4 := hfl2
              refine x_aload_n (q := 82) F dX3_run_81 rfl rfl (by first | exact xref_r | exact xref_n | exact xref_f _ | assumption) ?_
              refine x_get (q := 85) F dX3_run_82 rfl fs_X3_30 rfl rfl ?_
              refine x_if_eq (q := 88) F 94 dX3_run_85 (by decide) rfl (fun c85 => ?_) (fun c85 => ?_)
              · have hz2 : fl2 = 0 := (nI_eq (b := 0) (by omega) (by omega)).mp c85
                rw [if_pos (show rF (mem2, no2, out3, a2, i2, p2, fl2) = 0 from hz2)] at hih
                refine x_goto F 12 dX3_run_94 (by decide) ?_
                refine x_ls [(0, .ref (ad (10, 0))), (1, .ref (ad (20, sc))), (2, .ref (ad (31, io))), (3, .int (nI nk)), (4, .int (nI (d + 1)))] rfl ?_
                exact hih
              · have hz2 : ¬ fl2 = 0 := fun z => c85 (by rw [z]; rfl)
                rw [if_neg (show ¬ rF (mem2, no2, out3, a2, i2, p2, fl2) = 0 from hz2)] at hih
                refine x_aload_n (q := 89) F dX3_run_88 rfl rfl (by first | exact xref_r | exact xref_n | exact xref_f _ | assumption) ?_
                refine x_iload (q := 91) F dX3_run_89 rfl rfl ?_
                refine x_put (q := 94) F dX3_run_91 rfl fs_X3_33 rfl (xle rfl) rfl rfl ?_
                refine x_h (h2 := wR g ad st nc (mem2, no2, out3, a2, i2, p2, fl2) (optI (some p)) all) (xup_xup _ _ _ _) ?_
                refine x_goto F 12 dX3_run_94 (by decide) ?_
                refine x_ls [(0, .ref (ad (10, 0))), (1, .ref (ad (20, sc))), (2, .ref (ad (31, io))), (3, .int (nI nk)), (4, .int (nI (d + 1)))] rfl ?_
                exact hih
  refine x_h hh0.symm ?_
  refine x_aload_n (q := 1) F dX3_run_0 rfl rfl (by first | exact xref_r | exact xref_n | exact xref_f _ | assumption) ?_
  refine x_callV0 (q := 4) F (10, 0) c_X3_begin dX3_run_1 rfl mv_X3_begin ml_X3_47 ⟨⟨xle rfl, xle rfl⟩, xle rfl, xle rfl⟩ rfl rfl (xle rfl) ?_
  refine ⟨g, st, nc, mem, no, out, a, i, p, fl, fa, all, rfl, rfl, hnc, fun _ => ?_⟩
  refine x_aload_n (q := 5) F dX3_run_4 rfl rfl (by first | exact xref_r | exact xref_n | exact xref_f _ | assumption) ?_
  refine x_callV0 (q := 8) F (20, sc) c_X4_size dX3_run_5 rfl mv_X4_size ml_X3_50 ⟨⟨xle rfl, xle rfl⟩, xle rfl, xle rfl⟩ rfl e1 (xle rfl) ?_
  refine ⟨(20, sc), (21, sc), (22, sc), d3, d4, nx, nk, _, _, rfl, e1, e2, e3, by omega, fun _ => ?_⟩
  refine x_istore_n (q := 9) F dX3_run_8 rfl (by decide) ?_
  refine x_iconst (q := 10) (v := 0) F dX3_run_9 rfl (by decide) ?_
  refine x_istore (q := 12) F dX3_run_10 rfl (by decide) ?_
  refine x_ls [(0, .ref (ad (10, 0))), (1, .ref (ad (20, sc))), (2, .ref (ad (31, io))), (3, .int (nI nk)), (4, .int (nI 0))] rfl ?_
  exact loop st (fun _ => 0, 0, out, 0, 0, 0, 0) none 0 (by omega) (rs0_ok out) rfl
