/-! ===== at; the law's own helpers ===== -/
def atF (A : AS) (x y : Int32) : Option Int32 := match ixN (aI A) x with
  | none => some (-1)
  | some i => match ixN (iN (aItm A i)) y with
    | none => none
    | some j => some (nI (iB (aItm A i) j))
set_option maxRecDepth 100000 in
set_option maxHeartbeats 1000000 in
theorem c_X6_at : Cx yX6_at cX6_at 5 (some .int) (xrm 7 1 6) (fun ad h av Q QX => ∃ A x y, pC ad h A ∧ aOK A ∧ av = [.ref (ad (1, 0)), .int x, .int y] ∧ (∀ v, atF A x y = some v → Q (some (.int v)) ad h) ∧ (atF A x y = none → QX "java/lang/ArrayIndexOutOfBoundsException" ad h)) := by
  refine Cx.of (by decide) ?_
  intro p l e s m args below meth c0 G ad h av Q QX hl hno F hsp
  obtain ⟨A, x, y, hC, hA, rfl, hQ, hQX⟩ := hsp
  have hnI := hA.2.2.2.1.1
  refine ⟨x_ent rfl rfl, ?_⟩
  refine x_ls [(0, .ref (ad (1, 0))), (1, .int x), (2, .int y)] rfl ?_
  refine x_aload_n (q := 1) F dX6_at_0 rfl rfl (by first | exact xref_r | exact xref_n | exact xref_f _ | assumption) ?_
  refine x_iload_n (q := 2) F dX6_at_1 rfl rfl ?_
  refine x_callV1 (q := 5) F (1, 0) c_X6_itemOf dX6_at_2 rfl mv_X6_itemOf ml_X6_166 ⟨⟨xle rfl, xle rfl⟩, xle rfl, xle rfl⟩ rfl hC.1 (xle rfl) ?_
  refine ⟨A, x, hC, hA, rfl, fun _ => ?_⟩
  unfold atF at hQ hQX
  cases hx : ixN (aI A) x with
  | none =>
    rw [itmV_none hx]
    rw [hx] at hQ
    refine x_astore_n (q := 6) F dX6_at_5 rfl (by decide) (by first | exact xref_r | exact xref_n | exact xref_f _ | assumption) ?_
    refine x_aload_n (q := 7) F dX6_at_6 rfl rfl (by first | exact xref_r | exact xref_n | exact xref_f _ | assumption) ?_
    refine x_ifnonnull (q := 10) F 12 dX6_at_7 (by decide) rfl (by first | exact xref_r | exact xref_n | exact xref_f _ | assumption) (fun a7 c7 => ?_) (fun c7 => ?_)
    · cases c7
    · refine x_iconst (q := 11) (v := -1) F dX6_at_10 rfl (by decide) ?_
      refine x_back ?_
      refine x_iret F dX6_at_11 (xle rfl) (xle rfl) ?_
      exact hQ _ rfl
  | some i =>
    rw [itmV_some hx]
    rw [hx] at hQ hQX
    obtain ⟨hi, rfl⟩ := ixN_some (by omega) hx
    obtain ⟨I1, I2, I3⟩ := hC.2.2.2.2.1.2.1 i hi
    have hOK := hA.2.2.2.1.2 i hi
    refine x_astore_n (q := 6) F dX6_at_5 rfl (by decide) (by first | exact xref_r | exact xref_n | exact xref_f _ | assumption) ?_
    refine x_aload_n (q := 7) F dX6_at_6 rfl rfl (by first | exact xref_r | exact xref_n | exact xref_f _ | assumption) ?_
    refine x_ifnonnull (q := 10) F 12 dX6_at_7 (by decide) rfl (by first | exact xref_r | exact xref_n | exact xref_f _ | assumption) (fun a7 c7 => ?_) (fun c7 => ?_)
    · refine x_aload_n (q := 13) F dX6_at_12 rfl rfl (by first | exact xref_r | exact xref_n | exact xref_f _ | assumption) ?_
      refine x_getN (q := 16) F dX6_at_13 rfl fn_X6_169 I1 rfl ?_
      refine x_iload_n (q := 17) F dX6_at_16 rfl rfl ?_
      refine x_callV1 (q := 20) F (31, i) c_X0_byteAt dX6_at_17 rfl mv_X0_byteAt ml_X6_188 ⟨⟨xle rfl, xle rfl⟩, xle rfl, xle rfl⟩ rfl I2 (xle rfl) ?_
      refine ⟨(31, i), (32, i), iN (aItm A i), iN (aItm A i), _, y, rfl, I2, I3, Nat.le_refl _, by have := hOK.1; omega, fun _ => ?_⟩
      have hn : iN (aItm A i) < 2 ^ 31 := by have := hOK.1; omega
      rcases pk_ix y hn with zy | zy | ⟨j, hj, rfl⟩
      · rw [rowAt_neg zy]
        have hQX := hQX (by show (match ixN (iN (aItm A i)) y with | none => none | some j => some (nI (iB (aItm A i) j))) = none; rw [ixN_neg zy])
        refine x_istore (q := 22) F dX6_at_20 rfl (by decide) ?_
        refine x_iload (q := 24) F dX6_at_22 rfl rfl ?_
        refine x_iconst (q := 25) (v := -1) F dX6_at_24 rfl (by decide) ?_
        refine x_icmp_ne (q := 28) F 38 dX6_at_25 (by decide) rfl (fun c25 => ?_) (fun c25 => ?_)
        · exact absurd rfl c25
        · exact x_throwS F hl hno (names := ["java/lang/IndexOutOfBoundsException", "java/lang/RuntimeException", "java/lang/Exception"]) (by decide +kernel) (by decide +kernel) xt_w2 F.2.2.2.2.2.2.2.2.2.2.2.2.1 xt_aio xt_aio2 dX6_at_28 dX6_at_31 dX6_at_32 dX6_at_34 dX6_at_37 (by decide) (by decide) (xle rfl) (xle rfl) hQX
      · rw [rowAt_ge hn zy]
        have hQX := hQX (by show (match ixN (iN (aItm A i)) y with | none => none | some j => some (nI (iB (aItm A i) j))) = none; rw [ixN_ge hn zy])
        refine x_istore (q := 22) F dX6_at_20 rfl (by decide) ?_
        refine x_iload (q := 24) F dX6_at_22 rfl rfl ?_
        refine x_iconst (q := 25) (v := -1) F dX6_at_24 rfl (by decide) ?_
        refine x_icmp_ne (q := 28) F 38 dX6_at_25 (by decide) rfl (fun c25 => ?_) (fun c25 => ?_)
        · exact absurd rfl c25
        · exact x_throwS F hl hno (names := ["java/lang/IndexOutOfBoundsException", "java/lang/RuntimeException", "java/lang/Exception"]) (by decide +kernel) (by decide +kernel) xt_w2 F.2.2.2.2.2.2.2.2.2.2.2.2.1 xt_aio xt_aio2 dX6_at_28 dX6_at_31 dX6_at_32 dX6_at_34 dX6_at_37 (by decide) (by decide) (xle rfl) (xle rfl) hQX
      · rw [rowAt_in hj hn]
        have hQ := hQ (nI (iB (aItm A i) j)) (by show (match ixN (iN (aItm A i)) (nI j) with | none => none | some j => some (nI (iB (aItm A i) j))) = _; rw [ixN_nI hj hn])
        refine x_istore (q := 22) F dX6_at_20 rfl (by decide) ?_
        refine x_iload (q := 24) F dX6_at_22 rfl rfl ?_
        refine x_iconst (q := 25) (v := -1) F dX6_at_24 rfl (by decide) ?_
        refine x_icmp_ne (q := 28) F 38 dX6_at_25 (by decide) rfl (fun c25 => ?_) (fun c25 => ?_)
        · refine x_iload (q := 40) F dX6_at_38 rfl rfl ?_
          refine x_back ?_
          refine x_iret F dX6_at_40 (xle rfl) (xle rfl) ?_
          exact hQ
        · exact absurd c25 (nI_neg1 (by have := hOK.2.1 j hj; omega))
    · cases c7
abbrev cJ1 (f : Nat → Int64) : xE := .inl (3, 1, .inr (.inl f))
set_option maxRecDepth 100000 in
theorem c_L_read : Cw yL_read cL_read 3 (some .int) [(0, 8, 11, 13)] (xrm 7 9 107) (fun ad h av Q => ∃ A f, pC ad h A ∧ aOK A ∧ av = [.ref (ad (1, 0)), .ref (ad (90, 0))] ∧ h (90, 0) = some (cJ1 f) ∧ (∀ v B, readF A = (some v, B) → ∀ ad' h', pC ad' h' B → (∀ t : Tg, 40 ≤ t.1 → t ≠ (90, 0) → h' t = h t) → h' (90, 0) = some (cJ1 (vp_updL f 0 v.toInt64)) → Q (some (.int 0)) ad' h') ∧ (∀ B, readF A = (none, B) → ∀ ad' h', pC ad' h' B → fr40 h h' → Q (some (.int 1)) ad' h')) := by
  refine Cw.of (by decide) ?_
  intro p l e s m args below meth c0 G ad h av Q hl hT F hsp
  obtain ⟨A, f, hC, hA, rfl, hO, hQ, hQX⟩ := hsp
  refine ⟨x_ent rfl rfl, ?_⟩
  refine x_ls [(0, .ref (ad (1, 0))), (1, .ref (ad (90, 0)))] rfl ?_
  refine x_aload_n (q := 1) F dL_read_0 rfl rfl (by first | exact xref_r | exact xref_n | exact xref_f _ | assumption) ?_
  refine x_iconst (q := 2) (v := 0) F dL_read_1 rfl (by decide) ?_
  refine x_aload_n (q := 3) F dL_read_2 rfl rfl (by first | exact xref_r | exact xref_n | exact xref_f _ | assumption) ?_
  refine x_callX (q := 6) F hl (1, 0) [] c_X6_read dL_read_3 rfl mv_X6_read ml_L_7 ⟨⟨xle rfl, xle rfl⟩, xle rfl, xle rfl⟩ rfl rfl hC.1 (xle rfl) rfl ?_
  refine ⟨A, hC, hA, rfl, fun v B hv ad2 h2 hC2 hfr hE => ?_, fun B hv ad2 h2 hC2 hfr hE => ?_⟩
  · have e90 : ad2 (90, 0) = ad (90, 0) := (hE (90, 0) (by rw [hO]; exact fun z => by cases z)).2
    have hO2 : h2 (90, 0) = some (cJ1 f) := (hfr (90, 0) (by decide)).trans hO
    rw [← e90]
    show xX p l e _ s m _ below meth c0 G ad h _ _ 6 _ [.int v, .int 0, .ref (ad2 (90, 0))] ad2 h2 _ _
    refine x_i2l (q := 7) F dL_read_6 rfl ?_
    refine x_last (q := 8) F dL_read_7 rfl hO2 (show (0 : Int32) = nI 0 from rfl) (by omega) (by omega) ?_
    refine x_goto F 14 dL_read_8 (by decide) ?_
    refine x_iconst (q := 15) (v := 0) F dL_read_14 rfl (by decide) ?_
    refine x_backW ?_
    refine x_iret F dL_read_15 (xle rfl) (xle rfl) ?_
    exact hQ v B hv ad2 _ (hC2.congr (fun t ht => up_ne (by omega))) (fun t ht hn => (xup_ne _ _ hn).trans (hfr t ht)) (xup_self _ _ _)
  · refine x_catch F ⟨0, 8, 11, 13⟩ hT (by decide) (by decide) xt_w3 (fun q9 => ?_)
    show xX p l e _ s m _ below meth c0 G ad h _ _ 11 _ [.ref q9] ad2 h2 _ _
    refine x_astore_n (q := 12) F dL_read_11 rfl (by decide) (by first | exact xref_r | exact xref_n | exact xref_f _ | assumption) ?_
    refine x_iconst (q := 13) (v := 1) F dL_read_12 rfl (by decide) ?_
    refine x_backW ?_
    refine x_iret F dL_read_13 (xle rfl) (xle rfl) ?_
    exact hQX B hv ad2 h2 hC2 hfr
set_option maxRecDepth 100000 in
theorem c_L_at : Cw yL_at cL_at 5 (some .int) [(0, 10, 13, 19)] (xrm 8 1 6) (fun ad h av Q => ∃ A f x y, pC ad h A ∧ aOK A ∧ av = [.ref (ad (1, 0)), .int x, .int y, .ref (ad (90, 0))] ∧ h (90, 0) = some (cJ1 f) ∧ (∀ v, atF A x y = some v → Q (some (.int 0)) ad (xup h (90, 0) (cJ1 (vp_updL f 0 v.toInt64)))) ∧ (atF A x y = none → Q (some (.int 1)) ad h)) := by
  refine Cw.of (by decide) ?_
  intro p l e s m args below meth c0 G ad h av Q hl hT F hsp
  obtain ⟨A, f, x, y, hC, hA, rfl, hO, hQ, hQX⟩ := hsp
  refine ⟨x_ent rfl rfl, ?_⟩
  refine x_ls [(0, .ref (ad (1, 0))), (1, .int x), (2, .int y), (3, .ref (ad (90, 0)))] rfl ?_
  refine x_aload_n (q := 1) F dL_at_0 rfl rfl (by first | exact xref_r | exact xref_n | exact xref_f _ | assumption) ?_
  refine x_iconst (q := 2) (v := 0) F dL_at_1 rfl (by decide) ?_
  refine x_aload_n (q := 3) F dL_at_2 rfl rfl (by first | exact xref_r | exact xref_n | exact xref_f _ | assumption) ?_
  refine x_iload_n (q := 4) F dL_at_3 rfl rfl ?_
  refine x_iload_n (q := 5) F dL_at_4 rfl rfl ?_
  refine x_callX (q := 8) F hl (1, 0) [.int x, .int y] c_X6_at dL_at_5 rfl mv_X6_at ml_L_15 ⟨⟨xle rfl, xle rfl⟩, xle rfl, xle rfl⟩ rfl rfl hC.1 (xle rfl) rfl ?_
  refine ⟨A, x, y, hC, hA, rfl, fun v hv hE => ?_, fun hv hE => ?_⟩
  · show xX p l e _ s m _ below meth c0 G ad h _ _ 8 _ [.int v, .int 0, .ref (ad (90, 0))] ad h _ _
    refine x_i2l (q := 9) F dL_at_8 rfl ?_
    refine x_last (q := 10) F dL_at_9 rfl hO (show (0 : Int32) = nI 0 from rfl) (by omega) (by omega) ?_
    refine x_goto F 17 dL_at_10 (by decide) ?_
    refine x_iconst (q := 18) (v := 0) F dL_at_17 rfl (by decide) ?_
    refine x_backW ?_
    refine x_iret F dL_at_18 (xle rfl) (xle rfl) ?_
    exact hQ v hv
  · refine x_catch F ⟨0, 10, 13, 19⟩ hT (by decide) (by decide) xt_w4 (fun q9 => ?_)
    show xX p l e _ s m _ below meth c0 G ad h _ _ 13 _ [.ref q9] ad h _ _
    refine x_astore (q := 15) F dL_at_13 rfl (by decide) (by first | exact xref_r | exact xref_n | exact xref_f _ | assumption) ?_
    refine x_iconst (q := 16) (v := 1) F dL_at_15 rfl (by decide) ?_
    refine x_backW ?_
    refine x_iret F dL_at_16 (xle rfl) (xle rfl) ?_
    exact hQX hv
section XSCR
variable {p : Program} {l : Launch} {e : Env} {R : Room} {s : State} {m : MethodId} {args : Array Value} {below : List Frame} {meth : Method} {c : Code} {G : xG} {ad0 : xAd} {h0 : xH} {nL : Nat} {Z : State → Prop} {pc : Nat} {ls : List (Nat × Value)} {st : List Value} {ad : xAd} {h : xH} {k n : Nat} {own : String} {cc : ByteArray} {r : Option FieldType} {nm : String}
theorem x_slen (F : xF p s m args meth c G ad0 h0 own cc nL r nm) {q : Nat} (hd : decode cc pc = .ok (.arraylength, 1)) (hp : pc + 1 = q) (kk : xX p l e R s m args below meth c G ad0 h0 nL Z q ls (.int (nI G.2.2.2.2.1) :: st) ad h k n) : xX p l e R s m args below meth c G ad0 h0 nL Z pc ls (.ref G.2.2.2.1 :: st) ad h k n := by
  subst hp
  exact fun H locs la hR hS hL hE => va_slen F.1 F.2.1 F.2.2.2.2.2.2.2.2.2.2.2.2.2.2.2.2.1 F.2.2.2.2.2.2.2.2.2.2.2.2.2.2.2.2.2.2 F.2.2.2.2.2.2.2.2.2.2.2.2.2.2.2.2.2.1 hS hd (kk H locs la hR hS hL hE)
theorem x_sld (F : xF p s m args meth c G ad0 h0 own cc nL r nm) {q j : Nat} {x : Int32} (hd : decode cc pc = .ok (.iaload, 1)) (hp : pc + 1 = q) (hx : x = nI j) (hj : j < G.2.2.2.2.1) (hN : G.2.2.2.2.1 < 2 ^ 31) (kk : xX p l e R s m args below meth c G ad0 h0 nL Z q ls (.int (G.2.2.2.2.2 j) :: st) ad h k n) : xX p l e R s m args below meth c G ad0 h0 nL Z pc ls (.int x :: .ref G.2.2.2.1 :: st) ad h k n := by
  subst hp; subst hx
  exact fun H locs la hR hS hL hE => va_sld F.1 F.2.1 F.2.2.2.2.2.2.2.2.2.2.2.2.2.2.2.2.1 F.2.2.2.2.2.2.2.2.2.2.2.2.2.2.2.2.2.2 F.2.2.2.2.2.2.2.2.2.2.2.2.2.2.2.2.2.1 hS (vp_in_nI hj hN) hd (by rw [nI_clamp (by omega)]; exact kk H locs la hR hS hL hE)
end XSCR
def cellF (G : xG) (j : Nat) : Int32 := if j < G.2.2.2.2.1 then G.2.2.2.2.2 j else 0
set_option maxRecDepth 100000 in
theorem c_L_cell : CtG yL_cell cL_cell 2 (some .int) (xrm 0 0 0) (fun G ad h av Q => ∃ j, av = [.ref G.2.2.2.1, .int (nI j)] ∧ j < 1000 ∧ G.2.2.2.2.1 < 2 ^ 30 ∧ Q (some (.int (cellF G j))) ad h) := by
  refine CtG.of (by decide +kernel) ?_
  intro p l e s m args below meth c0 G ad h av Q F hsp
  obtain ⟨j, rfl, hj, hL, hQ⟩ := hsp
  refine ⟨x_ent rfl rfl, ?_⟩
  refine x_ls [(0, .ref G.2.2.2.1), (1, .int (nI j))] rfl ?_
  unfold cellF at hQ
  refine x_iload_n (q := 1) F dL_cell_0 rfl rfl ?_
  refine x_aload_n (q := 2) F dL_cell_1 rfl rfl (by first | exact xref_r | exact xref_n | exact xref_f _ | assumption) ?_
  refine x_slen (q := 3) F dL_cell_2 rfl ?_
  refine x_icmp_ge (q := 6) F 12 dL_cell_3 (by decide) rfl (fun c3 => ?_) (fun c3 => ?_)
  · rw [if_neg (by have := (nI_leI (by omega) (by omega)).mp c3; omega)] at hQ
    refine x_iconst (q := 13) (v := 0) F dL_cell_12 rfl (by decide) ?_
    refine x_iret F dL_cell_13 (xle rfl) (xle rfl) ?_
    exact hQ
  · have hlt : j < G.2.2.2.2.1 := by
      rcases Nat.lt_or_ge j G.2.2.2.2.1 with q | q
      · exact q
      · exact absurd ((nI_leI (by omega) (by omega)).mpr q) c3
    rw [if_pos hlt] at hQ
    refine x_aload_n (q := 7) F dL_cell_6 rfl rfl (by first | exact xref_r | exact xref_n | exact xref_f _ | assumption) ?_
    refine x_iload_n (q := 8) F dL_cell_7 rfl rfl ?_
    refine x_sld (q := 9) F dL_cell_8 rfl rfl hlt (by omega) ?_
    refine x_goto F 13 dL_cell_9 (by decide) ?_
    refine x_iret F dL_cell_13 (xle rfl) (xle rfl) ?_
    exact hQ
