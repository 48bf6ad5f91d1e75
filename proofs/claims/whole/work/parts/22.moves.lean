/-! ===== the class's state under changes of its cells ===== -/
theorem pScr.congr {ad : xAd} {h h' : xH} {s : Nat} {d : ScrD} (H : pScr ad h s d) (e : ∀ k, 20 ≤ k → k ≤ 28 → h' (k, s) = h (k, s)) : pScr ad h' s d := by
  obtain ⟨a1, a2, a3, a4, a5, a6, a7, a8, a9⟩ := H
  exact ⟨(e 20 (by omega) (by omega)).trans a1, (e 21 (by omega) (by omega)).trans a2, (e 22 (by omega) (by omega)).trans a3, (e 23 (by omega) (by omega)).trans a4, (e 24 (by omega) (by omega)).trans a5, (e 25 (by omega) (by omega)).trans a6, (e 26 (by omega) (by omega)).trans a7, (e 27 (by omega) (by omega)).trans a8, (e 28 (by omega) (by omega)).trans a9⟩
theorem pItm.congr {ad : xAd} {h h' : xH} {i : Nat} {d : ItmD} (H : pItm ad h i d) (e : ∀ k, 30 ≤ k → k ≤ 32 → h' (k, i) = h (k, i)) : pItm ad h' i d := by
  obtain ⟨a1, a2, a3⟩ := H
  exact ⟨(e 30 (by omega) (by omega)).trans a1, (e 31 (by omega) (by omega)).trans a2, (e 32 (by omega) (by omega)).trans a3⟩
theorem pTx.congr {ad : xAd} {h h' : xH} {A : AS} (H : pTx ad h A) (e : ∀ k, 2 ≤ k → k ≤ 5 → h' (k, 0) = h (k, 0)) : pTx ad h' A := by
  obtain ⟨lt, nu, k, a1, a2, a3, a4⟩ := H
  exact ⟨lt, nu, k, (e 2 (by omega) (by omega)).trans a1, (e 3 (by omega) (by omega)).trans a2, (e 4 (by omega) (by omega)).trans a3, (e 5 (by omega) (by omega)).trans a4⟩
theorem pRn.congr {ad : xAd} {h h' : xH} {A : AS} (H : pRn ad h A) (e : ∀ k, 10 ≤ k → k ≤ 13 → h' (k, 0) = h (k, 0)) : pRn ad h' A := by
  obtain ⟨mem, a, i, p, fl, a1, a2, a3, a4⟩ := H
  exact ⟨mem, a, i, p, fl, (e 11 (by omega) (by omega)).trans a1, (e 13 (by omega) (by omega)).trans a2, (e 12 (by omega) (by omega)).trans a3, (e 10 (by omega) (by omega)).trans a4⟩
/-- nothing but tags of 40 and more has changed -/
theorem pC.congr {ad : xAd} {h h' : xH} {A : AS} (H : pC ad h A) (e : ∀ t : Tg, t.1 < 40 → h' t = h t) : pC ad h' A := by
  obtain ⟨hM, hT, ⟨c1, c2⟩, ⟨s1, s2, s3⟩, ⟨i1, i2, i3⟩, hR⟩ := H
  exact ⟨(e _ (by decide)).trans hM, hT.congr (fun k _ _ => e _ (by show k < 40; omega)), ⟨(e _ (by decide)).trans c1, (e _ (by decide)).trans c2⟩, ⟨(e _ (by decide)).trans s1, fun s hs => (s2 s hs).congr (fun k _ _ => e _ (by show k < 40; omega)), fun k s q1 q2 q3 => (e _ (by show k < 40; omega)).trans (s3 k s q1 q2 q3)⟩, ⟨(e _ (by decide)).trans i1, fun i hi => (i2 i hi).congr (fun k _ _ => e _ (by show k < 40; omega)), fun k i q1 q2 q3 => (e _ (by show k < 40; omega)).trans (i3 k i q1 q2 q3)⟩, hR.congr (fun k _ _ => e _ (by show k < 40; omega))⟩
def fr40 (h h' : xH) : Prop := ∀ t : Tg, 40 ≤ t.1 → h' t = h t
theorem fr40.rf {h : xH} : fr40 h h := fun _ _ => rfl
theorem fr40.tr {h h1 h2 : xH} (a : fr40 h h1) (b : fr40 h1 h2) : fr40 h h2 := fun t q => (b t q).trans (a t q)
theorem fr40.up {h : xH} {k i : Nat} {e : xE} (q : k < 40) : fr40 h (xup h (k, i) e) := fun t ht => xup_ne _ _ (fun z => by rw [z] at ht; have : 40 ≤ k := ht; omega)
theorem up_ne {h : xH} {k i : Nat} {e : xE} {t : Tg} (q : t.1 ≠ k) : xup h (k, i) e t = h t := xup_ne _ _ (fun z => q (congrArg Prod.fst z))
theorem pC.item {ad : xAd} {h : xH} {A : AS} (H : pC ad h A) {i : Nat} (hi : i < aI A) {d : ItmD} (hd : d.1 = (aItm A i).1) : pC ad (xup h (30, i) (cItem (ad (31, i)) (optI (iFr d)) (optI (iBy d)) (nI (iRt d)) (optI (iBt d)) (iGn d))) (setIt A (aI A, updI (aItm A) i d)) := by
  obtain ⟨hM, hT, ⟨c1, c2⟩, ⟨s1, s2, s3⟩, ⟨i1, i2, i3⟩, hR⟩ := H
  have o : ∀ t : Tg, t.1 ≠ 30 → xup h (30, i) (cItem (ad (31, i)) (optI (iFr d)) (optI (iBy d)) (nI (iRt d)) (optI (iBt d)) (iGn d)) t = h t := fun t q => up_ne q
  refine ⟨(o _ (by decide)).trans hM, hT.congr (fun k _ _ => o _ (by show k ≠ 30; omega)), ⟨(o _ (by decide)).trans c1, (o _ (by decide)).trans c2⟩, ⟨(o _ (by decide)).trans s1, fun s hs => (s2 s hs).congr (fun k _ _ => o _ (by show k ≠ 30; omega)), fun k s q1 q2 q3 => (o _ (by show k ≠ 30; omega)).trans (s3 k s q1 q2 q3)⟩, ⟨(o _ (by decide)).trans i1, fun j hj => ?_, fun k j q1 q2 q3 => ?_⟩, hR.congr (fun k _ _ => o _ (by show k ≠ 30; omega))⟩
  · have hj : j < aI A := hj
    by_cases z : j = i
    · subst z
      show pItm ad _ j (updI (aItm A) j d j)
      rw [show updI (aItm A) j d j = d from if_pos rfl]
      obtain ⟨a1, a2, a3⟩ := i2 j hi
      refine ⟨xup_self _ _ _, (o _ (by show 31 ≠ 30; omega)).trans ?_, (o _ (by show 32 ≠ 30; omega)).trans ?_⟩
      · rw [a2]; unfold iN; rw [hd]
      · rw [a3]; unfold iN iB; rw [hd]
    · show pItm ad _ j (updI (aItm A) i d j)
      rw [show updI (aItm A) i d j = aItm A j from if_neg z]
      refine (i2 j hj).congr (fun k q1 q2 => ?_)
      exact xup_ne _ _ (fun w => z (congrArg Prod.snd w))
  · have q3 : aI A ≤ j := q3
    rw [xup_ne _ _ (fun w => by have := congrArg Prod.snd w; have h2 : j = i := this; omega)]
    exact i3 k j q1 q2 q3
def s_dismiss : xSp := fun ad h av Q => ∃ A i, pC ad h A ∧ aOK A ∧ i < aI A ∧ av = [.ref (ad (1, 0)), .int (nI i)] ∧ (iGn (aItm A i) = true → Q (some (.int 0)) ad h) ∧
  (iGn (aItm A i) = false → ∀ h', pC ad h' (setIt A (aI A, updI (aItm A) i (setGn (aItm A i) true))) → fr40 h h' → Q (some (.int 1)) ad h')
set_option maxRecDepth 100000 in
theorem c_X6_dismiss : Ct yX6_dismiss cX6_dismiss 3 (some .int) (xrm 2 0 0) s_dismiss := by
  refine Ct.of (by decide) ?_
  intro p l e s m args below meth c0 G ad h av Q F hsp
  obtain ⟨A, i, hC, hA, hi, rfl, hQ0, hQ1⟩ := hsp
  refine ⟨x_ent rfl rfl, ?_⟩
  refine x_ls [(0, .ref (ad (1, 0))), (1, .int (nI i))] rfl ?_
  refine x_aload_n (q := 1) F dX6_dismiss_0 rfl rfl (by first | exact xref_r | exact xref_n | exact xref_f _ | assumption) ?_
  refine x_iload_n (q := 2) F dX6_dismiss_1 rfl rfl ?_
  refine x_callV1 (q := 5) F (1, 0) c_X6_liveItem dX6_dismiss_2 rfl mv_X6_liveItem ml_X6_123 ⟨⟨xle rfl, xle rfl⟩, xle rfl, xle rfl⟩ rfl hC.1 (xle rfl) ?_
  refine ⟨A, nI i, hC, hA, rfl, fun _ => ?_⟩
  have e1 := (hC.2.2.2.2.1.2.1 i hi).1
  cases hg : iGn (aItm A i) with
  | true =>
    rw [show liveV ad A (nI i) = .null by unfold liveV; rw [liveN_nI hA hi, if_pos hg]; rfl]
    refine x_astore_n (q := 6) F dX6_dismiss_5 rfl (by decide) (by first | exact xref_r | exact xref_n | exact xref_f _ | assumption) ?_
    refine x_aload_n (q := 7) F dX6_dismiss_6 rfl rfl (by first | exact xref_r | exact xref_n | exact xref_f _ | assumption) ?_
    refine x_ifnonnull (q := 10) F 12 dX6_dismiss_7 (by decide) rfl (by first | exact xref_r | exact xref_n | exact xref_f _ | assumption) (fun a7 c7 => ?_) (fun c7 => ?_)
    · cases c7
    · refine x_iconst (q := 11) (v := 0) F dX6_dismiss_10 rfl (by decide) ?_
      refine x_iret F dX6_dismiss_11 (xle rfl) (xle rfl) ?_
      exact hQ0 hg
  | false =>
    rw [show liveV ad A (nI i) = .ref (ad (30, i)) by unfold liveV; rw [liveN_nI hA hi, if_neg (by rw [hg]; decide)]; rfl]
    refine x_astore_n (q := 6) F dX6_dismiss_5 rfl (by decide) (by first | exact xref_r | exact xref_n | exact xref_f _ | assumption) ?_
    refine x_aload_n (q := 7) F dX6_dismiss_6 rfl rfl (by first | exact xref_r | exact xref_n | exact xref_f _ | assumption) ?_
    refine x_ifnonnull (q := 10) F 12 dX6_dismiss_7 (by decide) rfl (by first | exact xref_r | exact xref_n | exact xref_f _ | assumption) (fun a7 c7 => ?_) (fun c7 => ?_)
    · refine x_aload_n (q := 13) F dX6_dismiss_12 rfl rfl (by first | exact xref_r | exact xref_n | exact xref_f _ | assumption) ?_
      refine x_iconst (q := 14) (v := 1) F dX6_dismiss_13 rfl (by decide) ?_
      refine x_putN (q := 17) F dX6_dismiss_14 rfl fn_X6_181 e1 (xle rfl) rfl rfl ?_
      refine x_iconst (q := 18) (v := 1) F dX6_dismiss_17 rfl (by decide) ?_
      refine x_iret F dX6_dismiss_18 (xle rfl) (xle rfl) ?_
      exact hQ1 hg _ (hC.item hi (d := setGn (aItm A i) true) rfl) (fr40.up (by decide))
    · cases c7
def s_joinBatch : xSp := fun ad h av Q => ∃ A x, pC ad h A ∧ aOK A ∧ av = [.ref (ad (1, 0)), .int x] ∧ (ixN (aI A) x = none → Q (some (.int 0)) ad h) ∧
  (∀ i, ixN (aI A) x = some i → ∀ h', pC ad h' (setIt A (aI A, updI (aItm A) i (setBt (aItm A i) (some (aOb A))))) → fr40 h h' → Q (some (.int 1)) ad h')
set_option maxRecDepth 100000 in
theorem c_X6_joinBatch : Ct yX6_joinBatch cX6_joinBatch 3 (some .boolean) (xrm 1 0 0) s_joinBatch := by
  refine Ct.of (by decide) ?_
  intro p l e s m args below meth c0 G ad h av Q F hsp
  obtain ⟨A, x, hC, hA, rfl, hQ0, hQ1⟩ := hsp
  refine ⟨x_ent rfl rfl, ?_⟩
  refine x_ls [(0, .ref (ad (1, 0))), (1, .int x)] rfl ?_
  refine x_aload_n (q := 1) F dX6_joinBatch_0 rfl rfl (by first | exact xref_r | exact xref_n | exact xref_f _ | assumption) ?_
  refine x_iload_n (q := 2) F dX6_joinBatch_1 rfl rfl ?_
  refine x_callV1 (q := 5) F (1, 0) c_X6_itemOf dX6_joinBatch_2 rfl mv_X6_itemOf ml_X6_166 ⟨⟨xle rfl, xle rfl⟩, xle rfl, xle rfl⟩ rfl hC.1 (xle rfl) ?_
  refine ⟨A, x, hC, hA, rfl, fun _ => ?_⟩
  cases hx : ixN (aI A) x with
  | none =>
    rw [show itmV ad A x = .null by unfold itmV; rw [hx]; rfl]
    refine x_astore_n (q := 6) F dX6_joinBatch_5 rfl (by decide) (by first | exact xref_r | exact xref_n | exact xref_f _ | assumption) ?_
    refine x_aload_n (q := 7) F dX6_joinBatch_6 rfl rfl (by first | exact xref_r | exact xref_n | exact xref_f _ | assumption) ?_
    refine x_ifnonnull (q := 10) F 12 dX6_joinBatch_7 (by decide) rfl (by first | exact xref_r | exact xref_n | exact xref_f _ | assumption) (fun a7 c7 => ?_) (fun c7 => ?_)
    · cases c7
    · refine x_iconst (q := 11) (v := 0) F dX6_joinBatch_10 rfl (by decide) ?_
      refine x_zret F dX6_joinBatch_11 (xle rfl) (xle rfl) (by first | exact Or.inl rfl | exact Or.inr rfl) ?_
      exact hQ0 hx
  | some i =>
    obtain ⟨hi, rfl⟩ := ixN_some (by have := hA.2.2.2.1.1; omega) hx
    rw [show itmV ad A (nI i) = .ref (ad (30, i)) by unfold itmV; rw [hx]; rfl]
    have e1 := (hC.2.2.2.2.1.2.1 i hi).1
    refine x_astore_n (q := 6) F dX6_joinBatch_5 rfl (by decide) (by first | exact xref_r | exact xref_n | exact xref_f _ | assumption) ?_
    refine x_aload_n (q := 7) F dX6_joinBatch_6 rfl rfl (by first | exact xref_r | exact xref_n | exact xref_f _ | assumption) ?_
    refine x_ifnonnull (q := 10) F 12 dX6_joinBatch_7 (by decide) rfl (by first | exact xref_r | exact xref_n | exact xref_f _ | assumption) (fun a7 c7 => ?_) (fun c7 => ?_)
    · refine x_aload_n (q := 13) F dX6_joinBatch_12 rfl rfl (by first | exact xref_r | exact xref_n | exact xref_f _ | assumption) ?_
      refine x_aload_n (q := 14) F dX6_joinBatch_13 rfl rfl (by first | exact xref_r | exact xref_n | exact xref_f _ | assumption) ?_
      refine x_get (q := 17) F dX6_joinBatch_14 rfl fs_X6_44 hC.1 rfl ?_
      refine x_putN (q := 20) F dX6_joinBatch_17 rfl fn_X6_210 e1 (xle rfl) rfl rfl ?_
      refine x_iconst (q := 21) (v := 1) F dX6_joinBatch_20 rfl (by decide) ?_
      refine x_zret F dX6_joinBatch_21 (xle rfl) (xle rfl) (by first | exact Or.inl rfl | exact Or.inr rfl) ?_
      exact hQ1 i hx _ (hC.item hi (d := setBt (aItm A i) (some (aOb A))) rfl) (fr40.up (by decide))
    · cases c7
def s_leaveBatch : xSp := fun ad h av Q => ∃ A i, pC ad h A ∧ aOK A ∧ i < aI A ∧ av = [.ref (ad (1, 0)), .int (nI i)] ∧ (iBt (aItm A i) ≠ some (aOb A) → Q (some (.int 0)) ad h) ∧
  (iBt (aItm A i) = some (aOb A) → ∀ h', pC ad h' (setIt A (aI A, updI (aItm A) i (setBt (aItm A i) none))) → fr40 h h' → Q (some (.int 1)) ad h')
set_option maxRecDepth 100000 in
theorem c_X6_leaveBatch : Ct yX6_leaveBatch cX6_leaveBatch 3 (some .boolean) (xrm 1 0 0) s_leaveBatch := by
  refine Ct.of (by decide) ?_
  intro p l e s m args below meth c0 G ad h av Q F hsp
  obtain ⟨A, i, hC, hA, hi, rfl, hQ0, hQ1⟩ := hsp
  have hob := hA.2.2.2.2.2.2.2.1
  refine ⟨x_ent rfl rfl, ?_⟩
  refine x_ls [(0, .ref (ad (1, 0))), (1, .int (nI i))] rfl ?_
  refine x_aload_n (q := 1) F dX6_leaveBatch_0 rfl rfl (by first | exact xref_r | exact xref_n | exact xref_f _ | assumption) ?_
  refine x_iload_n (q := 2) F dX6_leaveBatch_1 rfl rfl ?_
  refine x_callV1 (q := 5) F (1, 0) c_X6_itemOf dX6_leaveBatch_2 rfl mv_X6_itemOf ml_X6_166 ⟨⟨xle rfl, xle rfl⟩, xle rfl, xle rfl⟩ rfl hC.1 (xle rfl) ?_
  refine ⟨A, nI i, hC, hA, rfl, fun _ => ?_⟩
  rw [show itmV ad A (nI i) = .ref (ad (30, i)) by unfold itmV; rw [ixN_nI hi (by have := hA.2.2.2.1.1; omega)]; rfl]
  have e1 := (hC.2.2.2.2.1.2.1 i hi).1
  have hbt : ∀ v, iBt (aItm A i) = some v → v < 2 ^ 31 := fun v hv => by have := (hA.2.2.2.1.2 i hi).2.2.2.2.2.1 v hv; omega
  refine x_astore_n (q := 6) F dX6_leaveBatch_5 rfl (by decide) (by first | exact xref_r | exact xref_n | exact xref_f _ | assumption) ?_
  refine x_aload_n (q := 7) F dX6_leaveBatch_6 rfl rfl (by first | exact xref_r | exact xref_n | exact xref_f _ | assumption) ?_
  refine x_ifnull (q := 10) F 21 dX6_leaveBatch_7 (by decide) rfl (by first | exact xref_r | exact xref_n | exact xref_f _ | assumption) (fun c7 => ?_) (fun a7 c7 => ?_)
  · cases c7
  · refine x_aload_n (q := 11) F dX6_leaveBatch_10 rfl rfl (by first | exact xref_r | exact xref_n | exact xref_f _ | assumption) ?_
    refine x_getN (q := 14) F dX6_leaveBatch_11 rfl fn_X6_210 e1 rfl ?_
    refine x_aload_n (q := 15) F dX6_leaveBatch_14 rfl rfl (by first | exact xref_r | exact xref_n | exact xref_f _ | assumption) ?_
    refine x_get (q := 18) F dX6_leaveBatch_15 rfl fs_X6_44 hC.1 rfl ?_
    refine x_icmp_eq (q := 21) F 23 dX6_leaveBatch_18 (by decide) rfl (fun c18 => ?_) (fun c18 => ?_)
    · have hz : iBt (aItm A i) = some (aOb A) := (optI_inj hbt (o' := some (aOb A)) (fun v z => by cases z; omega)).mp c18
      refine x_aload_n (q := 24) F dX6_leaveBatch_23 rfl rfl (by first | exact xref_r | exact xref_n | exact xref_f _ | assumption) ?_
      refine x_iconst (q := 25) (v := -1) F dX6_leaveBatch_24 rfl (by decide) ?_
      refine x_putN (q := 28) F dX6_leaveBatch_25 rfl fn_X6_210 e1 (xle rfl) rfl rfl ?_
      refine x_iconst (q := 29) (v := 1) F dX6_leaveBatch_28 rfl (by decide) ?_
      refine x_zret F dX6_leaveBatch_29 (xle rfl) (xle rfl) (by first | exact Or.inl rfl | exact Or.inr rfl) ?_
      exact hQ1 hz _ (hC.item hi (d := setBt (aItm A i) none) rfl) (fr40.up (by decide))
    · refine x_iconst (q := 22) (v := 0) F dX6_leaveBatch_21 rfl (by decide) ?_
      refine x_zret F dX6_leaveBatch_22 (xle rfl) (xle rfl) (by first | exact Or.inl rfl | exact Or.inr rfl) ?_
      exact hQ0 (fun z => c18 (by rw [z]; rfl))
theorem refN_s (ad : xAd) (k n : Nat) : va_up (refN ad k n) n (some (ad (k, n))) = refN ad k (n + 1) := by
  funext j
  unfold va_up refN
  by_cases q : j = n
  · rw [if_pos q, if_pos (by omega), q]
  · rw [if_neg q]
    by_cases z : j < n
    · rw [if_pos z, if_pos (by omega)]
    · rw [if_neg z, if_neg (by omega)]
def s_keep : xSp := fun ad h av Q => ∃ (A : AS) (vs : List Value), h (1, 0) = some (cMain ad A) ∧ h (9, 0) = some (cQ 5 60 (refN ad 30 (aI A))) ∧ aI A < 60 ∧ h (30, aI A) = some (.inr (2, vs)) ∧ av = [.ref (ad (1, 0)), .ref (ad (30, aI A))] ∧
  Q (some (.int (nI (aI A)))) ad (xup (xup h (9, 0) (cQ 5 60 (refN ad 30 (aI A + 1)))) (1, 0) (cMain ad (setIt A (aI A + 1, aItm A))))
set_option maxRecDepth 100000 in
theorem c_X6_keep : Ct yX6_keep cX6_keep 2 (some .int) (xrm 0 0 0) s_keep := by
  refine Ct.of (by decide) ?_
  intro p l e s m args below meth c0 G ad h av Q F hsp
  obtain ⟨A, vs, hM, hArr, hlt, hIt, rfl, hQ⟩ := hsp
  refine ⟨x_ent rfl rfl, ?_⟩
  refine x_ls [(0, .ref (ad (1, 0))), (1, .ref (ad (30, aI A)))] rfl ?_
  refine x_aload_n (q := 1) F dX6_keep_0 rfl rfl (by first | exact xref_r | exact xref_n | exact xref_f _ | assumption) ?_
  refine x_get (q := 4) F dX6_keep_1 rfl fs_X6_41 hM rfl ?_
  refine x_bipush (q := 6) (v := 60) F dX6_keep_4 rfl (by decide) ?_
  refine x_icmp_lt (q := 9) F 12 dX6_keep_6 (by decide) rfl (fun c6 => ?_) (fun c6 => ?_)
  · refine x_aload_n (q := 13) F dX6_keep_12 rfl rfl (by first | exact xref_r | exact xref_n | exact xref_f _ | assumption) ?_
    refine x_get (q := 16) F dX6_keep_13 rfl fs_X6_33 hM rfl ?_
    refine x_aload_n (q := 17) F dX6_keep_16 rfl rfl (by first | exact xref_r | exact xref_n | exact xref_f _ | assumption) ?_
    refine x_get (q := 20) F dX6_keep_17 rfl fs_X6_41 hM rfl ?_
    refine x_aload_n (q := 21) F dX6_keep_20 rfl rfl (by first | exact xref_r | exact xref_n | exact xref_f _ | assumption) ?_
    refine x_aast5 (q := 22) F dX6_keep_21 rfl hArr hIt rfl hlt (by omega) ?_
    rw [refN_s]
    refine x_aload_n (q := 23) F dX6_keep_22 rfl rfl (by first | exact xref_r | exact xref_n | exact xref_f _ | assumption) ?_
    refine x_dup (q := 24) F dX6_keep_23 rfl rfl ?_
    refine x_get (q := 27) F dX6_keep_24 rfl fs_X6_41 (xk hM) rfl ?_
    refine x_iconst (q := 28) (v := 1) F dX6_keep_27 rfl (by decide) ?_
    refine x_iadd (q := 29) F dX6_keep_28 rfl ?_
    refine x_topi (nI_1 _) ?_
    refine x_put (q := 32) F dX6_keep_29 rfl fs_X6_41 (xk hM) (xle rfl) rfl rfl ?_
    refine x_aload_n (q := 33) F dX6_keep_32 rfl rfl (by first | exact xref_r | exact xref_n | exact xref_f _ | assumption) ?_
    refine x_get (q := 36) F dX6_keep_33 rfl fs_X6_41 (xup_self _ _ _) rfl ?_
    refine x_iconst (q := 37) (v := 1) F dX6_keep_36 rfl (by decide) ?_
    refine x_isub (q := 38) F dX6_keep_37 rfl ?_
    refine x_topi (nI_pred (aI A)) ?_
    refine x_iret F dX6_keep_38 (xle rfl) (xle rfl) ?_
    exact hQ
  · exact absurd ((nI_ltI (a := aI A) (b := 60) (by omega) (by omega)).mpr hlt) c6
theorem pC.run {ad : xAd} {h : xH} {A : AS} (H : pC ad h A) (q : RS) (fa : Option Nat) (ct : Nat) : pC ad (wR h ad (aSt A) (aNc A) q (optI fa) (lN ct)) (setRn A (rNo q, rOut q) (fa, ct)) := by
  obtain ⟨mem, no, out, a, i, p, fl⟩ := q
  obtain ⟨hM, hT, ⟨c1, c2⟩, ⟨s1, s2, s3⟩, ⟨i1, i2, i3⟩, hR⟩ := H
  have o : ∀ t : Tg, ¬ (10 ≤ t.1 ∧ t.1 ≤ 13) → wR h ad (aSt A) (aNc A) (mem, no, out, a, i, p, fl) (optI fa) (lN ct) t = h t := by
    intro t ht
    have n1 : t.1 ≠ 10 := fun z => ht (by omega)
    have n2 : t.1 ≠ 11 := fun z => ht (by omega)
    have n3 : t.1 ≠ 12 := fun z => ht (by omega)
    have n4 : t.1 ≠ 13 := fun z => ht (by omega)
    show xup _ (10, 0) _ t = _
    rw [up_ne n1, up_ne n3, up_ne n4, up_ne n2]
  exact ⟨(o _ (by decide)).trans hM, hT.congr (fun k _ _ => o _ (by show ¬ (10 ≤ k ∧ k ≤ 13); omega)), ⟨(o _ (by decide)).trans c1, (o _ (by decide)).trans c2⟩, ⟨(o _ (by decide)).trans s1, fun s hs => (s2 s hs).congr (fun k _ _ => o _ (by show ¬ (10 ≤ k ∧ k ≤ 13); omega)), fun k s q1 q2 q3 => (o _ (by show ¬ (10 ≤ k ∧ k ≤ 13); omega)).trans (s3 k s q1 q2 q3)⟩, ⟨(o _ (by decide)).trans i1, fun j hj => (i2 j hj).congr (fun k _ _ => o _ (by show ¬ (10 ≤ k ∧ k ≤ 13); omega)), fun k j q1 q2 q3 => (o _ (by show ¬ (10 ≤ k ∧ k ≤ 13); omega)).trans (i3 k j q1 q2 q3)⟩, mem, a, i, p, fl, rfl, rfl, rfl, rfl⟩
theorem wR_fr40 {ad : xAd} {h : xH} {st nc : Nat} {q : RS} {fa : Int32} {all : Int64} : fr40 h (wR h ad st nc q fa all) := by
  obtain ⟨mem, no, out, a, i, p, fl⟩ := q
  intro t ht
  show xup _ (10, 0) _ t = _
  rw [up_ne (by omega), up_ne (by omega), up_ne (by omega), up_ne (by omega)]
theorem pRn.view {ad : xAd} {h : xH} {A : AS} (H : pRn ad h A) : ∃ q : RS, rOut q = aOut A ∧ rNo q = aNo A ∧ h = wR h ad (aSt A) (aNc A) q (optI (aFa A)) (lN (aCt A)) := by
  obtain ⟨mem, a, i, p, fl, a1, a2, a3, a4⟩ := H
  refine ⟨(mem, aNo A, aOut A, a, i, p, fl), rfl, rfl, ?_⟩
  show h = xup (xup (xup (xup h (11, 0) _) (13, 0) _) (12, 0) _) (10, 0) _
  rw [xup_same h a1, xup_same h a2, xup_same h a3, xup_same h a4]
