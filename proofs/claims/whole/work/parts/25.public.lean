/-! ===== the class's public methods ===== -/
theorem pC.text {ad : xAd} {h : xH} {A : AS} (H : pC ad h A) (ns : Nat) (sg lt nu : Nat → Nat) (k : Nat) : pC ad (wT h ad ns sg lt nu k) (setTx A (ns, sg)) := by
  obtain ⟨hM, hT, ⟨c1, c2⟩, ⟨s1, s2, s3⟩, ⟨i1, i2, i3⟩, hR⟩ := H
  have o : ∀ t : Tg, ¬ (2 ≤ t.1 ∧ t.1 ≤ 5) → wT h ad ns sg lt nu k t = h t := by
    intro t ht
    show xup _ (2, 0) _ t = _
    rw [up_ne (fun z => ht (by omega)), up_ne (fun z => ht (by omega)), up_ne (fun z => ht (by omega)), up_ne (fun z => ht (by omega))]
  exact ⟨(o _ (by decide)).trans hM, ⟨lt, nu, k, rfl, rfl, rfl, rfl⟩, ⟨(o _ (by decide)).trans c1, (o _ (by decide)).trans c2⟩, ⟨(o _ (by decide)).trans s1, fun s hs => (s2 s hs).congr (fun k _ _ => o _ (by show ¬ (2 ≤ k ∧ k ≤ 5); omega)), fun k s q1 q2 q3 => (o _ (by show ¬ (2 ≤ k ∧ k ≤ 5); omega)).trans (s3 k s q1 q2 q3)⟩, ⟨(o _ (by decide)).trans i1, fun j hj => (i2 j hj).congr (fun k _ _ => o _ (by show ¬ (2 ≤ k ∧ k ≤ 5); omega)), fun k j q1 q2 q3 => (o _ (by show ¬ (2 ≤ k ∧ k ≤ 5); omega)).trans (i3 k j q1 q2 q3)⟩, hR.congr (fun k _ _ => o _ (by show ¬ (2 ≤ k ∧ k ≤ 5); omega))⟩
theorem wT_fr40 {ad : xAd} {h : xH} {ns : Nat} {sg lt nu : Nat → Nat} {k : Nat} : fr40 h (wT h ad ns sg lt nu k) := by
  intro t ht
  show xup _ (2, 0) _ t = _
  rw [up_ne (by omega), up_ne (by omega), up_ne (by omega), up_ne (by omega)]
theorem pTx.view {ad : xAd} {h : xH} {A : AS} (H : pTx ad h A) : ∃ lt nu k, h = wT h ad (aNs A) (aSg A) lt nu k := by
  obtain ⟨lt, nu, k, a1, a2, a3, a4⟩ := H
  refine ⟨lt, nu, k, ?_⟩
  show h = xup (xup (xup (xup h (3, 0) _) (4, 0) _) (5, 0) _) (2, 0) _
  rw [xup_same h a2, xup_same h a3, xup_same h a4, xup_same h a1]
theorem pC.co {ad : xAd} {h : xH} {A : AS} (H : pC ad h A) {h' : xH} (n : Nat) (f : Nat → Nat) (h6 : h' (6, 0) = some (cRow (ad (7, 0)) (nI n))) (h7 : h' (7, 0) = some (cN 40 f)) (o : ∀ t : Tg, t ≠ (6, 0) → t ≠ (7, 0) → h' t = h t) : pC ad h' (setCo A (n, f)) := by
  obtain ⟨hM, hT, ⟨c1, c2⟩, ⟨s1, s2, s3⟩, ⟨i1, i2, i3⟩, hR⟩ := H
  have o2 : ∀ k i, k ≠ 6 → k ≠ 7 → h' (k, i) = h (k, i) := fun k i q1 q2 => o _ (tg_ne q1 _ _) (tg_ne q2 _ _)
  exact ⟨(o2 1 0 (by omega) (by omega)).trans hM, hT.congr (fun k _ _ => o2 k 0 (by omega) (by omega)), ⟨h6, h7⟩, ⟨(o2 8 0 (by omega) (by omega)).trans s1, fun s hs => (s2 s hs).congr (fun k _ _ => o2 k s (by omega) (by omega)), fun k s q1 q2 q3 => (o2 k s (by omega) (by omega)).trans (s3 k s q1 q2 q3)⟩, ⟨(o2 9 0 (by omega) (by omega)).trans i1, fun j hj => (i2 j hj).congr (fun k _ _ => o2 k j (by omega) (by omega)), fun k j q1 q2 q3 => (o2 k j (by omega) (by omega)).trans (i3 k j q1 q2 q3)⟩, hR.congr (fun k _ _ => o2 k 0 (by omega) (by omega))⟩
theorem pC.main {ad : xAd} {h : xH} {A B : AS} (H : pC ad h A) (e : B.1 = A.1 ∧ B.2.1 = A.2.1 ∧ B.2.2.1 = A.2.2.1 ∧ B.2.2.2.1 = A.2.2.2.1 ∧ B.2.2.2.2.1 = A.2.2.2.2.1 ∧ B.2.2.2.2.2.1 = A.2.2.2.2.2.1 ∧ B.2.2.2.2.2.2.1 = A.2.2.2.2.2.2.1) : pC ad (xup h (1, 0) (cMain ad B)) B := by
  obtain ⟨x1, x2, x3, x4, x5, x6, x7, x8⟩ := A
  obtain ⟨y1, y2, y3, y4, y5, y6, y7, y8⟩ := B
  obtain ⟨e1, e2, e3, e4, e5, e6, e7⟩ := e
  have e1 : y1 = x1 := e1
  have e2 : y2 = x2 := e2
  have e3 : y3 = x3 := e3
  have e4 : y4 = x4 := e4
  have e5 : y5 = x5 := e5
  have e6 : y6 = x6 := e6
  have e7 : y7 = x7 := e7
  subst e1; subst e2; subst e3; subst e4; subst e5; subst e6; subst e7
  obtain ⟨hM, hT, ⟨c1, c2⟩, ⟨s1, s2, s3⟩, ⟨i1, i2, i3⟩, hR⟩ := H
  have o : ∀ k i, k ≠ 1 → xup h (1, 0) (cMain ad (y1, y2, y3, y4, y5, y6, y7, y8)) (k, i) = h (k, i) := fun k i q => up_ne q
  exact ⟨xup_self _ _ _, pTx.congr (A := (y1, y2, y3, y4, y5, y6, y7, y8)) hT (fun k _ _ => o k 0 (by omega)), ⟨(o 6 0 (by omega)).trans c1, (o 7 0 (by omega)).trans c2⟩, ⟨(o 8 0 (by omega)).trans s1, fun s hs => (s2 s hs).congr (fun k _ _ => o k s (by omega)), fun k s q1 q2 q3 => (o k s (by omega)).trans (s3 k s q1 q2 q3)⟩, ⟨(o 9 0 (by omega)).trans i1, fun j hj => (i2 j hj).congr (fun k _ _ => o k j (by omega)), fun k j q1 q2 q3 => (o k j (by omega)).trans (i3 k j q1 q2 q3)⟩, pRn.congr (A := (y1, y2, y3, y4, y5, y6, y7, y8)) hR (fun k _ _ => o k 0 (by omega))⟩
/-- a public call: from the state A, the answer r and the state B -/
def pub (f : AS → List Value → Option (Option Value × AS)) : xSp := fun ad h av Q => ∃ A as r B, pC ad h A ∧ aOK A ∧ av = .ref (ad (1, 0)) :: as ∧ f A as = some (r, B) ∧ ∀ ad' h', pC ad' h' B → fr40 h h' → Q r ad' h'
def p_sign : AS → List Value → Option (Option Value × AS) := fun A as => match as with
  | [.int x] => some (none, signF A x)
  | _ => none
set_option maxRecDepth 100000 in
theorem c_X6_sign : Ct yX6_sign cX6_sign 2 none (xrm 1 0 0) (fun ad h av Q => ∃ A x, pC ad h A ∧ aOK A ∧ av = [.ref (ad (1, 0)), .int x] ∧ ∀ ad' h', pC ad' h' (signF A x) → fr40 h h' → Q none ad' h') := by
  refine Ct.of (by decide) ?_
  intro p l e s m args below meth c0 G ad h av Q F hsp
  obtain ⟨A, x, hC, hA, rfl, hQ⟩ := hsp
  refine ⟨x_ent rfl rfl, ?_⟩
  refine x_ls [(0, .ref (ad (1, 0))), (1, .int x)] rfl ?_
  refine x_aload_n (q := 1) F dX6_sign_0 rfl rfl (by first | exact xref_r | exact xref_n | exact xref_f _ | assumption) ?_
  refine x_get (q := 4) F dX6_sign_1 rfl fs_X6_10 hC.1 rfl ?_
  refine x_iload_n (q := 5) F dX6_sign_4 rfl rfl ?_
  refine x_sipush (q := 8) (v := 255) F dX6_sign_5 rfl (by decide) ?_
  refine x_iand (q := 9) F dX6_sign_8 rfl ?_
  rw [lowB_eq]
  obtain ⟨lt, nu, k, hv⟩ := hC.2.1.view
  refine x_callV1 (q := 12) F (2, 0) c_X5_add dX6_sign_9 rfl mv_X5_add ml_X6_71 ⟨⟨xle rfl, xle rfl⟩, xle rfl, xle rfl⟩ rfl (by rw [hv]; rfl) (xle rfl) ?_
  refine ⟨h, aNs A, aSg A, lt, nu, k, lowB x, hv, rfl, hA.1.1, lowB_lt x, fun _ => ?_⟩
  refine x_vret F dX6_sign_12 (xle rfl) (xle rfl) ?_
  unfold signF at hQ
  by_cases z : aNs A < 200
  · rw [if_pos z] at hQ ⊢
    exact hQ ad _ (hC.text _ _ _ _ _) wT_fr40
  · rw [if_neg z] at hQ ⊢
    rw [← hv]
    exact hQ ad h hC fr40.rf
set_option maxRecDepth 100000 in
theorem c_X6_place : Ct yX6_place cX6_place 1 (some .int) (xrm 0 0 0) (fun ad h av Q => ∃ A, pC ad h A ∧ av = [.ref (ad (1, 0))] ∧ Q (some (.int (optI (aWr A)))) ad h) := by
  refine Ct.of (by decide) ?_
  intro p l e s m args below meth c0 G ad h av Q F hsp
  obtain ⟨A, hC, rfl, hQ⟩ := hsp
  refine ⟨x_ent rfl rfl, ?_⟩
  refine x_aload_n (q := 1) F dX6_place_0 rfl rfl (by first | exact xref_r | exact xref_n | exact xref_f _ | assumption) ?_
  refine x_get (q := 4) F dX6_place_1 rfl fs_X6_47 hC.1 rfl ?_
  refine x_iret F dX6_place_4 (xle rfl) (xle rfl) ?_
  exact hQ
set_option maxRecDepth 100000 in
theorem c_X6_what : Ct yX6_what cX6_what 1 (some .int) (xrm 0 0 0) (fun ad h av Q => ∃ A, pC ad h A ∧ av = [.ref (ad (1, 0))] ∧ Q (some (.int (aMl A))) ad h) := by
  refine Ct.of (by decide) ?_
  intro p l e s m args below meth c0 G ad h av Q F hsp
  obtain ⟨A, hC, rfl, hQ⟩ := hsp
  refine ⟨x_ent rfl rfl, ?_⟩
  refine x_aload_n (q := 1) F dX6_what_0 rfl rfl (by first | exact xref_r | exact xref_n | exact xref_f _ | assumption) ?_
  refine x_get (q := 4) F dX6_what_1 rfl fs_X6_50 hC.1 rfl ?_
  refine x_iret F dX6_what_4 (xle rfl) (xle rfl) ?_
  exact hQ
set_option maxRecDepth 100000 in
theorem c_X6_failed : Ct yX6_failed cX6_failed 1 (some .int) (xrm 0 0 0) (fun ad h av Q => ∃ A, pC ad h A ∧ av = [.ref (ad (1, 0))] ∧ Q (some (.int (optI (aFa A)))) ad h) := by
  refine Ct.of (by decide) ?_
  intro p l e s m args below meth c0 G ad h av Q F hsp
  obtain ⟨A, hC, rfl, hQ⟩ := hsp
  obtain ⟨mem, a, i, p1, fl, r1, r2, r3, r4⟩ := hC.2.2.2.2.2
  refine ⟨x_ent rfl rfl, ?_⟩
  refine x_aload_n (q := 1) F dX6_failed_0 rfl rfl (by first | exact xref_r | exact xref_n | exact xref_f _ | assumption) ?_
  refine x_get (q := 4) F dX6_failed_1 rfl fs_X6_67 hC.1 rfl ?_
  refine x_getN (q := 7) F dX6_failed_4 rfl fn_X6_144 r4 rfl ?_
  refine x_iret F dX6_failed_7 (xle rfl) (xle rfl) ?_
  exact hQ
set_option maxRecDepth 100000 in
theorem c_X6_counted : Ct yX6_counted cX6_counted 1 (some .long) (xrm 0 0 0) (fun ad h av Q => ∃ A, pC ad h A ∧ av = [.ref (ad (1, 0))] ∧ Q (some (.long (lN (aCt A)))) ad h) := by
  refine Ct.of (by decide) ?_
  intro p l e s m args below meth c0 G ad h av Q F hsp
  obtain ⟨A, hC, rfl, hQ⟩ := hsp
  obtain ⟨mem, a, i, p1, fl, r1, r2, r3, r4⟩ := hC.2.2.2.2.2
  refine ⟨x_ent rfl rfl, ?_⟩
  refine x_aload_n (q := 1) F dX6_counted_0 rfl rfl (by first | exact xref_r | exact xref_n | exact xref_f _ | assumption) ?_
  refine x_get (q := 4) F dX6_counted_1 rfl fs_X6_67 hC.1 rfl ?_
  refine x_getN (q := 7) F dX6_counted_4 rfl fn_X6_147 r4 rfl ?_
  refine x_lret F dX6_counted_7 (xle rfl) (xle rfl) ?_
  exact hQ
set_option maxRecDepth 100000 in
theorem c_X6_tried : Ct yX6_tried cX6_tried 2 (some .int) (xrm 1 0 0) (fun ad h av Q => ∃ A x, pC ad h A ∧ aOK A ∧ av = [.ref (ad (1, 0)), .int x] ∧ Q (some (.int (triedF A x))) ad h) := by
  refine Ct.of (by decide) ?_
  intro p l e s m args below meth c0 G ad h av Q F hsp
  obtain ⟨A, x, hC, hA, rfl, hQ⟩ := hsp
  obtain ⟨mem, a, i, p1, fl, r1, r2, r3, r4⟩ := hC.2.2.2.2.2
  refine ⟨x_ent rfl rfl, ?_⟩
  refine x_ls [(0, .ref (ad (1, 0))), (1, .int x)] rfl ?_
  refine x_aload_n (q := 1) F dX6_tried_0 rfl rfl (by first | exact xref_r | exact xref_n | exact xref_f _ | assumption) ?_
  refine x_get (q := 4) F dX6_tried_1 rfl fs_X6_67 hC.1 rfl ?_
  refine x_getN (q := 7) F dX6_tried_4 rfl fn_X6_196 r4 rfl ?_
  refine x_iload_n (q := 8) F dX6_tried_7 rfl rfl ?_
  refine x_callV1 (q := 11) F (12, 0) c_X0_byteAt dX6_tried_8 rfl mv_X0_byteAt ml_X6_188 ⟨⟨xle rfl, xle rfl⟩, xle rfl, xle rfl⟩ rfl r3 (xle rfl) ?_
  refine ⟨(12, 0), (13, 0), aNo A, 40, _, x, rfl, r3, r2, hA.2.2.2.2.2.1.1, by omega, fun _ => ?_⟩
  refine x_iret F dX6_tried_11 (xle rfl) (xle rfl) ?_
  exact hQ
set_option maxRecDepth 100000 in
theorem c_X6_octet : Ct yX6_octet cX6_octet 2 none (xrm 1 0 0) (fun ad h av Q => ∃ A x, pC ad h A ∧ aOK A ∧ av = [.ref (ad (1, 0)), .int x] ∧ ∀ ad' h', pC ad' h' (octetF A x) → fr40 h h' → Q none ad' h') := by
  refine Ct.of (by decide) ?_
  intro p l e s m args below meth c0 G ad h av Q F hsp
  obtain ⟨A, x, hC, hA, rfl, hQ⟩ := hsp
  refine ⟨x_ent rfl rfl, ?_⟩
  refine x_ls [(0, .ref (ad (1, 0))), (1, .int x)] rfl ?_
  refine x_aload_n (q := 1) F dX6_octet_0 rfl rfl (by first | exact xref_r | exact xref_n | exact xref_f _ | assumption) ?_
  refine x_get (q := 4) F dX6_octet_1 rfl fs_X6_21 hC.1 rfl ?_
  refine x_iload_n (q := 5) F dX6_octet_4 rfl rfl ?_
  refine x_sipush (q := 8) (v := 255) F dX6_octet_5 rfl (by decide) ?_
  refine x_iand (q := 9) F dX6_octet_8 rfl ?_
  rw [lowB_eq]
  obtain ⟨c1, c2⟩ := hC.2.2.1
  refine x_callV1 (q := 12) F (6, 0) c_X0_add dX6_octet_9 rfl mv_X0_add ml_X6_93 ⟨⟨xle rfl, xle rfl⟩, xle rfl, xle rfl⟩ rfl c1 (xle rfl) ?_
  unfold octetF at hQ
  refine ⟨(6, 0), (7, 0), aCn A, 40, _, _, rfl, c1, c2, by decide, by omega, hA.2.1.1, fun z _ => ?_, fun z _ => ?_⟩
  · rw [if_neg (by omega)] at hQ
    refine x_pop (q := 13) F dX6_octet_12 rfl rfl ?_
    refine x_vret F dX6_octet_13 (xle rfl) (xle rfl) ?_
    exact hQ ad h hC fr40.rf
  · rw [if_pos z] at hQ
    refine x_pop (q := 13) F dX6_octet_12 rfl rfl ?_
    refine x_vret F dX6_octet_13 (xle rfl) (xle rfl) ?_
    refine hQ ad _ (hC.co _ _ rfl ?_ (fun t q1 q2 => ?_)) (fun t ht => ?_)
    · rw [upd_N]; rfl
    · rw [xup_ne _ _ q1, xup_ne _ _ q2]
    · rw [up_ne (by omega), up_ne (by omega)]
set_option maxRecDepth 100000 in
set_option maxHeartbeats 2000000 in
theorem c_X6_original : Ct yX6_original cX6_original 2 (some .int) (xrm 3 3 48) (fun ad h av Q => ∃ A, pC ad h A ∧ aOK A ∧ av = [.ref (ad (1, 0))] ∧ ∀ ad' h', pC ad' h' (originalF A).2 → fr40 h h' → Q (some (.int (originalF A).1)) ad' h') := by
  refine Ct.of (by decide) ?_
  intro p l e s m args below meth c0 G ad h av Q F hsp
  obtain ⟨A, hC, hA, rfl, hQ⟩ := hsp
  have hnI := hA.2.2.2.1.1
  refine ⟨x_ent rfl rfl, ?_⟩
  refine x_ls [(0, .ref (ad (1, 0)))] rfl ?_
  refine x_aload_n (q := 1) F dX6_original_0 rfl rfl (by first | exact xref_r | exact xref_n | exact xref_f _ | assumption) ?_
  refine x_get (q := 4) F dX6_original_1 rfl fs_X6_41 hC.1 rfl ?_
  refine x_bipush (q := 6) (v := 60) F dX6_original_4 rfl (by decide) ?_
  refine x_icmp_lt (q := 9) F 12 dX6_original_6 (by decide) rfl (fun c6 => ?_) (fun c6 => ?_)
  · have hlt : aI A < 60 := (nI_ltI (a := aI A) (b := 60) (by omega) (by omega)).mp c6
    have hF : originalF A = (nI (aI A), setCo (setIt A (aI A + 1, updI (aItm A) (aI A) (origI A))) (0, aCb A)) := if_neg (by omega)
    rw [hF] at hQ
    have n30 : h (30, aI A) = none := hC.2.2.2.2.1.2.2 30 (aI A) (by omega) (by omega) (Nat.le_refl _)
    have n31 : h (31, aI A) = none := hC.2.2.2.2.1.2.2 31 (aI A) (by omega) (by omega) (Nat.le_refl _)
    have n32 : h (32, aI A) = none := hC.2.2.2.2.1.2.2 32 (aI A) (by omega) (by omega) (Nat.le_refl _)
    refine x_aload_n (q := 13) F dX6_original_12 rfl rfl (by first | exact xref_r | exact xref_n | exact xref_f _ | assumption) ?_
    refine x_new (q := 16) F (30, aI A) [.null, .int 0, .int 0, .int 0, .int 0, .int 0] dX6_original_13 rfl (ci := 2) rfl ⟨cl_X6_31, im_X2, iz_X2⟩ n30 df_X2 (xle rfl) (xle rfl) (fun ad1 E1 => ?_)
    have E1' : ∀ {k j : Nat}, k ≠ 30 → ad1 (k, j) = ad (k, j) := fun q => E1 _ (tg_ne q _ _)
    rw [← E1' (k := 1) (by decide)]
    have hC3 := hC.move (ad' := ad1) (fun t ht => E1 t (fun z => ht (by rw [z]; exact n30)))
    obtain ⟨c1, c2⟩ := hC3.2.2.1
    refine x_dup (q := 17) F dX6_original_16 rfl rfl ?_
    refine x_aload_n (q := 18) F dX6_original_17 rfl rfl (by first | exact xref_r | exact xref_n | exact xref_f _ | assumption) ?_
    refine x_get (q := 21) F dX6_original_18 rfl fs_X6_21 (xk hC3.1) rfl ?_
    refine x_callV0 (q := 24) F (6, 0) c_X0_copy dX6_original_21 rfl mv_X0_copy ml_X6_96 ⟨⟨xle rfl, xle rfl⟩, xle rfl, xle rfl⟩ rfl (xk c1) (xle rfl) ?_
    refine ⟨(6, 0), (7, 0), (31, aI A), (32, aI A), aCn A, 40, _, rfl, xk c1, xk c2, hA.2.1.1, by omega, xkn n31, xkn n32, tg_ne (by decide) _ _, fun ad2 g E2 hgg _ => ?_⟩
    have E2' : ∀ {k j : Nat}, k ≠ 31 → k ≠ 32 → ad2 (k, j) = ad1 (k, j) := fun q q' => E2 _ (tg_ne q _ _) (tg_ne q' _ _)
    rw [← E2' (k := 1) (by decide) (by decide), ← E2' (k := 30) (by decide) (by decide)]
    have hC4 := hC3.move (ad' := ad2) (fun t ht => E2 t (fun z => ht (by rw [z]; exact n31)) (fun z => ht (by rw [z]; exact n32)))
    refine x_h (xup_comm _ _ _ (tg_ne (a := 32) (b := 31) (by decide) _ _)) ?_
    refine x_cell (g := fun j => nI (aCb A j)) (fun j hj => hgg j hj) ?_
    refine x_iconst (q := 25) (v := -1) F dX6_original_24 rfl (by decide) ?_
    refine x_iconst (q := 26) (v := -1) F dX6_original_25 rfl (by decide) ?_
    refine x_aload_n (q := 27) F dX6_original_26 rfl rfl (by first | exact xref_r | exact xref_n | exact xref_f _ | assumption) ?_
    refine x_get (q := 30) F dX6_original_27 rfl fs_X6_41 (xk (xk (xk hC4.1))) rfl ?_
    refine x_callI4 (q := 33) F (30, aI A) c_X2_init dX6_original_30 rfl mi_X2_init ml_X6_100 ⟨⟨xle rfl, xle rfl⟩, xle rfl, xle rfl⟩ (xle rfl) ?_
    refine ⟨(30, aI A), (31, aI A), _, _, _, rfl, xk (xk (xup_self _ _ _)), fun _ => ?_⟩
    refine x_callV1 (q := 36) F (1, 0) c_X6_keep dX6_original_33 rfl mv_X6_keep ml_X6_103 ⟨⟨xle rfl, xle rfl⟩, xle rfl, xle rfl⟩ rfl (xk (xk (xk (xk hC4.1)))) (xle rfl) ?_
    refine ⟨A, _, xk (xk (xk (xk hC4.1))), xk (xk (xk (xk hC4.2.2.2.2.1.1))), hlt, xup_self _ _ _, rfl, fun _ => ?_⟩
    have hC5 : pC ad2 _ (setIt A (aI A + 1, updI (aItm A) (aI A) (origI A))) := hC4.push (d := origI A) (h' := xup (xup (xup (xup (xup (xup h (30, aI A) (.inr (2, [.null, .int 0, .int 0, .int 0, .int 0, .int 0]))) (31, aI A) (cRow (ad2 (32, aI A)) (nI (aCn A)))) (32, aI A) (cN (aCn A) (aCb A))) (30, aI A) (cItem (ad2 (31, aI A)) (-1) (-1) (nI (aI A)) (-1) false)) (9, 0) (cQ 5 60 (refN ad2 30 (aI A + 1)))) (1, 0) (cMain ad2 (setIt A (aI A + 1, aItm A)))) (xup_self _ _ _) (xk (xup_self _ _ _)) ⟨xk (xk (xup_self _ _ _)), xk (xk (xk (xk (xup_self _ _ _)))), xk (xk (xk (xup_self _ _ _)))⟩ (fun t r1 r2 r3 => by
      have z : ∀ k, 30 ≤ k → k ≤ 32 → t ≠ (k, aI A) := fun k z1 z2 w => r3 (by rw [w]; exact ⟨z1, z2, rfl⟩)
      rw [xup_ne _ _ r1, xup_ne _ _ r2, xup_ne _ _ (show t ≠ (30, aI A) from z 30 (by omega) (by omega)), xup_ne _ _ (z 32 (by omega) (by omega)), xup_ne _ _ (z 31 (by omega) (by omega)), xup_ne _ _ (z 30 (by omega) (by omega))])
    have hfr5 : fr40 h (xup (xup (xup (xup (xup (xup h (30, aI A) (.inr (2, [.null, .int 0, .int 0, .int 0, .int 0, .int 0]))) (31, aI A) (cRow (ad2 (32, aI A)) (nI (aCn A)))) (32, aI A) (cN (aCn A) (aCb A))) (30, aI A) (cItem (ad2 (31, aI A)) (-1) (-1) (nI (aI A)) (-1) false)) (9, 0) (cQ 5 60 (refN ad2 30 (aI A + 1)))) (1, 0) (cMain ad2 (setIt A (aI A + 1, aItm A)))) := fun t ht => by
      rw [up_ne (by omega), up_ne (by omega), up_ne (by omega), up_ne (by omega), up_ne (by omega), up_ne (by omega)]
    refine x_h (h2 := xup (xup (xup (xup (xup (xup h (30, aI A) (.inr (2, [.null, .int 0, .int 0, .int 0, .int 0, .int 0]))) (31, aI A) (cRow (ad2 (32, aI A)) (nI (aCn A)))) (32, aI A) (cN (aCn A) (aCb A))) (30, aI A) (cItem (ad2 (31, aI A)) (-1) (-1) (nI (aI A)) (-1) false)) (9, 0) (cQ 5 60 (refN ad2 30 (aI A + 1)))) (1, 0) (cMain ad2 (setIt A (aI A + 1, aItm A)))) rfl ?_
    generalize xup (xup (xup (xup (xup (xup h (30, aI A) (.inr (2, [.null, .int 0, .int 0, .int 0, .int 0, .int 0]))) (31, aI A) (cRow (ad2 (32, aI A)) (nI (aCn A)))) (32, aI A) (cN (aCn A) (aCb A))) (30, aI A) (cItem (ad2 (31, aI A)) (-1) (-1) (nI (aI A)) (-1) false)) (9, 0) (cQ 5 60 (refN ad2 30 (aI A + 1)))) (1, 0) (cMain ad2 (setIt A (aI A + 1, aItm A))) = h5 at hC5 hfr5 ⊢
    obtain ⟨d1, d2⟩ := hC5.2.2.1
    refine x_istore_n (q := 37) F dX6_original_36 rfl (by decide) ?_
    refine x_aload_n (q := 38) F dX6_original_37 rfl rfl (by first | exact xref_r | exact xref_n | exact xref_f _ | assumption) ?_
    refine x_get (q := 41) F dX6_original_38 rfl fs_X6_21 hC5.1 rfl ?_
    refine x_callV0 (q := 44) F (6, 0) c_X0_clear dX6_original_41 rfl mv_X0_clear ml_X6_107 ⟨⟨xle rfl, xle rfl⟩, xle rfl, xle rfl⟩ rfl d1 (xle rfl) ?_
    refine ⟨(6, 0), _, _, rfl, d1, fun _ => ?_⟩
    refine x_iload_n (q := 45) F dX6_original_44 rfl rfl ?_
    refine x_iret F dX6_original_45 (xle rfl) (xle rfl) ?_
    refine hQ ad2 _ (hC5.co 0 (aCb A) (xup_self _ _ _) (xk d2) (fun t q1 q2 => xup_ne _ _ q1)) (hfr5.tr (fr40.up (by decide)))
  · have hge : 60 ≤ aI A := by
      rcases Nat.lt_or_ge (aI A) 60 with q | q
      · exact absurd ((nI_ltI (a := aI A) (b := 60) (by omega) (by omega)).mpr q) c6
      · exact q
    have hF : originalF A = (-4, A) := if_pos hge
    rw [hF] at hQ
    refine x_bipush (q := 11) (v := -4) F dX6_original_9 rfl (by decide) ?_
    refine x_iret F dX6_original_11 (xle rfl) (xle rfl) ?_
    exact hQ ad h hC fr40.rf
