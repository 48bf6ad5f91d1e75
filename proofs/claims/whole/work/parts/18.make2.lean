/-! ===== ScriptText(), parsed(), Runner(..) ===== -/
def s_txtInit : xSp := fun ad h av Q => av = [.ref (ad (2, 0))] ∧ h (2, 0) = some (.inr (5, [.null, .null, .null, .int 0, .int 0])) ∧ h (3, 0) = none ∧ h (4, 0) = none ∧ h (5, 0) = none ∧
  ∀ (ad' : xAd) (h' : xH), (∀ v : Tg, v ≠ (3, 0) → v ≠ (4, 0) → v ≠ (5, 0) → ad' v = ad v) → h' (2, 0) = some (cTxt (ad' (3, 0)) (ad' (4, 0)) (ad' (5, 0)) 0 0) → h' (3, 0) = some (cN 200 (fun _ => 0)) → h' (4, 0) = some (cN 40 (fun _ => 0)) → h' (5, 0) = some (cN 40 (fun _ => 0)) →
    (∀ v : Tg, v ≠ (2, 0) → v ≠ (3, 0) → v ≠ (4, 0) → v ≠ (5, 0) → h' v = h v) → Q none ad' h'
set_option maxRecDepth 100000 in
set_option maxHeartbeats 2000000 in
theorem c_X5_init : Ct yX5_init cX5_init 1 none (xrm 1 3 280) s_txtInit := by
  refine Ct.of (by decide) ?_
  intro p l e s m args below meth c0 G ad h av Q F hsp
  obtain ⟨rfl, e1, e3, e4, e5, hQ⟩ := hsp
  refine ⟨x_ent rfl rfl, ?_⟩
  refine x_ls [(0, .ref (ad (2, 0)))] rfl ?_
  refine x_aload_n (q := 1) F dX5_init_0 rfl rfl (by first | exact xref_r | exact xref_n | exact xref_f _ | assumption) ?_
  refine x_objInit (q := 4) F dX5_init_1 rfl ml_X5_3 oi_i oi_c (xle rfl) (xle rfl) ?_
  refine x_aload_n (q := 5) F dX5_init_4 rfl rfl (by first | exact xref_r | exact xref_n | exact xref_f _ | assumption) ?_
  refine x_sipush (q := 8) (v := 200) F dX5_init_5 rfl (by decide) ?_
  refine x_newaI (q := 10) (N := 200) F (3, 0) dX5_init_8 rfl ac_int rfl (by omega) e3 (xle rfl) (xle rfl) (fun ad1 E1 => ?_)
  rw [← E1 (2, 0) (by decide)]
  refine x_putF (q := 13) F dX5_init_10 rfl fs_X5_9 rfl rfl (xk e1) (xle rfl) rfl rfl ?_
  refine x_aload_n (q := 14) F dX5_init_13 rfl rfl (by first | exact xref_r | exact xref_n | exact xref_f _ | assumption) ?_
  refine x_bipush (q := 16) (v := 40) F dX5_init_14 rfl (by decide) ?_
  refine x_newaI (q := 18) (N := 40) F (4, 0) dX5_init_16 rfl ac_int rfl (by omega) (xkn (xkn e4)) (xle rfl) (xle rfl) (fun ad2 E2 => ?_)
  rw [← E2 (2, 0) (by decide), ← E2 (3, 0) (by decide)]
  refine x_putF (q := 21) F dX5_init_18 rfl fs_X5_15 rfl rfl (xk (xup_self _ _ _)) (xle rfl) rfl rfl ?_
  refine x_aload_n (q := 22) F dX5_init_21 rfl rfl (by first | exact xref_r | exact xref_n | exact xref_f _ | assumption) ?_
  refine x_bipush (q := 24) (v := 40) F dX5_init_22 rfl (by decide) ?_
  refine x_newaI (q := 26) (N := 40) F (5, 0) dX5_init_24 rfl ac_int rfl (by omega) (xkn (xkn (xkn (xkn e5)))) (xle rfl) (xle rfl) (fun ad3 E3 => ?_)
  rw [← E3 (2, 0) (by decide), ← E3 (3, 0) (by decide), ← E3 (4, 0) (by decide)]
  refine x_putF (q := 29) F dX5_init_26 rfl fs_X5_18 rfl rfl (xk (xup_self _ _ _)) (xle rfl) rfl rfl ?_
  refine x_aload_n (q := 30) F dX5_init_29 rfl rfl (by first | exact xref_r | exact xref_n | exact xref_f _ | assumption) ?_
  refine x_iconst (q := 31) (v := 0) F dX5_init_30 rfl (by decide) ?_
  refine x_put (q := 34) F dX5_init_31 rfl fs_X5_21 (xup_self _ _ _) (xle rfl) rfl rfl ?_
  refine x_aload_n (q := 35) F dX5_init_34 rfl rfl (by first | exact xref_r | exact xref_n | exact xref_f _ | assumption) ?_
  refine x_iconst (q := 36) (v := 0) F dX5_init_35 rfl (by decide) ?_
  refine x_put (q := 39) F dX5_init_36 rfl fs_X5_25 (xup_self _ _ _) (xle rfl) rfl rfl ?_
  refine x_vret F dX5_init_39 (xle rfl) (xle rfl) ?_
  refine hQ ad3 _ (fun v q1 q2 q3 => ((E3 v q3).trans (E2 v q2)).trans (E1 v q1)) rfl rfl rfl rfl (fun v q1 q2 q3 q4 => ?_)
  simp [xup, q1, q2, q3, q4]
def s_runInit : xSp := fun ad h av Q => ∃ st : Nat, av = [.ref (ad (10, 0)), .int (nI st), .ref (ad (11, 0))] ∧ h (10, 0) = some (.inr (3, [.int 0, .null, .null, .int 0, .int 0, .int 0, .int 0, .int 0, .long 0])) ∧ h (11, 0) ≠ none ∧ h (12, 0) = none ∧ h (13, 0) = none ∧
  ∀ (ad' : xAd) (h' : xH), (∀ v : Tg, v ≠ (12, 0) → v ≠ (13, 0) → ad' v = ad v) → h' (10, 0) = some (.inr (3, [.int (nI st), .ref (ad' (11, 0)), .ref (ad' (12, 0)), .int (nI 0), .int (nI 0), .int (nI 0), .int (nI 0), .int (-1), .long 0])) → h' (12, 0) = some (cRow (ad' (13, 0)) (nI 0)) → h' (13, 0) = some (cN 40 (fun _ => 0)) →
    (∀ v : Tg, v ≠ (10, 0) → v ≠ (12, 0) → v ≠ (13, 0) → h' v = h v) → Q none ad' h'
set_option maxRecDepth 100000 in
set_option maxHeartbeats 2000000 in
theorem c_X3_init : Ct yX3_init cX3_init 3 none (xrm 2 2 42) s_runInit := by
  refine Ct.of (by decide) ?_
  intro p l e s m args below meth c0 G ad h av Q F hsp
  obtain ⟨st, rfl, e1, e2, e3, e4, hQ⟩ := hsp
  refine ⟨x_ent rfl rfl, ?_⟩
  refine x_ls [(0, .ref (ad (10, 0))), (1, .int (nI st)), (2, .ref (ad (11, 0)))] rfl ?_
  refine x_aload_n (q := 1) F dX3_init_0 rfl rfl (by first | exact xref_r | exact xref_n | exact xref_f _ | assumption) ?_
  refine x_objInit (q := 4) F dX3_init_1 rfl ml_X3_3 oi_i oi_c (xle rfl) (xle rfl) ?_
  refine x_aload_n (q := 5) F dX3_init_4 rfl rfl (by first | exact xref_r | exact xref_n | exact xref_f _ | assumption) ?_
  refine x_new (q := 8) F (12, 0) [.null, .int 0] dX3_init_5 rfl (ci := 0) rfl ⟨cl_X3_9, im_X0, iz_X0⟩ e3 df_X0 (xle rfl) (xle rfl) (fun ad1 E1 => ?_)
  rw [← E1 (10, 0) (by decide), ← E1 (11, 0) (by decide)]
  refine x_dup (q := 9) F dX3_init_8 rfl rfl ?_
  refine x_bipush (q := 11) (v := 40) F dX3_init_9 rfl (by decide) ?_
  refine x_newaI (q := 13) (N := 40) F (13, 0) dX3_init_11 rfl ac_int rfl (by omega) (xkn e4) (xle rfl) (xle rfl) (fun ad2 E2 => ?_)
  rw [← E2 (10, 0) (by decide), ← E2 (11, 0) (by decide), ← E2 (12, 0) (by decide)]
  refine x_iconst (q := 14) (v := 0) F dX3_init_13 rfl (by decide) ?_
  refine x_callI2 (q := 17) F (12, 0) c_X0_init dX3_init_14 rfl mi_X0_init ml_X3_11 ⟨⟨xle rfl, xle rfl⟩, xle rfl, xle rfl⟩ (xle rfl) ?_
  refine ⟨(12, 0), (13, 0), _, _, _, rfl, xk (xup_self _ _ _), fun _ => ?_⟩
  refine x_putF (q := 20) F dX3_init_17 rfl fs_X3_14 rfl rfl (xk (xk (xk e1))) (xle rfl) rfl rfl ?_
  refine x_aload_n (q := 21) F dX3_init_20 rfl rfl (by first | exact xref_r | exact xref_n | exact xref_f _ | assumption) ?_
  refine x_iconst (q := 22) (v := 0) F dX3_init_21 rfl (by decide) ?_
  refine x_put (q := 25) F dX3_init_22 rfl fs_X3_20 (xup_self _ _ _) (xle rfl) rfl rfl ?_
  refine x_h (xup_xup _ _ _ _) ?_
  refine x_aload_n (q := 26) F dX3_init_25 rfl rfl (by first | exact xref_r | exact xref_n | exact xref_f _ | assumption) ?_
  refine x_iconst (q := 27) (v := 0) F dX3_init_26 rfl (by decide) ?_
  refine x_put (q := 30) F dX3_init_27 rfl fs_X3_24 (xup_self _ _ _) (xle rfl) rfl rfl ?_
  refine x_h (xup_xup _ _ _ _) ?_
  refine x_aload_n (q := 31) F dX3_init_30 rfl rfl (by first | exact xref_r | exact xref_n | exact xref_f _ | assumption) ?_
  refine x_iconst (q := 32) (v := 0) F dX3_init_31 rfl (by decide) ?_
  refine x_put (q := 35) F dX3_init_32 rfl fs_X3_27 (xup_self _ _ _) (xle rfl) rfl rfl ?_
  refine x_h (xup_xup _ _ _ _) ?_
  refine x_aload_n (q := 36) F dX3_init_35 rfl rfl (by first | exact xref_r | exact xref_n | exact xref_f _ | assumption) ?_
  refine x_iconst (q := 37) (v := 0) F dX3_init_36 rfl (by decide) ?_
  refine x_put (q := 40) F dX3_init_37 rfl fs_X3_30 (xup_self _ _ _) (xle rfl) rfl rfl ?_
  refine x_h (xup_xup _ _ _ _) ?_
  refine x_aload_n (q := 41) F dX3_init_40 rfl rfl (by first | exact xref_r | exact xref_n | exact xref_f _ | assumption) ?_
  refine x_iconst (q := 42) (v := -1) F dX3_init_41 rfl (by decide) ?_
  refine x_put (q := 45) F dX3_init_42 rfl fs_X3_33 (xup_self _ _ _) (xle rfl) rfl rfl ?_
  refine x_h (xup_xup _ _ _ _) ?_
  refine x_aload_n (q := 46) F dX3_init_45 rfl rfl (by first | exact xref_r | exact xref_n | exact xref_f _ | assumption) ?_
  refine x_lconst (q := 47) (v := 0) F dX3_init_46 rfl (by decide) ?_
  refine x_put (q := 50) F dX3_init_47 rfl fs_X3_36 (xup_self _ _ _) (xle rfl) rfl rfl ?_
  refine x_h (xup_xup _ _ _ _) ?_
  refine x_aload_n (q := 51) F dX3_init_50 rfl rfl (by first | exact xref_r | exact xref_n | exact xref_f _ | assumption) ?_
  refine x_iload_n (q := 52) F dX3_init_51 rfl rfl ?_
  refine x_putF (q := 55) F dX3_init_52 rfl fs_X3_40 rfl rfl (xup_self _ _ _) (xle rfl) rfl rfl ?_
  refine x_h (xup_xup _ _ _ _) ?_
  refine x_aload_n (q := 56) F dX3_init_55 rfl rfl (by first | exact xref_r | exact xref_n | exact xref_f _ | assumption) ?_
  refine x_aload_n (q := 57) F dX3_init_56 rfl rfl (by first | exact xref_r | exact xref_n | exact xref_f _ | assumption) ?_
  refine x_putF (q := 60) F dX3_init_57 rfl fs_X3_43 rfl rfl (xup_self _ _ _) (xle rfl) rfl rfl ?_
  refine x_h (xup_xup _ _ _ _) ?_
  refine x_vret F dX3_init_60 (xle rfl) (xle rfl) ?_
  refine hQ ad2 _ (fun v q1 q2 => (E2 v q2).trans (E1 v q1)) rfl rfl rfl (fun v q1 q2 q3 => ?_)
  simp [xup, q1, q2, q3]
/-- a script that was read, in its cells -/
def s_parsed : xSp := fun ad h av Q => ∃ (sc ns k : Nat) (lt nu : Nat → Nat), av = [.ref (ad (2, 0))] ∧ h (2, 0) = some (cTxt (ad (3, 0)) (ad (4, 0)) (ad (5, 0)) ns k) ∧ h (4, 0) = some (cN 40 lt) ∧ h (5, 0) = some (cN 40 nu) ∧ k ≤ 40 ∧ (∀ j, 20 ≤ j → j ≤ 28 → h (j, sc) = none) ∧
  ∀ (ad' : xAd) (h' : xH), (∀ v : Tg, ¬ (20 ≤ v.1 ∧ v.1 ≤ 28 ∧ v.2 = sc) → ad' v = ad v) → h' (21, sc) = some (cN k lt) → h' (22, sc) = some (cN k nu) →
    h' (20, sc) = some (cScr (ad' (21, sc)) (ad' (22, sc)) (ad' (23, sc)) (ad' (24, sc)) (-1)) → h' (23, sc) = some (cChk (ad' (25, sc)) (ad' (26, sc)) 0) → h' (24, sc) = some (cChk (ad' (27, sc)) (ad' (28, sc)) 0) →
    h' (25, sc) = some (cI 4 (fun _ => 0)) → h' (26, sc) = some (cI 4 (fun _ => 0)) → h' (27, sc) = some (cI 4 (fun _ => 0)) → h' (28, sc) = some (cI 4 (fun _ => 0)) →
    (∀ t : Tg, ¬ (20 ≤ t.1 ∧ t.1 ≤ 28 ∧ t.2 = sc) → h' t = h t) → Q (some (.ref (ad' (20, sc)))) ad' h'
set_option maxRecDepth 100000 in
set_option maxHeartbeats 2000000 in
theorem c_X5_parsed : Ct yX5_parsed cX5_parsed 2 (some (.object "MigrateSteps$Script")) (xrm 3 9 107) s_parsed := by
  refine Ct.of (by decide) ?_
  intro p l e s m args below meth c0 G ad h av Q F hsp
  obtain ⟨sc, ns, k, lt, nu, rfl, e1, e2, e3, hk, hn, hQ⟩ := hsp
  refine ⟨x_ent rfl rfl, ?_⟩
  refine x_ls [(0, .ref (ad (2, 0)))] rfl ?_
  have n20 := hn 20 (by omega) (by omega)
  have n21 := hn 21 (by omega) (by omega)
  have n22 := hn 22 (by omega) (by omega)
  refine x_iconst (q := 1) (v := 0) F dX5_parsed_0 rfl (by decide) ?_
  refine x_aload_n (q := 2) F dX5_parsed_1 rfl rfl (by first | exact xref_r | exact xref_n | exact xref_f _ | assumption) ?_
  refine x_get (q := 5) F dX5_parsed_2 rfl fs_X5_25 e1 rfl ?_
  refine x_bipush (q := 7) (v := 40) F dX5_parsed_5 rfl (by decide) ?_
  refine x_mmin (q := 10) F dX5_parsed_7 rfl ml_X5_28 mw_min (xle rfl) (xle rfl) (xle rfl) (xle rfl) ?_
  refine x_mmax (q := 13) F dX5_parsed_10 rfl ml_X5_34 mw_max (xle rfl) (xle rfl) (xle rfl) (xle rfl) ?_
  refine x_topi (y := nI k) (clamp_nI (N := 40) hk (by omega)) ?_
  refine x_istore_n (q := 14) F dX5_parsed_13 rfl (by decide) ?_
  refine x_ls [(0, .ref (ad (2, 0))), (1, .int (nI k))] rfl ?_
  refine x_new (q := 17) F (20, sc) [.null, .null, .null, .null, .int 0] dX5_parsed_14 rfl (ci := 4) rfl ⟨cl_X5_37, im_X4, iz_X4⟩ n20 df_X4 (xle rfl) (xle rfl) (fun ad1 E1 => ?_)
  have E1' : ∀ {j : Nat}, j ≠ 20 → ∀ i, ad1 (j, i) = ad (j, i) := fun q i => E1 _ (tg_ne q _ _)
  rw [← E1' (j := 2) (by decide)]
  rw [← E1' (j := 3) (by decide), ← E1' (j := 4) (by decide), ← E1' (j := 5) (by decide)] at e1
  refine x_dup (q := 18) F dX5_parsed_17 rfl rfl ?_
  refine x_aload_n (q := 19) F dX5_parsed_18 rfl rfl (by first | exact xref_r | exact xref_n | exact xref_f _ | assumption) ?_
  refine x_get (q := 22) F dX5_parsed_19 rfl fs_X5_15 (xk e1) rfl ?_
  refine x_iload_n (q := 23) F dX5_parsed_22 rfl rfl ?_
  refine x_callS2 (q := 26) F c_J7_copyOf_59c91 dX5_parsed_23 rfl ms_J7_copyOf_59c91 ml_X5_39 ⟨⟨xle rfl, xle rfl⟩, xle rfl, xle rfl⟩ (xle rfl) ?_
  refine ⟨(4, 0), (21, sc), 40, k, _, rfl, xk e2, xkn n21, hk, by omega, fun ad2 g1 E2 hg1 _ => ?_⟩
  have E2' : ∀ {j : Nat}, j ≠ 21 → ∀ i, ad2 (j, i) = ad1 (j, i) := fun q i => E2 _ (tg_ne q _ _)
  refine x_cell (g := fun j => nI (lt j)) (fun j hj => hg1 j hj) ?_
  rw [← E2' (j := 2) (by decide), ← E2' (j := 20) (by decide)]
  rw [← E2' (j := 3) (by decide), ← E2' (j := 4) (by decide), ← E2' (j := 5) (by decide)] at e1
  refine x_aload_n (q := 27) F dX5_parsed_26 rfl rfl (by first | exact xref_r | exact xref_n | exact xref_f _ | assumption) ?_
  refine x_get (q := 30) F dX5_parsed_27 rfl fs_X5_18 (xk (xk e1)) rfl ?_
  refine x_iload_n (q := 31) F dX5_parsed_30 rfl rfl ?_
  refine x_callS2 (q := 34) F c_J7_copyOf_59c91 dX5_parsed_31 rfl ms_J7_copyOf_59c91 ml_X5_39 ⟨⟨xle rfl, xle rfl⟩, xle rfl, xle rfl⟩ (xle rfl) ?_
  refine ⟨(5, 0), (22, sc), 40, k, _, rfl, xk (xk e3), xkn (xkn n22), hk, by omega, fun ad3 g2 E3 hg2 _ => ?_⟩
  have E3' : ∀ {j : Nat}, j ≠ 22 → ∀ i, ad3 (j, i) = ad2 (j, i) := fun q i => E3 _ (tg_ne q _ _)
  refine x_cell (g := fun j => nI (nu j)) (fun j hj => hg2 j hj) ?_
  rw [← E3' (j := 2) (by decide), ← E3' (j := 20) (by decide), ← E3' (j := 21) (by decide)]
  refine x_callI2 (q := 37) F (20, sc) c_X4_init dX5_parsed_34 rfl mi_X4_init ml_X5_45 ⟨⟨xle rfl, xle rfl⟩, xle rfl, xle rfl⟩ (xle rfl) ?_
  refine ⟨sc, (21, sc), (22, sc), rfl, xk (xk (xup_self _ _ _)), fun j q1 q2 => ?_, ?_, ?_, fun ad4 h4 E4 hN _ => ?_⟩
  · rw [xup_ne _ _ (tg_ne (by omega) _ _), xup_ne _ _ (tg_ne (by omega) _ _), xup_ne _ _ (tg_ne (by omega) _ _)]
    exact hn j (by omega) (by omega)
  · rw [xk (xup_self _ _ _)]; exact fun z => by cases z
  · rw [xup_self]; exact fun z => by cases z
  obtain ⟨r1, r2, r3, r4, r5, r6, r7, r8⟩ := hN
  have o20 : ad4 (20, sc) = ad3 (20, sc) := E4 (20, sc) (fun z => absurd z.1 (by show ¬ 23 ≤ 20; omega))
  rw [← o20]
  refine x_aret F dX5_parsed_37 (xle rfl) (xle rfl) (Or.inl ⟨_, rfl⟩) (by first | exact xref_r | exact xref_n | exact xref_f _ | assumption) ?_
  refine hQ ad4 h4 (fun v hv => ?_) ?_ ?_ r1 r2 r3 r4 r5 r6 r7 (fun t ht => ?_)
  · rw [E4 v (fun z => hv ⟨by omega, z.2.1, z.2.2⟩), E3 v (fun z => hv (by rw [z]; exact ⟨by show 20 ≤ 22; omega, by show 22 ≤ 28; omega, rfl⟩)), E2 v (fun z => hv (by rw [z]; exact ⟨by show 20 ≤ 21; omega, by show 21 ≤ 28; omega, rfl⟩)), E1 v (fun z => hv (by rw [z]; exact ⟨by show 20 ≤ 20; omega, by show 20 ≤ 28; omega, rfl⟩))]
  · rw [r8 (21, sc) (fun z => by rcases z with z | z; exact absurd (congrArg Prod.fst z) (by show ¬ 21 = 20; omega); exact absurd z.1 (by show ¬ 23 ≤ 21; omega))]
    exact xk (xup_self _ _ _)
  · rw [r8 (22, sc) (fun z => by rcases z with z | z; exact absurd (congrArg Prod.fst z) (by show ¬ 22 = 20; omega); exact absurd z.1 (by show ¬ 23 ≤ 22; omega))]
    exact xup_self _ _ _
  · have q : ∀ j, 20 ≤ j → j ≤ 28 → t ≠ (j, sc) := fun j q1 q2 z => ht (by rw [z]; exact ⟨q1, q2, rfl⟩)
    rw [r8 t (fun z => by rcases z with z | z; exact q 20 (by omega) (by omega) z; exact ht ⟨by omega, z.2.1, z.2.2⟩)]
    simp [xup, q 20 (by omega) (by omega), q 21 (by omega) (by omega), q 22 (by omega) (by omega)]
