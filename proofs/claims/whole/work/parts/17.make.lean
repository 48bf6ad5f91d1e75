/-! ===== what makes cells: ByteRow.copy, Script, ScriptText, Runner ===== -/
/-- a number within its bounds stays, cut to them -/
theorem clamp_nI {n N : Nat} (h : n ≤ N) (hN : N < 2 ^ 31) : (if (0 : Int32) < (if nI N < nI n then nI N else nI n) then (if nI N < nI n then nI N else nI n) else 0) = nI n := by
  have e : (if nI N < nI n then nI N else nI n) = nI n := if_neg (fun v => absurd ((nI_ltI hN (by omega)).mp v) (by omega))
  rw [e]
  by_cases w : 0 < n
  · exact if_pos (show (0 : Int32) < nI n from (nI_ltI (a := 0) (b := n) (by omega) (by omega)).mpr w)
  · rw [if_neg (show ¬ (0 : Int32) < nI n from fun v => w ((nI_ltI (a := 0) (b := n) (by omega) (by omega)).mp v)), show n = 0 by omega]
    rfl
def s_copy : xSp := fun ad h av Q => ∃ (t b tr tb : Tg) (n N : Nat) (f : Nat → Int32), av = [.ref (ad t)] ∧ h t = some (cRow (ad b) (nI n)) ∧ h b = some (cI N f) ∧ n ≤ N ∧ N ≤ 40 ∧ h tr = none ∧ h tb = none ∧ tr ≠ tb ∧
  ∀ (ad' : xAd) (g : Nat → Int32), (∀ v, v ≠ tr → v ≠ tb → ad' v = ad v) → (∀ j, j < n → g j = f j) → Q (some (.ref (ad' tr))) ad' (xup (xup h tb (cI n g)) tr (cRow (ad' tb) (nI n)))
set_option maxRecDepth 100000 in
theorem c_X0_copy : Ct yX0_copy cX0_copy 2 (some (.object "MigrateSteps$ByteRow")) (xrm 2 2 42) s_copy := by
  refine Ct.of (by decide) ?_
  intro p l e s m args below meth c0 G ad h av Q F hsp
  obtain ⟨t, b, tr, tb, n, N, f, rfl, e1, e2, hn, hN, e3, e4, hne, hQ⟩ := hsp
  have h1 : t ≠ tr := fun z => by rw [z, e3] at e1; cases e1
  have h2 : t ≠ tb := fun z => by rw [z, e4] at e1; cases e1
  have h3 : b ≠ tr := fun z => by rw [z, e3] at e2; cases e2
  have h4 : b ≠ tb := fun z => by rw [z, e4] at e2; cases e2
  refine ⟨x_ent rfl rfl, ?_⟩
  refine x_ls [(0, .ref (ad t))] rfl ?_
  refine x_iconst (q := 1) (v := 0) F dX0_copy_0 rfl (by decide) ?_
  refine x_aload_n (q := 2) F dX0_copy_1 rfl rfl (by first | exact xref_r | exact xref_n | exact xref_f _ | assumption) ?_
  refine x_get (q := 5) F dX0_copy_2 rfl fs_X0_15 e1 rfl ?_
  refine x_aload_n (q := 6) F dX0_copy_5 rfl rfl (by first | exact xref_r | exact xref_n | exact xref_f _ | assumption) ?_
  refine x_get (q := 9) F dX0_copy_6 rfl fs_X0_9 e1 rfl ?_
  refine x_alen (q := 10) F dX0_copy_9 rfl e2 (by decide) ?_
  refine x_mmin (q := 13) F dX0_copy_10 rfl ml_X0_23 mw_min (xle rfl) (xle rfl) (xle rfl) (xle rfl) ?_
  refine x_mmax (q := 16) F dX0_copy_13 rfl ml_X0_29 mw_max (xle rfl) (xle rfl) (xle rfl) (xle rfl) ?_
  refine x_topi (y := nI n) (clamp_nI hn (by omega)) ?_
  refine x_istore_n (q := 17) F dX0_copy_16 rfl (by decide) ?_
  refine x_ls [(0, .ref (ad t)), (1, .int (nI n))] rfl ?_
  refine x_new (q := 20) F tr [.null, .int 0] dX0_copy_17 rfl (ci := 0) rfl ⟨cl_X0_10, im_X0, iz_X0⟩ e3 df_X0 (xle rfl) (xle rfl) (fun ad1 E1 => ?_)
  rw [← E1 t h1]
  rw [← E1 b h3] at e1
  refine x_dup (q := 21) F dX0_copy_20 rfl rfl ?_
  refine x_aload_n (q := 22) F dX0_copy_21 rfl rfl (by first | exact xref_r | exact xref_n | exact xref_f _ | assumption) ?_
  refine x_get (q := 25) F dX0_copy_22 rfl fs_X0_9 (by rw [xup_ne _ _ h1]; exact e1) rfl ?_
  refine x_iload_n (q := 26) F dX0_copy_25 rfl rfl ?_
  refine x_callS2 (q := 29) F c_J7_copyOf_59c91 dX0_copy_26 rfl ms_J7_copyOf_59c91 ml_X0_32 ⟨⟨xle rfl, xle rfl⟩, xle rfl, xle rfl⟩ (xle rfl) ?_
  refine ⟨b, tb, N, n, f, rfl, by rw [xup_ne _ _ h3]; exact e2, by rw [xup_ne _ _ hne.symm]; exact e4, hn, hN, fun ad2 g E2 hg _ => ?_⟩
  rw [← E2 t h2, ← E2 tr hne]
  refine x_iload_n (q := 30) F dX0_copy_29 rfl rfl ?_
  refine x_callI2 (q := 33) F tr c_X0_init dX0_copy_30 rfl mi_X0_init ml_X0_38 ⟨⟨xle rfl, xle rfl⟩, xle rfl, xle rfl⟩ (xle rfl) ?_
  refine ⟨tr, tb, _, _, _, rfl, by rw [xup_ne _ _ hne]; exact xup_self _ _ _, fun _ => ?_⟩
  refine x_h (h2 := xup (xup h tb (cI n g)) tr (cRow (ad2 tb) (nI n))) (by rw [xup_comm _ _ _ hne, xup_xup]) ?_
  refine x_aret F dX0_copy_33 (xle rfl) (xle rfl) (Or.inl ⟨_, rfl⟩) (by first | exact xref_r | exact xref_n | exact xref_f _ | assumption) ?_
  exact hQ ad2 g (fun v q1 q2 => (E2 v q2).trans (E1 v q1)) hg
theorem tg_ne {a b : Nat} (h : a ≠ b) (i j : Nat) : ((a, i) : Tg) ≠ (b, j) := fun z => h (congrArg Prod.fst z)
theorem xk {g : xH} {a i b j : Nat} {e e' : xE} (q : g (b, j) = some e) (h : b ≠ a := by decide) : xup g (a, i) e' (b, j) = some e := (xup_ne _ _ (tg_ne h j i)).trans q
theorem xkn {g : xH} {a i b j : Nat} {e' : xE} (q : g (b, j) = none) (h : b ≠ a := by decide) : xup g (a, i) e' (b, j) = none := (xup_ne _ _ (tg_ne h j i)).trans q
/-- a new script's checks and itself -/
def newScr (ad' : xAd) (h h' : xH) (sc : Nat) (b1 b2 : Tg) : Prop :=
  h' (20, sc) = some (cScr (ad' b1) (ad' b2) (ad' (23, sc)) (ad' (24, sc)) (-1)) ∧ h' (23, sc) = some (cChk (ad' (25, sc)) (ad' (26, sc)) 0) ∧ h' (24, sc) = some (cChk (ad' (27, sc)) (ad' (28, sc)) 0) ∧
  h' (25, sc) = some (cI 4 (fun _ => 0)) ∧ h' (26, sc) = some (cI 4 (fun _ => 0)) ∧ h' (27, sc) = some (cI 4 (fun _ => 0)) ∧ h' (28, sc) = some (cI 4 (fun _ => 0)) ∧
  ∀ t : Tg, ¬ (t = (20, sc) ∨ (23 ≤ t.1 ∧ t.1 ≤ 28 ∧ t.2 = sc)) → h' t = h t
def s_scrInit : xSp := fun ad h av Q => ∃ (sc : Nat) (b1 b2 : Tg), av = [.ref (ad (20, sc)), .ref (ad b1), .ref (ad b2)] ∧ h (20, sc) = some (.inr (4, [.null, .null, .null, .null, .int 0])) ∧ (∀ k, 23 ≤ k → k ≤ 28 → h (k, sc) = none) ∧ h b1 ≠ none ∧ h b2 ≠ none ∧
  ∀ (ad' : xAd) (h' : xH), (∀ v : Tg, ¬ (23 ≤ v.1 ∧ v.1 ≤ 28 ∧ v.2 = sc) → ad' v = ad v) → newScr ad' h h' sc b1 b2 → Q none ad' h'
set_option maxRecDepth 100000 in
set_option maxHeartbeats 2000000 in
theorem c_X4_init : Ct yX4_init cX4_init 3 none (xrm 2 6 22) s_scrInit := by
  refine Ct.of (by decide) ?_
  intro p l e s m args below meth c0 G ad h av Q F hsp
  obtain ⟨sc, b1, b2, rfl, e1, e2, hb1, hb2, hQ⟩ := hsp
  refine ⟨x_ent rfl rfl, ?_⟩
  refine x_ls [(0, .ref (ad (20, sc))), (1, .ref (ad b1)), (2, .ref (ad b2))] rfl ?_
  have n23 := e2 23 (by omega) (by omega)
  have n24 := e2 24 (by omega) (by omega)
  have n25 := e2 25 (by omega) (by omega)
  have n26 := e2 26 (by omega) (by omega)
  have n27 := e2 27 (by omega) (by omega)
  have n28 := e2 28 (by omega) (by omega)
  have lv : ∀ {k : Nat}, h (k, sc) = none → ∀ {b : Tg}, h b ≠ none → b ≠ (k, sc) := fun {k} q1 {b} hb z => hb (by rw [z]; exact q1)
  refine x_aload_n (q := 1) F dX4_init_0 rfl rfl (by first | exact xref_r | exact xref_n | exact xref_f _ | assumption) ?_
  refine x_objInit (q := 4) F dX4_init_1 rfl ml_X4_3 oi_i oi_c (xle rfl) (xle rfl) ?_
  refine x_aload_n (q := 5) F dX4_init_4 rfl rfl (by first | exact xref_r | exact xref_n | exact xref_f _ | assumption) ?_
  refine x_new (q := 8) F (23, sc) [.null, .null, .int 0] dX4_init_5 rfl (ci := 1) rfl ⟨cl_X4_9, im_X1, iz_X1⟩ n23 df_X1 (xle rfl) (xle rfl) (fun ad1 E1 => ?_)
  rw [← E1 (20, sc) (tg_ne (by decide) _ _), ← E1 b1 (lv n23 hb1), ← E1 b2 (lv n23 hb2)]
  refine x_dup (q := 9) F dX4_init_8 rfl rfl ?_
  refine x_callN0 (q := 12) F (23, sc) "MigrateSteps" c_X1_init dX4_init_9 rfl mi_X1_init mn_X4_11 ⟨⟨xle rfl, xle rfl⟩, xle rfl, xle rfl⟩ (xle rfl) ?_
  refine ⟨(23, sc), (25, sc), (26, sc), rfl, xup_self _ _ _, xkn n25, xkn n26, tg_ne (by decide) _ _, fun ad2 E2 _ => ?_⟩
  rw [← E2 (20, sc) (tg_ne (by decide) _ _) (tg_ne (by decide) _ _), ← E2 (23, sc) (tg_ne (by decide) _ _) (tg_ne (by decide) _ _), ← E2 b1 (lv n25 hb1) (lv n26 hb1), ← E2 b2 (lv n25 hb2) (lv n26 hb2)]
  refine x_putF (q := 15) F dX4_init_12 rfl fs_X4_12 rfl rfl (xk (xk (xk (xk e1)))) (xle rfl) rfl rfl ?_
  refine x_aload_n (q := 16) F dX4_init_15 rfl rfl (by first | exact xref_r | exact xref_n | exact xref_f _ | assumption) ?_
  refine x_new (q := 19) F (24, sc) [.null, .null, .int 0] dX4_init_16 rfl (ci := 1) rfl ⟨cl_X4_9, im_X1, iz_X1⟩ (xkn (xkn (xkn (xkn (xkn n24))))) df_X1 (xle rfl) (xle rfl) (fun ad3 E3 => ?_)
  rw [← E3 (20, sc) (tg_ne (by decide) _ _), ← E3 (23, sc) (tg_ne (by decide) _ _), ← E3 (25, sc) (tg_ne (by decide) _ _), ← E3 (26, sc) (tg_ne (by decide) _ _), ← E3 b1 (lv n24 hb1), ← E3 b2 (lv n24 hb2)]
  refine x_dup (q := 20) F dX4_init_19 rfl rfl ?_
  refine x_callN0 (q := 23) F (24, sc) "MigrateSteps" c_X1_init dX4_init_20 rfl mi_X1_init mn_X4_11 ⟨⟨xle rfl, xle rfl⟩, xle rfl, xle rfl⟩ (xle rfl) ?_
  refine ⟨(24, sc), (27, sc), (28, sc), rfl, xup_self _ _ _, xkn (xkn (xkn (xkn (xkn (xkn n27))))), xkn (xkn (xkn (xkn (xkn (xkn n28))))), tg_ne (by decide) _ _, fun ad4 E4 _ => ?_⟩
  have E4' : ∀ {k : Nat}, k ≠ 27 → k ≠ 28 → ad4 (k, sc) = ad3 (k, sc) := fun q1 q2 => E4 _ (tg_ne q1 _ _) (tg_ne q2 _ _)
  rw [← E4' (k := 20) (by decide) (by decide), ← E4' (k := 23) (by decide) (by decide), ← E4' (k := 24) (by decide) (by decide), ← E4' (k := 25) (by decide) (by decide), ← E4' (k := 26) (by decide) (by decide), ← E4 b1 (lv n27 hb1) (lv n28 hb1), ← E4 b2 (lv n27 hb2) (lv n28 hb2)]
  refine x_putF (q := 26) F dX4_init_23 rfl fs_X4_18 rfl rfl (xk (xk (xk (xk (xup_self _ _ _))))) (xle rfl) rfl rfl ?_
  refine x_aload_n (q := 27) F dX4_init_26 rfl rfl (by first | exact xref_r | exact xref_n | exact xref_f _ | assumption) ?_
  refine x_iconst (q := 28) (v := -1) F dX4_init_27 rfl (by decide) ?_
  refine x_put (q := 31) F dX4_init_28 rfl fs_X4_21 (xup_self _ _ _) (xle rfl) rfl rfl ?_
  refine x_aload_n (q := 32) F dX4_init_31 rfl rfl (by first | exact xref_r | exact xref_n | exact xref_f _ | assumption) ?_
  refine x_aload_n (q := 33) F dX4_init_32 rfl rfl (by first | exact xref_r | exact xref_n | exact xref_f _ | assumption) ?_
  refine x_putF (q := 36) F dX4_init_33 rfl fs_X4_25 rfl rfl (xup_self _ _ _) (xle rfl) rfl rfl ?_
  refine x_aload_n (q := 37) F dX4_init_36 rfl rfl (by first | exact xref_r | exact xref_n | exact xref_f _ | assumption) ?_
  refine x_aload_n (q := 38) F dX4_init_37 rfl rfl (by first | exact xref_r | exact xref_n | exact xref_f _ | assumption) ?_
  refine x_putF (q := 41) F dX4_init_38 rfl fs_X4_29 rfl rfl (xup_self _ _ _) (xle rfl) rfl rfl ?_
  refine x_vret F dX4_init_41 (xle rfl) (xle rfl) ?_
  refine hQ ad4 _ (fun v hv => ?_) ⟨?_, ?_, ?_, ?_, ?_, ?_, ?_, ?_⟩
  · have q : ∀ k, 23 ≤ k → k ≤ 28 → v ≠ (k, sc) := fun k q1 q2 z => hv (by rw [z]; exact ⟨q1, q2, rfl⟩)
    rw [E4 v (q 27 (by omega) (by omega)) (q 28 (by omega) (by omega)), E3 v (q 24 (by omega) (by omega)), E2 v (q 25 (by omega) (by omega)) (q 26 (by omega) (by omega)), E1 v (q 23 (by omega) (by omega))]
  · exact xup_self _ _ _
  · simp [xup]
  · simp [xup]
  · simp [xup]
  · simp [xup]
  · simp [xup]
  · simp [xup]
  · intro t ht
    have q : ∀ k, 23 ≤ k → k ≤ 28 → t ≠ (k, sc) := fun k q1 q2 z => ht (Or.inr (by rw [z]; exact ⟨q1, q2, rfl⟩))
    have q0 : t ≠ (20, sc) := fun z => ht (Or.inl z)
    simp [xup, q0, q 23 (by omega) (by omega), q 24 (by omega) (by omega), q 25 (by omega) (by omega), q 26 (by omega) (by omega), q 27 (by omega) (by omega), q 28 (by omega) (by omega)]
