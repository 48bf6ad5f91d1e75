/-! ===== a new object ===== -/
def clampN (c : Nat) (x : Int32) : Nat := if x < 0 then 0 else min x.toNatClampNeg c
theorem clampN_le (c : Nat) (x : Int32) : clampN c x ≤ c := by
  unfold clampN
  by_cases z : x < 0
  · rw [if_pos z]; omega
  · rw [if_neg z]; omega
theorem clamp_eq {c : Nat} (hc : c < 2 ^ 30) (x : Int32) : (if 0 < (if nI c < x then nI c else x) then (if nI c < x then nI c else x) else 0) = nI (clampN c x) := by
  unfold clampN
  by_cases z : x < 0
  · have h1 : ¬ nI c < x := fun w => by
      have a := Int32.lt_iff_toInt_lt.mp w
      have b := Int32.lt_iff_toInt_lt.mp z
      rw [nI_toInt (by omega)] at a
      have : (0 : Int32).toInt = 0 := rfl
      omega
    have h2 : ¬ 0 < x := fun w => by
      have a := Int32.lt_iff_toInt_lt.mp w
      have b := Int32.lt_iff_toInt_lt.mp z
      omega
    rw [if_neg h1, if_neg h2, if_pos z]
    rfl
  · obtain ⟨j, hj, rfl⟩ := nI_of z
    rw [if_neg z, nI_clamp hj]
    by_cases q : c < j
    · rw [if_pos ((nI_ltI (by omega) hj).mpr q), Nat.min_eq_right (by omega)]
      by_cases w : 0 < c
      · rw [if_pos (show (0 : Int32) < nI c from (nI_ltI (a := 0) (b := c) (by omega) (by omega)).mpr w)]
      · rw [if_neg (show ¬ (0 : Int32) < nI c from fun v => w ((nI_ltI (a := 0) (b := c) (by omega) (by omega)).mp v)), show c = 0 by omega]
        rfl
    · rw [if_neg (fun v => q ((nI_ltI (by omega) hj).mp v)), Nat.min_eq_left (by omega)]
      by_cases w : 0 < j
      · rw [if_pos (show (0 : Int32) < nI j from (nI_ltI (a := 0) (b := j) (by omega) (by omega)).mpr w)]
      · rw [if_neg (show ¬ (0 : Int32) < nI j from fun v => w ((nI_ltI (a := 0) (b := j) (by omega) (by omega)).mp v)), show j = 0 by omega]
        rfl
def dItm : ItmD := ((0, fun _ => 0), (none, none, 0), (none, false))
def dScr : ScrD := ((0, fun _ => 0, fun _ => 0), (0, fun _ => 0, fun _ => 0), (0, fun _ => 0, fun _ => 0), none)
def newA (x y : Int32) : AS := ((0, fun _ => 0), (0, fun _ => 0), (0, fun _ => dScr), (0, fun _ => dItm), (clampN 2000 x, clampN 32 y), (0, fun _ => 0), (none, 0), (0, none, 0))
theorem newA_ok (x y : Int32) : aOK (newA x y) := ⟨⟨Nat.zero_le _, fun j hj => absurd hj (Nat.not_lt_zero j)⟩, ⟨Nat.zero_le _, fun j hj => absurd hj (Nat.not_lt_zero j)⟩, ⟨Nat.zero_le _, fun j hj => absurd hj (Nat.not_lt_zero j)⟩, ⟨Nat.zero_le _, fun j hj => absurd hj (Nat.not_lt_zero j)⟩, ⟨clampN_le _ _, clampN_le _ _⟩, ⟨Nat.zero_le _, fun j hj => absurd hj (Nat.not_lt_zero j)⟩, fun x hx => (by cases hx), Nat.zero_le _, fun x hx => (by cases hx)⟩
set_option maxRecDepth 100000 in
set_option maxHeartbeats 4000000 in
theorem c_X6_init : Ct yX6_init cX6_init 3 none (xrm 3 12 480) (fun ad h av Q => ∃ x y, av = [.ref (ad (1, 0)), .int x, .int y] ∧ h (1, 0) = some (.inr (6, [.null, .null, .null, .null, .null, .int 0, .int 0, .int 0, .int 0, .int 0])) ∧ (∀ t : Tg, 2 ≤ t.1 → t.1 < 40 → h t = none) ∧
    ∀ ad' h', pC ad' h' (newA x y) → fr40 h h' → Q none ad' h') := by
  refine Ct.of (by decide) ?_
  intro p l e s m args below meth c0 G ad h av Q F hsp
  obtain ⟨x, y, rfl, e1, hn, hQ⟩ := hsp
  refine ⟨x_ent rfl rfl, ?_⟩
  refine x_ls [(0, .ref (ad (1, 0))), (1, .int x), (2, .int y)] rfl ?_
  refine x_aload_n (q := 1) F dX6_init_0 rfl rfl (by first | exact xref_r | exact xref_n | exact xref_f _ | assumption) ?_
  refine x_objInit (q := 4) F dX6_init_1 rfl ml_X6_1 oi_i oi_c (xle rfl) (xle rfl) ?_
  refine x_aload_n (q := 5) F dX6_init_4 rfl rfl (by first | exact xref_r | exact xref_n | exact xref_f _ | assumption) ?_
  refine x_new (q := 8) F (2, 0) [.null, .null, .null, .int 0, .int 0] dX6_init_5 rfl (ci := 5) rfl ⟨cl_X6_7, im_X5, iz_X5⟩ (hn (2, 0) (by decide) (by decide)) df_X5 (xle rfl) (xle rfl) (fun ad1 E1 => ?_)
  rw [← E1 (1, 0) (by decide)]
  refine x_dup (q := 9) F dX6_init_8 rfl rfl ?_
  refine x_callN0 (q := 12) F (2, 0) "MigrateSteps" c_X5_init dX6_init_9 rfl mi_X5_init mn_X6_9 ⟨⟨xle rfl, xle rfl⟩, xle rfl, xle rfl⟩ (xle rfl) ?_
  refine ⟨rfl, xup_self _ _ _, xkn (hn (3, 0) (by decide) (by decide)), xkn (hn (4, 0) (by decide) (by decide)), xkn (hn (5, 0) (by decide) (by decide)), fun ad2 h2 E2 t2 t3 t4 t5 o2 _ => ?_⟩
  rw [← E2 (1, 0) (by decide) (by decide) (by decide), ← E2 (2, 0) (by decide) (by decide) (by decide)]
  have m2 : h2 (1, 0) = some (.inr (6, [.null, .null, .null, .null, .null, .int 0, .int 0, .int 0, .int 0, .int 0])) := (o2 (1, 0) (by decide) (by decide) (by decide) (by decide)).trans (xk e1)
  have f2 : ∀ t : Tg, 6 ≤ t.1 → t.1 < 40 → h2 t = none := fun t q1 q2 => by
    rw [o2 t (fun z => by rw [z] at q1; exact absurd q1 (by decide)) (fun z => by rw [z] at q1; exact absurd q1 (by decide)) (fun z => by rw [z] at q1; exact absurd q1 (by decide)) (fun z => by rw [z] at q1; exact absurd q1 (by decide)), up_ne (by omega)]
    exact hn t (by omega) q2
  have g2 : fr40 h h2 := fun t ht => by
    rw [o2 t (fun z => by rw [z] at ht; exact absurd ht (by decide)) (fun z => by rw [z] at ht; exact absurd ht (by decide)) (fun z => by rw [z] at ht; exact absurd ht (by decide)) (fun z => by rw [z] at ht; exact absurd ht (by decide)), up_ne (by omega)]
  clear o2
  refine x_putF (q := 15) F dX6_init_12 rfl fs_X6_10 rfl rfl m2 (xle rfl) rfl rfl ?_
  refine x_aload_n (q := 16) F dX6_init_15 rfl rfl (by first | exact xref_r | exact xref_n | exact xref_f _ | assumption) ?_
  refine x_new (q := 19) F (6, 0) [.null, .int 0] dX6_init_16 rfl (ci := 0) rfl ⟨cl_X6_16, im_X0, iz_X0⟩ (xkn (f2 (6, 0) (by decide) (by decide))) df_X0 (xle rfl) (xle rfl) (fun ad3 E3 => ?_)
  have E3' : ∀ {k : Nat}, k ≠ 6 → ad3 (k, 0) = ad2 (k, 0) := fun q => E3 _ (tg_ne q _ _)
  rw [← E3' (k := 1) (by decide), ← E3' (k := 2) (by decide)]
  rw [← E3' (k := 3) (by decide), ← E3' (k := 4) (by decide), ← E3' (k := 5) (by decide)] at t2
  refine x_dup (q := 20) F dX6_init_19 rfl rfl ?_
  refine x_bipush (q := 22) (v := 40) F dX6_init_20 rfl (by decide) ?_
  refine x_newaI (q := 24) (N := 40) F (7, 0) dX6_init_22 rfl ac_int rfl (by omega) (xkn (xkn (f2 (7, 0) (by decide) (by decide)))) (xle rfl) (xle rfl) (fun ad4 E4 => ?_)
  have E4' : ∀ {k : Nat}, k ≠ 7 → ad4 (k, 0) = ad3 (k, 0) := fun q => E4 _ (tg_ne q _ _)
  rw [← E4' (k := 1) (by decide), ← E4' (k := 2) (by decide), ← E4' (k := 6) (by decide)]
  rw [← E4' (k := 3) (by decide), ← E4' (k := 4) (by decide), ← E4' (k := 5) (by decide)] at t2
  refine x_iconst (q := 25) (v := 0) F dX6_init_24 rfl (by decide) ?_
  refine x_callI2 (q := 28) F (6, 0) c_X0_init dX6_init_25 rfl mi_X0_init ml_X6_18 ⟨⟨xle rfl, xle rfl⟩, xle rfl, xle rfl⟩ (xle rfl) ?_
  refine ⟨(6, 0), (7, 0), _, _, _, rfl, xk (xup_self _ _ _), fun _ => ?_⟩
  refine x_putF (q := 31) F dX6_init_28 rfl fs_X6_21 rfl rfl (xk (xk (xk (xup_self _ _ _)))) (xle rfl) rfl rfl ?_
  refine x_aload_n (q := 32) F dX6_init_31 rfl rfl (by first | exact xref_r | exact xref_n | exact xref_f _ | assumption) ?_
  refine x_bipush (q := 34) (v := 10) F dX6_init_32 rfl (by decide) ?_
  refine x_newq4 (q := 37) (N := 10) F (8, 0) dX6_init_34 rfl cl_X6_25 rfl (by omega) (xkn (xkn (xkn (xkn (xkn (f2 (8, 0) (by decide) (by decide))))))) (xle rfl) (xle rfl) (fun ad5 E5 => ?_)
  have E5' : ∀ {k : Nat}, k ≠ 8 → ad5 (k, 0) = ad4 (k, 0) := fun q => E5 _ (tg_ne q _ _)
  rw [← E5' (k := 1) (by decide), ← E5' (k := 2) (by decide), ← E5' (k := 6) (by decide), ← E5' (k := 7) (by decide)]
  rw [← E5' (k := 3) (by decide), ← E5' (k := 4) (by decide), ← E5' (k := 5) (by decide)] at t2
  refine x_putF (q := 40) F dX6_init_37 rfl fs_X6_27 rfl rfl (xk (xup_self _ _ _)) (xle rfl) rfl rfl ?_
  refine x_aload_n (q := 41) F dX6_init_40 rfl rfl (by first | exact xref_r | exact xref_n | exact xref_f _ | assumption) ?_
  refine x_bipush (q := 43) (v := 60) F dX6_init_41 rfl (by decide) ?_
  refine x_newq5 (q := 46) (N := 60) F (9, 0) dX6_init_43 rfl cl_X6_31 rfl (by omega) (xkn (xkn (xkn (xkn (xkn (xkn (xkn (f2 (9, 0) (by decide) (by decide))))))))) (xle rfl) (xle rfl) (fun ad6 E6 => ?_)
  have E6' : ∀ {k : Nat}, k ≠ 9 → ad6 (k, 0) = ad5 (k, 0) := fun q => E6 _ (tg_ne q _ _)
  rw [← E6' (k := 1) (by decide), ← E6' (k := 2) (by decide), ← E6' (k := 6) (by decide), ← E6' (k := 7) (by decide), ← E6' (k := 8) (by decide)]
  rw [← E6' (k := 3) (by decide), ← E6' (k := 4) (by decide), ← E6' (k := 5) (by decide)] at t2
  refine x_putF (q := 49) F dX6_init_46 rfl fs_X6_33 rfl rfl (xk (xup_self _ _ _)) (xle rfl) rfl rfl ?_
  refine x_aload_n (q := 50) F dX6_init_49 rfl rfl (by first | exact xref_r | exact xref_n | exact xref_f _ | assumption) ?_
  refine x_iconst (q := 51) (v := 0) F dX6_init_50 rfl (by decide) ?_
  refine x_put (q := 54) F dX6_init_51 rfl fs_X6_37 (xup_self _ _ _) (xle rfl) rfl rfl ?_
  refine x_h (xup_xup _ _ _ _) ?_
  refine x_aload_n (q := 55) F dX6_init_54 rfl rfl (by first | exact xref_r | exact xref_n | exact xref_f _ | assumption) ?_
  refine x_iconst (q := 56) (v := 0) F dX6_init_55 rfl (by decide) ?_
  refine x_put (q := 59) F dX6_init_56 rfl fs_X6_41 (xup_self _ _ _) (xle rfl) rfl rfl ?_
  refine x_h (xup_xup _ _ _ _) ?_
  refine x_aload_n (q := 60) F dX6_init_59 rfl rfl (by first | exact xref_r | exact xref_n | exact xref_f _ | assumption) ?_
  refine x_iconst (q := 61) (v := 0) F dX6_init_60 rfl (by decide) ?_
  refine x_put (q := 64) F dX6_init_61 rfl fs_X6_44 (xup_self _ _ _) (xle rfl) rfl rfl ?_
  refine x_h (xup_xup _ _ _ _) ?_
  refine x_aload_n (q := 65) F dX6_init_64 rfl rfl (by first | exact xref_r | exact xref_n | exact xref_f _ | assumption) ?_
  refine x_iconst (q := 66) (v := -1) F dX6_init_65 rfl (by decide) ?_
  refine x_put (q := 69) F dX6_init_66 rfl fs_X6_47 (xup_self _ _ _) (xle rfl) rfl rfl ?_
  refine x_h (xup_xup _ _ _ _) ?_
  refine x_aload_n (q := 70) F dX6_init_69 rfl rfl (by first | exact xref_r | exact xref_n | exact xref_f _ | assumption) ?_
  refine x_iconst (q := 71) (v := 0) F dX6_init_70 rfl (by decide) ?_
  refine x_put (q := 74) F dX6_init_71 rfl fs_X6_50 (xup_self _ _ _) (xle rfl) rfl rfl ?_
  refine x_h (xup_xup _ _ _ _) ?_
  refine x_aload_n (q := 75) F dX6_init_74 rfl rfl (by first | exact xref_r | exact xref_n | exact xref_f _ | assumption) ?_
  refine x_new (q := 78) F (10, 0) [.int 0, .null, .null, .int 0, .int 0, .int 0, .int 0, .int 0, .long 0] dX6_init_75 rfl (ci := 3) rfl ⟨cl_X6_53, im_X3, iz_X3⟩ (xkn (xkn (xkn (xkn (xkn (xkn (xkn (xkn (xkn (f2 (10, 0) (by decide) (by decide))))))))))) df_X3 (xle rfl) (xle rfl) (fun ad7 E7 => ?_)
  have E7' : ∀ {k : Nat}, k ≠ 10 → ad7 (k, 0) = ad6 (k, 0) := fun q => E7 _ (tg_ne q _ _)
  rw [← E7' (k := 1) (by decide), ← E7' (k := 2) (by decide), ← E7' (k := 6) (by decide), ← E7' (k := 7) (by decide), ← E7' (k := 8) (by decide), ← E7' (k := 9) (by decide)]
  rw [← E7' (k := 3) (by decide), ← E7' (k := 4) (by decide), ← E7' (k := 5) (by decide)] at t2
  refine x_dup (q := 79) F dX6_init_78 rfl rfl ?_
  refine x_iconst (q := 80) (v := 0) F dX6_init_79 rfl (by decide) ?_
  refine x_iload_n (q := 81) F dX6_init_80 rfl rfl ?_
  refine x_sipush (q := 84) (v := 2000) F dX6_init_81 rfl (by decide) ?_
  refine x_mmin (q := 87) F dX6_init_84 rfl ml_X6_55 mw_min (xle rfl) (xle rfl) (xle rfl) (xle rfl) ?_
  refine x_mmax (q := 90) F dX6_init_87 rfl ml_X6_61 mw_max (xle rfl) (xle rfl) (xle rfl) (xle rfl) ?_
  refine x_topi (y := nI (clampN 2000 x)) (clamp_eq (c := 2000) (by omega) x) ?_
  refine x_iconst (q := 91) (v := 0) F dX6_init_90 rfl (by decide) ?_
  refine x_iload_n (q := 92) F dX6_init_91 rfl rfl ?_
  refine x_bipush (q := 94) (v := 32) F dX6_init_92 rfl (by decide) ?_
  refine x_mmin (q := 97) F dX6_init_94 rfl ml_X6_55 mw_min (xle rfl) (xle rfl) (xle rfl) (xle rfl) ?_
  refine x_mmax (q := 100) F dX6_init_97 rfl ml_X6_61 mw_max (xle rfl) (xle rfl) (xle rfl) (xle rfl) ?_
  refine x_topi (y := nI (clampN 32 y)) (clamp_eq (c := 32) (by omega) y) ?_
  have hnc := clampN_le 32 y
  refine x_newaI (q := 102) (N := (clampN 32 y)) F (11, 0) dX6_init_100 rfl ac_int rfl (by omega) (xkn (xkn (xkn (xkn (xkn (xkn (xkn (xkn (xkn (xkn (f2 (11, 0) (by decide) (by decide)))))))))))) (xle rfl) (by show 406 + clampN 32 y ≤ 480; omega) (fun ad8 E8 => ?_)
  refine x_widen (k2 := 10) (n2 := 438) (xle rfl) (by show 406 + clampN 32 y ≤ 438; omega) ?_
  have E8' : ∀ {k : Nat}, k ≠ 11 → ad8 (k, 0) = ad7 (k, 0) := fun q => E8 _ (tg_ne q _ _)
  rw [← E8' (k := 1) (by decide), ← E8' (k := 2) (by decide), ← E8' (k := 6) (by decide), ← E8' (k := 7) (by decide), ← E8' (k := 8) (by decide), ← E8' (k := 9) (by decide), ← E8' (k := 10) (by decide)]
  rw [← E8' (k := 3) (by decide), ← E8' (k := 4) (by decide), ← E8' (k := 5) (by decide)] at t2
  refine x_callI2 (q := 105) F (10, 0) c_X3_init dX6_init_102 rfl mi_X3_init ml_X6_64 ⟨⟨xle rfl, xle rfl⟩, xle rfl, xle rfl⟩ (xle rfl) ?_
  refine ⟨clampN 2000 x, rfl, xk (xup_self _ _ _), (by rw [xup_self]; exact fun z => (by cases z)), xkn (xkn (xkn (xkn (xkn (xkn (xkn (xkn (xkn (xkn (xkn (f2 (12, 0) (by decide) (by decide)))))))))))), xkn (xkn (xkn (xkn (xkn (xkn (xkn (xkn (xkn (xkn (xkn (f2 (13, 0) (by decide) (by decide)))))))))))), fun ad9 h9 E9 r10 r12 r13 o9 _ => ?_⟩
  have E9' : ∀ {k : Nat}, k ≠ 12 → k ≠ 13 → ad9 (k, 0) = ad8 (k, 0) := fun q q' => E9 _ (tg_ne q _ _) (tg_ne q' _ _)
  rw [← E9' (k := 1) (by decide) (by decide), ← E9' (k := 10) (by decide) (by decide)]
  rw [← E9' (k := 3) (by decide) (by decide), ← E9' (k := 4) (by decide) (by decide), ← E9' (k := 5) (by decide) (by decide)] at t2
  have o9' : ∀ {k : Nat}, k ≠ 10 → k ≠ 12 → k ≠ 13 → h9 (k, 0) = _ := fun {k} q q' q'' => o9 (k, 0) (tg_ne q _ _) (tg_ne q' _ _) (tg_ne q'' _ _)
  have m9 : h9 (1, 0) = some (.inr (6, [.ref (ad9 (2, 0)), .ref (ad9 (6, 0)), .ref (ad9 (8, 0)), .ref (ad9 (9, 0)), .null, .int 0, .int 0, .int 0, .int (-1), .int 0])) := by
    rw [o9' (by decide) (by decide) (by decide), E9' (k := 2) (by decide) (by decide), E9' (k := 6) (by decide) (by decide), E9' (k := 8) (by decide) (by decide), E9' (k := 9) (by decide) (by decide)]
    exact xk (xk (xup_self _ _ _))
  refine x_putF (q := 108) F dX6_init_105 rfl fs_X6_67 rfl rfl m9 (xle rfl) rfl rfl ?_
  refine x_vret F dX6_init_108 (xle rfl) (xle rfl) ?_
  refine hQ ad9 _ ⟨xup_self _ _ _, ⟨fun _ => 0, fun _ => 0, 0, ?_, ?_, ?_, ?_⟩, ⟨?_, ?_⟩, ⟨?_, fun s hs => absurd hs (Nat.not_lt_zero s), fun k s q1 q2 _ => ?_⟩, ⟨?_, fun s hs => absurd hs (Nat.not_lt_zero s), fun k s q1 q2 _ => ?_⟩, fun _ => 0, 0, 0, 0, 0, ?_, xk r13, xk r12, xk r10⟩ (fun t ht => ?_)
  · refine xk ((o9' (by decide) (by decide) (by decide)).trans ?_)
    exact xk (xk (xk (xk (xk (xk (xk (xk (xk (xk t2)))))))))
  · refine xk ((o9' (by decide) (by decide) (by decide)).trans ?_)
    exact xk (xk (xk (xk (xk (xk (xk (xk (xk (xk t3)))))))))
  · refine xk ((o9' (by decide) (by decide) (by decide)).trans ?_)
    exact xk (xk (xk (xk (xk (xk (xk (xk (xk (xk t4)))))))))
  · refine xk ((o9' (by decide) (by decide) (by decide)).trans ?_)
    exact xk (xk (xk (xk (xk (xk (xk (xk (xk (xk t5)))))))))
  · refine xk ((o9' (by decide) (by decide) (by decide)).trans ?_)
    rw [E9' (k := 7) (by decide) (by decide)]
    exact xk (xk (xk (xk (xk (xk (xk (xup_self _ _ _)))))))
  · refine xk ((o9' (by decide) (by decide) (by decide)).trans ?_)
    exact xk (xk (xk (xk (xk (xk (xk (xk (xup_self _ _ _))))))))
  · refine xk ((o9' (by decide) (by decide) (by decide)).trans ?_)
    refine xk (xk (xk (xk (xk (?_ : _ = some (cQ 4 10 (refN ad9 20 0)))))))
    rw [xup_self]
    rfl
  · rw [up_ne (by show k ≠ 1; omega), o9 (k, s) (tg_ne (by omega) _ _) (tg_ne (by omega) _ _) (tg_ne (by omega) _ _)]
    rw [up_ne (by show k ≠ 11; omega), up_ne (by show k ≠ 10; omega), up_ne (by show k ≠ 1; omega), up_ne (by show k ≠ 9; omega), up_ne (by show k ≠ 1; omega), up_ne (by show k ≠ 8; omega), up_ne (by show k ≠ 1; omega), up_ne (by show k ≠ 6; omega), up_ne (by show k ≠ 7; omega), up_ne (by show k ≠ 6; omega), up_ne (by show k ≠ 1; omega)]
    exact f2 (k, s) (by show 6 ≤ k; omega) (by show k < 40; omega)
  · refine xk ((o9' (by decide) (by decide) (by decide)).trans ?_)
    refine xk (xk (xk (?_ : _ = some (cQ 5 60 (refN ad9 30 0)))))
    rw [xup_self]
    rfl
  · rw [up_ne (by show k ≠ 1; omega), o9 (k, s) (tg_ne (by omega) _ _) (tg_ne (by omega) _ _) (tg_ne (by omega) _ _)]
    rw [up_ne (by show k ≠ 11; omega), up_ne (by show k ≠ 10; omega), up_ne (by show k ≠ 1; omega), up_ne (by show k ≠ 9; omega), up_ne (by show k ≠ 1; omega), up_ne (by show k ≠ 8; omega), up_ne (by show k ≠ 1; omega), up_ne (by show k ≠ 6; omega), up_ne (by show k ≠ 7; omega), up_ne (by show k ≠ 6; omega), up_ne (by show k ≠ 1; omega)]
    exact f2 (k, s) (by show 6 ≤ k; omega) (by show k < 40; omega)
  · refine xk ((o9' (by decide) (by decide) (by decide)).trans ?_)
    exact xup_self _ _ _
  · rw [up_ne (by omega), o9 t (fun z => by rw [z] at ht; exact absurd ht (by decide)) (fun z => by rw [z] at ht; exact absurd ht (by decide)) (fun z => by rw [z] at ht; exact absurd ht (by decide))]
    rw [up_ne (by omega), up_ne (by omega), up_ne (by omega), up_ne (by omega), up_ne (by omega), up_ne (by omega), up_ne (by omega), up_ne (by omega), up_ne (by omega), up_ne (by omega), up_ne (by omega)]
    exact g2 t ht
