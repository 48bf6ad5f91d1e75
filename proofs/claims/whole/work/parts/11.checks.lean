/-! ===== Checks, Item ===== -/
abbrev cChk (b1 b2 : Nat) (x : Int32) : xE := .inr (1, [.ref b1, .ref b2, .int x])
theorem upd_n (f : Nat → Nat) (j v : Nat) : upd (fun i => nI (f i)) j (nI v) = fun i => nI (if i = j then v else f i) := by
  funext i
  unfold upd
  by_cases q : i = j
  · rw [if_pos q, if_pos q]
  · rw [if_neg q, if_neg q]
def s_chkInit : xSp := fun ad h av Q => ∃ (t b1 b2 : Tg), av = [.ref (ad t)] ∧ h t = some (.inr (1, [.null, .null, .int 0])) ∧ h b1 = none ∧ h b2 = none ∧ b1 ≠ b2 ∧
  ∀ ad' : xAd, (∀ u, u ≠ b1 → u ≠ b2 → ad' u = ad u) → Q none ad' (xup (xup (xup h b1 (cI 4 (fun _ => 0))) b2 (cI 4 (fun _ => 0))) t (cChk (ad' b1) (ad' b2) 0))
set_option maxRecDepth 100000 in
theorem c_X1_init : Ct yX1_init cX1_init 1 none (xrm 1 2 8) s_chkInit := by
  refine Ct.of (by decide) ?_
  intro p l e s m args below meth c G ad h av Q F hsp
  obtain ⟨t, b1, b2, rfl, e1, e2, e3, h12, hQ⟩ := hsp
  have ht1 : t ≠ b1 := fun z => by rw [z, e2] at e1; cases e1
  have ht2 : t ≠ b2 := fun z => by rw [z, e3] at e1; cases e1
  refine ⟨x_ent rfl rfl, ?_⟩
  refine x_ls [(0, .ref (ad t))] rfl ?_
  refine x_aload_n (q := 1) F dX1_init_0 rfl rfl (by first | exact xref_r | exact xref_n | exact xref_f _ | assumption) ?_
  refine x_objInit (q := 4) F dX1_init_1 rfl ml_X1_3 oi_i oi_c (xle rfl) (xle rfl) ?_
  refine x_aload_n (q := 5) F dX1_init_4 rfl rfl (by first | exact xref_r | exact xref_n | exact xref_f _ | assumption) ?_
  refine x_iconst (q := 6) (v := 4) F dX1_init_5 rfl (by decide) ?_
  refine x_newaI (q := 8) (N := 4) F b1 dX1_init_6 rfl ac_int rfl (by omega) e2 (xle rfl) (xle rfl) (fun ad1 E1 => ?_)
  rw [← E1 t ht1]
  refine x_putF (q := 11) F dX1_init_8 rfl fs_X1_9 rfl rfl (by rw [xup_ne _ _ ht1]; exact e1) (xle rfl) rfl rfl ?_
  refine x_aload_n (q := 12) F dX1_init_11 rfl rfl (by first | exact xref_r | exact xref_n | exact xref_f _ | assumption) ?_
  refine x_iconst (q := 13) (v := 4) F dX1_init_12 rfl (by decide) ?_
  refine x_newaI (q := 15) (N := 4) F b2 dX1_init_13 rfl ac_int rfl (by omega) (by rw [xup_ne _ _ ht2.symm, xup_ne _ _ h12.symm]; exact e3) (xle rfl) (xle rfl) (fun ad2 E2 => ?_)
  rw [← E2 t ht2, ← E2 b1 h12]
  refine x_putF (q := 18) F dX1_init_15 rfl fs_X1_15 rfl rfl (by rw [xup_ne _ _ ht2]; exact xup_self _ _ _) (xle rfl) rfl rfl ?_
  refine x_aload_n (q := 19) F dX1_init_18 rfl rfl (by first | exact xref_r | exact xref_n | exact xref_f _ | assumption) ?_
  refine x_iconst (q := 20) (v := 0) F dX1_init_19 rfl (by decide) ?_
  refine x_put (q := 23) F dX1_init_20 rfl fs_X1_18 (xup_self _ _ _) (xle rfl) rfl rfl ?_
  refine x_vret F dX1_init_23 (xle rfl) (xle rfl) ?_
  have hh := hQ ad2 (fun u h1 h2 => (E2 u h2).trans (E1 u h1))
  rw [xup_xup, xup_comm _ _ _ ht2, xup_xup]
  exact hh
def s_chkAdd : xSp := fun ad h av Q => ∃ (t b1 b2 : Tg) (n : Nat) (f g : Nat → Int32) (x y : Int32), av = [.ref (ad t), .int x, .int y] ∧ h t = some (cChk (ad b1) (ad b2) (nI n)) ∧ h b1 = some (cI 4 f) ∧ h b2 = some (cI 4 g) ∧ b1 ≠ b2 ∧ t ≠ b1 ∧ t ≠ b2 ∧ n ≤ 4 ∧
  (n = 4 → Q (some (.int (-4))) ad h) ∧ (n < 4 → Q (some (.int (nI (n + 1)))) ad (xup (xup (xup h b1 (cI 4 (upd f n x))) b2 (cI 4 (upd g n y))) t (cChk (ad b1) (ad b2) (nI (n + 1)))))
set_option maxRecDepth 100000 in
theorem c_X1_add : Ct yX1_add cX1_add 3 (some .int) (xrm 0 0 0) s_chkAdd := by
  refine Ct.of (by decide) ?_
  intro p l e s m args below meth c G ad h av Q F hsp
  obtain ⟨t, b1, b2, n, f, g, x, y, rfl, e1, e2, e3, h12, ht1, ht2, hn, hQ4, hQ⟩ := hsp
  refine ⟨x_ent rfl rfl, ?_⟩
  refine x_ls [(0, .ref (ad t)), (1, .int x), (2, .int y)] rfl ?_
  refine x_aload_n (q := 1) F dX1_add_0 rfl rfl (by first | exact xref_r | exact xref_n | exact xref_f _ | assumption) ?_
  refine x_get (q := 4) F dX1_add_1 rfl fs_X1_18 e1 rfl ?_
  refine x_iconst (q := 5) (v := 4) F dX1_add_4 rfl (by decide) ?_
  refine x_icmp_lt (q := 8) F 11 dX1_add_5 (by decide) rfl (fun c5 => ?_) (fun c5 => ?_)
  · have hlt : n < 4 := (nI_ltI (b := 4) (by omega) (by omega)).mp c5
    refine x_aload_n (q := 12) F dX1_add_11 rfl rfl (by first | exact xref_r | exact xref_n | exact xref_f _ | assumption) ?_
    refine x_get (q := 15) F dX1_add_12 rfl fs_X1_9 e1 rfl ?_
    refine x_aload_n (q := 16) F dX1_add_15 rfl rfl (by first | exact xref_r | exact xref_n | exact xref_f _ | assumption) ?_
    refine x_get (q := 19) F dX1_add_16 rfl fs_X1_18 e1 rfl ?_
    refine x_iload_n (q := 20) F dX1_add_19 rfl rfl ?_
    refine x_iast (q := 21) F dX1_add_20 rfl e2 rfl (by omega) (by omega) ?_
    refine x_aload_n (q := 22) F dX1_add_21 rfl rfl (by first | exact xref_r | exact xref_n | exact xref_f _ | assumption) ?_
    refine x_get (q := 25) F dX1_add_22 rfl fs_X1_15 (by rw [xup_ne _ _ ht1]; exact e1) rfl ?_
    refine x_aload_n (q := 26) F dX1_add_25 rfl rfl (by first | exact xref_r | exact xref_n | exact xref_f _ | assumption) ?_
    refine x_get (q := 29) F dX1_add_26 rfl fs_X1_18 (by rw [xup_ne _ _ ht1]; exact e1) rfl ?_
    refine x_iload_n (q := 30) F dX1_add_29 rfl rfl ?_
    refine x_iast (q := 31) F dX1_add_30 rfl (by rw [xup_ne _ _ h12.symm]; exact e3) rfl (by omega) (by omega) ?_
    refine x_aload_n (q := 32) F dX1_add_31 rfl rfl (by first | exact xref_r | exact xref_n | exact xref_f _ | assumption) ?_
    refine x_dup (q := 33) F dX1_add_32 rfl rfl ?_
    refine x_get (q := 36) F dX1_add_33 rfl fs_X1_18 (by rw [xup_ne _ _ ht2, xup_ne _ _ ht1]; exact e1) rfl ?_
    refine x_iconst (q := 37) (v := 1) F dX1_add_36 rfl (by decide) ?_
    refine x_iadd (q := 38) F dX1_add_37 rfl ?_
    refine x_topi (nI_1 n) ?_
    refine x_put (q := 41) F dX1_add_38 rfl fs_X1_18 (by rw [xup_ne _ _ ht2, xup_ne _ _ ht1]; exact e1) (xle rfl) rfl rfl ?_
    refine x_aload_n (q := 42) F dX1_add_41 rfl rfl (by first | exact xref_r | exact xref_n | exact xref_f _ | assumption) ?_
    refine x_get (q := 45) F dX1_add_42 rfl fs_X1_18 (xup_self _ _ _) rfl ?_
    refine x_iret F dX1_add_45 (xle rfl) (xle rfl) ?_
    exact hQ hlt
  · have hge : n = 4 := by
      rcases Nat.lt_or_ge n 4 with q | q
      · exact absurd ((nI_ltI (b := 4) (by omega) (by omega)).mpr q) c5
      · omega
    refine x_bipush (q := 10) (v := -4) F dX1_add_8 rfl (by decide) ?_
    refine x_iret F dX1_add_10 (xle rfl) (xle rfl) ?_
    exact hQ4 hge
/-- does a check hold of a row -/
def holdV (kind value : Int32) (n : Nat) (f : Nat → Int32) : Bool := if kind = 0 then decide (value ≤ nI n) else if kind = 1 then decide (nI n ≤ value) else if kind = 2 then decide (rowAt n f 0 = value) else decide (rsum f n &&& 255 = value)
def bI (b : Bool) : Int32 := if b then 1 else 0
theorem bI_or (b : Bool) : bI b = 0 ∨ bI b = 1 := by cases b <;> decide
def s_holds : xSp := fun ad h av Q => ∃ (t b : Tg) (n N : Nat) (f : Nat → Int32) (x y : Int32), av = [.int x, .int y, .ref (ad t)] ∧ h t = some (cRow (ad b) (nI n)) ∧ h b = some (cI N f) ∧ n ≤ N ∧ N ≤ 1000 ∧ 0 ≤ x ∧ x ≤ 3 ∧ Q (some (.int (bI (holdV x y n f)))) ad h
set_option maxRecDepth 100000 in
theorem c_X1_holds : Ct yX1_holds cX1_holds 3 (some .boolean) (xrm 2 0 0) s_holds := by
  refine Ct.of (by decide) ?_
  intro p l e s m args below meth c G ad h av Q F hsp
  obtain ⟨t, b, n, N, f, x, y, rfl, e1, e2, hn, hN, hx0, hx3, hQ⟩ := hsp
  refine ⟨x_ent rfl rfl, ?_⟩
  refine x_ls [(0, .int x), (1, .int y), (2, .ref (ad t))] rfl ?_
  obtain ⟨j, hj, rfl⟩ := nI_of2 (x := x) (M := 3) (n := 3) rfl (by rw [Int32.not_lt]; exact hx0) hx3
  refine x_iload_n (q := 1) F dX1_holds_0 rfl rfl ?_
  rcases (show j = 0 ∨ j = 1 ∨ j = 2 ∨ j = 3 by omega) with rfl | rfl | rfl | rfl
  · refine x_tableIn F 28 dX1_holds_1 (by decide) (by decide) (off := 27) rfl (by decide) ?_
    refine x_aload_n (q := 29) F dX1_holds_28 rfl rfl (by first | exact xref_r | exact xref_n | exact xref_f _ | assumption) ?_
    refine x_getN (q := 32) F dX1_holds_29 rfl fn_X1_26 e1 rfl ?_
    refine x_iload_n (q := 33) F dX1_holds_32 rfl rfl ?_
    refine x_icmp_lt (q := 36) F 40 dX1_holds_33 (by decide) rfl (fun c33 => ?_) (fun c33 => ?_)
    · refine x_iconst (q := 41) (v := 0) F dX1_holds_40 rfl (by decide) ?_
      refine x_zret F dX1_holds_41 (xle rfl) (xle rfl) (by first | exact Or.inl rfl | exact Or.inr rfl) ?_
      have : holdV (nI 0) y n f = false := by unfold holdV; rw [if_pos (by decide)]; simpa using c33
      rw [this] at hQ
      exact hQ
    · refine x_iconst (q := 37) (v := 1) F dX1_holds_36 rfl (by decide) ?_
      refine x_goto F 41 dX1_holds_37 (by decide) ?_
      refine x_zret F dX1_holds_41 (xle rfl) (xle rfl) (by first | exact Or.inl rfl | exact Or.inr rfl) ?_
      have : holdV (nI 0) y n f = true := by unfold holdV; rw [if_pos (by decide)]; simpa using c33
      rw [this] at hQ
      exact hQ
  · refine x_tableIn F 42 dX1_holds_1 (by decide) (by decide) (off := 41) rfl (by decide) ?_
    refine x_aload_n (q := 43) F dX1_holds_42 rfl rfl (by first | exact xref_r | exact xref_n | exact xref_f _ | assumption) ?_
    refine x_getN (q := 46) F dX1_holds_43 rfl fn_X1_26 e1 rfl ?_
    refine x_iload_n (q := 47) F dX1_holds_46 rfl rfl ?_
    refine x_icmp_gt (q := 50) F 54 dX1_holds_47 (by decide) rfl (fun c47 => ?_) (fun c47 => ?_)
    · refine x_iconst (q := 55) (v := 0) F dX1_holds_54 rfl (by decide) ?_
      refine x_zret F dX1_holds_55 (xle rfl) (xle rfl) (by first | exact Or.inl rfl | exact Or.inr rfl) ?_
      have : holdV (nI 1) y n f = false := by unfold holdV; rw [if_neg (by decide), if_pos (by decide)]; simpa using c47
      rw [this] at hQ
      exact hQ
    · refine x_iconst (q := 51) (v := 1) F dX1_holds_50 rfl (by decide) ?_
      refine x_goto F 55 dX1_holds_51 (by decide) ?_
      refine x_zret F dX1_holds_55 (xle rfl) (xle rfl) (by first | exact Or.inl rfl | exact Or.inr rfl) ?_
      have : holdV (nI 1) y n f = true := by unfold holdV; rw [if_neg (by decide), if_pos (by decide)]; simpa using c47
      rw [this] at hQ
      exact hQ
  · refine x_tableIn F 56 dX1_holds_1 (by decide) (by decide) (off := 55) rfl (by decide) ?_
    refine x_aload_n (q := 57) F dX1_holds_56 rfl rfl (by first | exact xref_r | exact xref_n | exact xref_f _ | assumption) ?_
    refine x_iconst (q := 58) (v := 0) F dX1_holds_57 rfl (by decide) ?_
    refine x_callV1 (q := 61) F t c_X0_byteAt dX1_holds_58 rfl mv_X0_byteAt ml_X1_31 ⟨⟨xle rfl, xle rfl⟩, xle rfl, xle rfl⟩ rfl e1 (xle rfl) ?_
    refine ⟨t, b, n, N, f, _, rfl, e1, e2, hn, hN, fun _ => ?_⟩
    refine x_iload_n (q := 62) F dX1_holds_61 rfl rfl ?_
    refine x_icmp_ne (q := 65) F 69 dX1_holds_62 (by decide) rfl (fun c62 => ?_) (fun c62 => ?_)
    · refine x_iconst (q := 70) (v := 0) F dX1_holds_69 rfl (by decide) ?_
      refine x_zret F dX1_holds_70 (xle rfl) (xle rfl) (by first | exact Or.inl rfl | exact Or.inr rfl) ?_
      have : holdV (nI 2) y n f = false := by unfold holdV; rw [if_neg (by decide), if_neg (by decide), if_pos (by decide)]; simpa using c62
      rw [this] at hQ
      exact hQ
    · refine x_iconst (q := 66) (v := 1) F dX1_holds_65 rfl (by decide) ?_
      refine x_goto F 70 dX1_holds_66 (by decide) ?_
      refine x_zret F dX1_holds_70 (xle rfl) (xle rfl) (by first | exact Or.inl rfl | exact Or.inr rfl) ?_
      have : holdV (nI 2) y n f = true := by unfold holdV; rw [if_neg (by decide), if_neg (by decide), if_pos (by decide)]; simpa using c62
      rw [this] at hQ
      exact hQ
  · refine x_tableOut F 71 dX1_holds_1 (by decide) (by decide) ?_
    refine x_aload_n (q := 72) F dX1_holds_71 rfl rfl (by first | exact xref_r | exact xref_n | exact xref_f _ | assumption) ?_
    refine x_callV0 (q := 75) F t c_X0_sum dX1_holds_72 rfl mv_X0_sum ml_X1_35 ⟨⟨xle rfl, xle rfl⟩, xle rfl, xle rfl⟩ rfl e1 (xle rfl) ?_
    refine ⟨t, b, n, N, f, rfl, e1, e2, hn, hN, fun _ => ?_⟩
    refine x_iload_n (q := 76) F dX1_holds_75 rfl rfl ?_
    refine x_icmp_ne (q := 79) F 83 dX1_holds_76 (by decide) rfl (fun c76 => ?_) (fun c76 => ?_)
    · refine x_iconst (q := 84) (v := 0) F dX1_holds_83 rfl (by decide) ?_
      refine x_zret F dX1_holds_84 (xle rfl) (xle rfl) (by first | exact Or.inl rfl | exact Or.inr rfl) ?_
      have : holdV (nI 3) y n f = false := by unfold holdV; rw [if_neg (by decide), if_neg (by decide), if_neg (by decide)]; simpa using c76
      rw [this] at hQ
      exact hQ
    · refine x_iconst (q := 80) (v := 1) F dX1_holds_79 rfl (by decide) ?_
      refine x_goto F 84 dX1_holds_80 (by decide) ?_
      refine x_zret F dX1_holds_84 (xle rfl) (xle rfl) (by first | exact Or.inl rfl | exact Or.inr rfl) ?_
      have : holdV (nI 3) y n f = true := by unfold holdV; rw [if_neg (by decide), if_neg (by decide), if_neg (by decide)]; simpa using c76
      rw [this] at hQ
      exact hQ
/-- the first k checks all hold -/
def holdA (kd vl : Nat → Int32) (n : Nat) (f : Nat → Int32) : Nat → Bool
  | 0 => true
  | k + 1 => holdA kd vl n f k && holdV (kd k) (vl k) n f
theorem holdA_cut {kd vl : Nat → Int32} {n : Nat} {f : Nat → Int32} {i : Nat} (h : holdV (kd i) (vl i) n f = false) : ∀ k, i < k → holdA kd vl n f k = false := by
  intro k
  induction k with
  | zero => intro q; omega
  | succ k ih =>
    intro q
    show (holdA kd vl n f k && holdV (kd k) (vl k) n f) = false
    by_cases z : i = k
    · subst z; rw [h, Bool.and_false]
    · rw [ih (by omega), Bool.false_and]
def s_hold : xSp := fun ad h av Q => ∃ (t b1 b2 t2 b : Tg) (cn : Nat) (kd vl : Nat → Int32) (n N : Nat) (f : Nat → Int32), av = [.ref (ad t), .ref (ad t2)] ∧ h t = some (cChk (ad b1) (ad b2) (nI cn)) ∧ h b1 = some (cI 4 kd) ∧ h b2 = some (cI 4 vl) ∧ cn ≤ 4 ∧ (∀ i, i < cn → 0 ≤ kd i ∧ kd i ≤ 3) ∧ h t2 = some (cRow (ad b) (nI n)) ∧ h b = some (cI N f) ∧ n ≤ N ∧ N ≤ 1000 ∧ Q (some (.int (bI (holdA kd vl n f cn)))) ad h
set_option maxRecDepth 100000 in
theorem c_X1_hold : Ct yX1_hold cX1_hold 3 (some .boolean) (xrm 3 0 0) s_hold := by
  refine Ct.of (by decide) ?_
  intro p l e s m args below meth c G ad h av Q F hsp
  obtain ⟨t, b1, b2, t2, b, cn, kd, vl, n, N, f, rfl, e1, e2, e3, hcn, hkd, e4, e5, hn, hN, hQ⟩ := hsp
  refine ⟨x_ent rfl rfl, ?_⟩
  have loop : ∀ i : Nat, i ≤ cn → holdA kd vl n f i = true → xX p l e (xrm 3 0 0) s m args below meth c G ad h 3 (xZ below G ad h Q args s (xrm 3 0 0)) 2 [(0, .ref (ad t)), (1, .ref (ad t2)), (2, .int (nI i))] [] ad h 0 0 := by
    intro i
    induction hd : cn - i using Nat.strongRecOn generalizing i with
    | ind d ih =>
      intro hi hall
      refine x_iload_n (q := 3) F dX1_hold_2 rfl rfl ?_
      refine x_aload_n (q := 4) F dX1_hold_3 rfl rfl (by first | exact xref_r | exact xref_n | exact xref_f _ | assumption) ?_
      refine x_get (q := 7) F dX1_hold_4 rfl fs_X1_18 e1 rfl ?_
      refine x_icmp_ge (q := 10) F 42 dX1_hold_7 (by decide) rfl (fun c7 => ?_) (fun c7 => ?_)
      · have : i = cn := by have := (nI_leI (by omega) (by omega)).mp c7; omega
        subst this
        refine x_iconst (q := 43) (v := 1) F dX1_hold_42 rfl (by decide) ?_
        refine x_zret F dX1_hold_43 (xle rfl) (xle rfl) (by first | exact Or.inl rfl | exact Or.inr rfl) ?_
        rw [hall] at hQ
        exact hQ
      · have hlt : i < cn := by
          rcases Nat.lt_or_ge i cn with q | q
          · exact q
          · exact absurd ((nI_leI (by omega) (by omega)).mpr q) c7
        refine x_iload_n (q := 11) F dX1_hold_10 rfl rfl ?_
        refine x_iconst (q := 12) (v := 4) F dX1_hold_11 rfl (by decide) ?_
        refine x_icmp_ge (q := 15) F 42 dX1_hold_12 (by decide) rfl (fun c12 => ?_) (fun c12 => ?_)
        · exact absurd ((nI_leI (a := 4) (by omega) (by omega)).mp c12) (by omega)
        · refine x_aload_n (q := 16) F dX1_hold_15 rfl rfl (by first | exact xref_r | exact xref_n | exact xref_f _ | assumption) ?_
          refine x_get (q := 19) F dX1_hold_16 rfl fs_X1_9 e1 rfl ?_
          refine x_iload_n (q := 20) F dX1_hold_19 rfl rfl ?_
          refine x_iald (q := 21) F dX1_hold_20 rfl e2 rfl (by omega) (by omega) ?_
          refine x_aload_n (q := 22) F dX1_hold_21 rfl rfl (by first | exact xref_r | exact xref_n | exact xref_f _ | assumption) ?_
          refine x_get (q := 25) F dX1_hold_22 rfl fs_X1_15 e1 rfl ?_
          refine x_iload_n (q := 26) F dX1_hold_25 rfl rfl ?_
          refine x_iald (q := 27) F dX1_hold_26 rfl e3 rfl (by omega) (by omega) ?_
          refine x_aload_n (q := 28) F dX1_hold_27 rfl rfl (by first | exact xref_r | exact xref_n | exact xref_f _ | assumption) ?_
          refine x_callS3 (q := 31) F c_X1_holds dX1_hold_28 rfl ms_X1_holds ml_X1_22 ⟨⟨xle rfl, xle rfl⟩, xle rfl, xle rfl⟩ (xle rfl) ?_
          refine ⟨t2, b, n, N, f, _, _, rfl, e4, e5, hn, hN, (hkd i hlt).1, (hkd i hlt).2, fun _ => ?_⟩
          cases hv : holdV (kd i) (vl i) n f with
          | false =>
            refine x_if_ne (q := 34) F 36 dX1_hold_31 (by decide) rfl (fun c31 => ?_) (fun c31 => ?_)
            · exact absurd rfl c31
            · refine x_iconst (q := 35) (v := 0) F dX1_hold_34 rfl (by decide) ?_
              refine x_zret F dX1_hold_35 (xle rfl) (xle rfl) (by first | exact Or.inl rfl | exact Or.inr rfl) ?_
              rw [holdA_cut hv cn hlt] at hQ
              exact hQ
          | true =>
            refine x_if_ne (q := 34) F 36 dX1_hold_31 (by decide) rfl (fun c31 => ?_) (fun c31 => ?_)
            · refine x_iinc (q := 39) F dX1_hold_36 rfl rfl (nI_1 i) (by decide) ?_
              refine x_goto F 2 dX1_hold_39 (by decide) ?_
              refine x_ls [(0, .ref (ad t)), (1, .ref (ad t2)), (2, .int (nI (i + 1)))] rfl ?_
              refine ih (cn - (i + 1)) (by omega) (i + 1) rfl (by omega) ?_
              show (holdA kd vl n f i && holdV (kd i) (vl i) n f) = true
              rw [hall, hv]; rfl
            · exact absurd c31 (by decide)
  refine x_iconst (q := 1) (v := 0) F dX1_hold_0 rfl (by decide) ?_
  refine x_istore_n (q := 2) F dX1_hold_1 rfl (by decide) ?_
  refine x_ls [(0, .ref (ad t)), (1, .ref (ad t2)), (2, .int (nI 0))] rfl ?_
  exact loop 0 (Nat.zero_le _) rfl
abbrev cItem (r : Nat) (fr by_ rt bt : Int32) (gn : Bool) : xE := .inr (2, [.ref r, .int fr, .int by_, .int rt, .int bt, .int (bI gn)])
def s_itemInit : xSp := fun ad h av Q => ∃ (t r : Tg) (x y z : Int32), av = [.ref (ad t), .ref (ad r), .int x, .int y, .int z] ∧ h t = some (.inr (2, [.null, .int 0, .int 0, .int 0, .int 0, .int 0])) ∧ Q none ad (xup h t (cItem (ad r) x y z (-1) false))
set_option maxRecDepth 100000 in
theorem c_X2_init : Ct yX2_init cX2_init 5 none (xrm 1 0 0) s_itemInit := by
  refine Ct.of (by decide) ?_
  intro p l e s m args below meth c G ad h av Q F hsp
  obtain ⟨t, r, x, y, z, rfl, e1, hQ⟩ := hsp
  refine ⟨x_ent rfl rfl, ?_⟩
  refine x_ls [(0, .ref (ad t)), (1, .ref (ad r)), (2, .int x), (3, .int y), (4, .int z)] rfl ?_
  refine x_aload_n (q := 1) F dX2_init_0 rfl rfl (by first | exact xref_r | exact xref_n | exact xref_f _ | assumption) ?_
  refine x_objInit (q := 4) F dX2_init_1 rfl ml_X2_3 oi_i oi_c (xle rfl) (xle rfl) ?_
  refine x_aload_n (q := 5) F dX2_init_4 rfl rfl (by first | exact xref_r | exact xref_n | exact xref_f _ | assumption) ?_
  refine x_iconst (q := 6) (v := -1) F dX2_init_5 rfl (by decide) ?_
  refine x_put (q := 9) F dX2_init_6 rfl fs_X2_9 e1 (xle rfl) rfl rfl ?_
  refine x_h (h2 := xup h t (.inr (2, [.null, .int 0, .int 0, .int 0, .int (-1), .int 0]))) rfl ?_
  refine x_aload_n (q := 10) F dX2_init_9 rfl rfl (by first | exact xref_r | exact xref_n | exact xref_f _ | assumption) ?_
  refine x_iconst (q := 11) (v := 0) F dX2_init_10 rfl (by decide) ?_
  refine x_put (q := 14) F dX2_init_11 rfl fs_X2_15 (xup_self _ _ _) (xle rfl) rfl rfl ?_
  refine x_aload_n (q := 15) F dX2_init_14 rfl rfl (by first | exact xref_r | exact xref_n | exact xref_f _ | assumption) ?_
  refine x_aload_n (q := 16) F dX2_init_15 rfl rfl (by first | exact xref_r | exact xref_n | exact xref_f _ | assumption) ?_
  refine x_h (xup_xup _ _ _ _) ?_
  refine x_putF (q := 19) F dX2_init_16 rfl fs_X2_19 rfl rfl (xup_self _ _ _) (xle rfl) rfl rfl ?_
  refine x_h (xup_xup _ _ _ _) ?_
  refine x_aload_n (q := 20) F dX2_init_19 rfl rfl (by first | exact xref_r | exact xref_n | exact xref_f _ | assumption) ?_
  refine x_iload_n (q := 21) F dX2_init_20 rfl rfl ?_
  refine x_putF (q := 24) F dX2_init_21 rfl fs_X2_23 rfl rfl (xup_self _ _ _) (xle rfl) rfl rfl ?_
  refine x_h (xup_xup _ _ _ _) ?_
  refine x_aload_n (q := 25) F dX2_init_24 rfl rfl (by first | exact xref_r | exact xref_n | exact xref_f _ | assumption) ?_
  refine x_iload_n (q := 26) F dX2_init_25 rfl rfl ?_
  refine x_putF (q := 29) F dX2_init_26 rfl fs_X2_26 rfl rfl (xup_self _ _ _) (xle rfl) rfl rfl ?_
  refine x_h (xup_xup _ _ _ _) ?_
  refine x_aload_n (q := 30) F dX2_init_29 rfl rfl (by first | exact xref_r | exact xref_n | exact xref_f _ | assumption) ?_
  refine x_iload (q := 32) F dX2_init_30 rfl rfl ?_
  refine x_putF (q := 35) F dX2_init_32 rfl fs_X2_29 rfl rfl (xup_self _ _ _) (xle rfl) rfl rfl ?_
  refine x_h (xup_xup _ _ _ _) ?_
  refine x_vret F dX2_init_35 (xle rfl) (xle rfl) ?_
  exact hQ
