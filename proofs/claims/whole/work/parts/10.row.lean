/-! ===== ByteRow ===== -/
abbrev cRow (b : Nat) (sz : Int32) : xE := .inr (0, [.ref b, .int sz])
/-- byte x of a row of n bytes, or NONE -/
def rowAt (n : Nat) (f : Nat → Int32) (x : Int32) : Int32 := if x < 0 ∨ n ≤ x.toNatClampNeg then -1 else f x.toNatClampNeg
theorem rowAt_in {n : Nat} {f : Nat → Int32} {j : Nat} (h : j < n) (hn : n < 2 ^ 31) : rowAt n f (nI j) = f j := by
  unfold rowAt
  rw [if_neg (vp_in_nI h hn), nI_clamp (by omega)]
theorem rowAt_neg {n : Nat} {f : Nat → Int32} {x : Int32} (h : x < 0) : rowAt n f x = -1 := if_pos (Or.inl h)
theorem rowAt_ge {n : Nat} {f : Nat → Int32} {x : Int32} (hn : n < 2 ^ 31) (h : nI n ≤ x) : rowAt n f x = -1 := by
  unfold rowAt
  by_cases q : x < 0
  · rw [if_pos (Or.inl q)]
  · obtain ⟨j, hj, rfl⟩ := nI_of q
    rw [if_pos (Or.inr ?_)]
    rw [nI_clamp hj]
    exact (nI_leI hn hj).mp h
def s_init : xSp := fun ad h av Q => ∃ (t b : Tg) (z : Value) (x0 x : Int32), av = [.ref (ad t), .ref (ad b), .int x] ∧ h t = some (.inr (0, [z, .int x0])) ∧ Q none ad (xup h t (cRow (ad b) x))
set_option maxRecDepth 100000 in
theorem c_X0_init : Ct yX0_init cX0_init 3 none (xrm 1 0 0) s_init := by
  refine Ct.of (by decide) ?_
  intro p l e s m args below meth c G ad h av Q F hsp
  obtain ⟨t, b, z, x0, x, rfl, e1, hQ⟩ := hsp
  refine ⟨x_ent rfl rfl, ?_⟩
  refine x_ls [(0, .ref (ad t)), (1, .ref (ad b)), (2, .int x)] rfl ?_
  refine x_aload_n (q := 1) F dX0_init_0 rfl rfl (by first | exact xref_r | exact xref_n | exact xref_f _ | assumption) ?_
  refine x_objInit (q := 4) F dX0_init_1 rfl ml_X0_3 oi_i oi_c (xle rfl) (xle rfl) ?_
  refine x_aload_n (q := 5) F dX0_init_4 rfl rfl (by first | exact xref_r | exact xref_n | exact xref_f _ | assumption) ?_
  refine x_aload_n (q := 6) F dX0_init_5 rfl rfl (by first | exact xref_r | exact xref_n | exact xref_f _ | assumption) ?_
  refine x_putF (q := 9) F dX0_init_6 rfl fs_X0_9 rfl rfl e1 (xle rfl) rfl rfl ?_
  refine x_aload_n (q := 10) F dX0_init_9 rfl rfl (by first | exact xref_r | exact xref_n | exact xref_f _ | assumption) ?_
  refine x_iload_n (q := 11) F dX0_init_10 rfl rfl ?_
  refine x_put (q := 14) F dX0_init_11 rfl fs_X0_15 (xup_self _ _ _) (xle rfl) rfl rfl ?_
  refine x_vret F dX0_init_14 (xle rfl) (xle rfl) ?_
  rw [xup_xup]
  exact hQ
def s_add : xSp := fun ad h av Q => ∃ (t b : Tg) (n N : Nat) (f : Nat → Int32) (x : Int32), av = [.ref (ad t), .int x] ∧ h t = some (cRow (ad b) (nI n)) ∧ h b = some (cI N f) ∧ t ≠ b ∧ N ≤ 1000 ∧ n ≤ N ∧ (n = N → Q (some (.int 0)) ad h) ∧ (n < N → Q (some (.int 1)) ad (xup (xup h b (cI N (upd f n x))) t (cRow (ad b) (nI (n + 1)))))
set_option maxRecDepth 100000 in
theorem c_X0_add : Ct yX0_add cX0_add 2 (some .boolean) (xrm 0 0 0) s_add := by
  refine Ct.of (by decide) ?_
  intro p l e s m args below meth c G ad h av Q F hsp
  obtain ⟨t, b, n, N, f, x, rfl, e1, e2, htb, hN, hn, hQ0, hQ1⟩ := hsp
  refine ⟨x_ent rfl rfl, ?_⟩
  refine x_ls [(0, .ref (ad t)), (1, .int x)] rfl ?_
  refine x_aload_n (q := 1) F dX0_add_0 rfl rfl (by first | exact xref_r | exact xref_n | exact xref_f _ | assumption) ?_
  refine x_get (q := 4) F dX0_add_1 rfl fs_X0_15 e1 rfl ?_
  refine x_if_lt (q := 7) F 19 dX0_add_4 (by decide) rfl (fun c4 => ?_) (fun c4 => ?_)
  · exact absurd c4 (nI_pos (by omega))
  · refine x_aload_n (q := 8) F dX0_add_7 rfl rfl (by first | exact xref_r | exact xref_n | exact xref_f _ | assumption) ?_
    refine x_get (q := 11) F dX0_add_8 rfl fs_X0_15 e1 rfl ?_
    refine x_aload_n (q := 12) F dX0_add_11 rfl rfl (by first | exact xref_r | exact xref_n | exact xref_f _ | assumption) ?_
    refine x_get (q := 15) F dX0_add_12 rfl fs_X0_9 e1 rfl ?_
    refine x_alen (q := 16) F dX0_add_15 rfl e2 (by decide) ?_
    refine x_icmp_lt (q := 19) F 21 dX0_add_16 (by decide) rfl (fun c16 => ?_) (fun c16 => ?_)
    · have hlt : n < N := (nI_ltI (by omega) (by omega)).mp c16
      refine x_aload_n (q := 22) F dX0_add_21 rfl rfl (by first | exact xref_r | exact xref_n | exact xref_f _ | assumption) ?_
      refine x_get (q := 25) F dX0_add_22 rfl fs_X0_9 e1 rfl ?_
      refine x_aload_n (q := 26) F dX0_add_25 rfl rfl (by first | exact xref_r | exact xref_n | exact xref_f _ | assumption) ?_
      refine x_get (q := 29) F dX0_add_26 rfl fs_X0_15 e1 rfl ?_
      refine x_iload_n (q := 30) F dX0_add_29 rfl rfl ?_
      refine x_iast (q := 31) F dX0_add_30 rfl e2 rfl (by omega) (by omega) ?_
      refine x_aload_n (q := 32) F dX0_add_31 rfl rfl (by first | exact xref_r | exact xref_n | exact xref_f _ | assumption) ?_
      refine x_dup (q := 33) F dX0_add_32 rfl rfl ?_
      refine x_get (q := 36) F dX0_add_33 rfl fs_X0_15 (by rw [xup_ne _ _ htb]; exact e1) rfl ?_
      refine x_iconst (q := 37) (v := 1) F dX0_add_36 rfl (by decide) ?_
      refine x_iadd (q := 38) F dX0_add_37 rfl ?_
      refine x_put (q := 41) F dX0_add_38 rfl fs_X0_15 (by rw [xup_ne _ _ htb]; exact e1) (xle rfl) rfl rfl ?_
      refine x_iconst (q := 42) (v := 1) F dX0_add_41 rfl (by decide) ?_
      refine x_zret F dX0_add_42 (xle rfl) (xle rfl) (by first | exact Or.inl rfl | exact Or.inr rfl) ?_
      have := hQ1 hlt
      rw [← nI_1 n] at this
      exact this
    · have hge : n = N := by
        rcases Nat.lt_or_ge n N with q | q
        · exact absurd ((nI_ltI (by omega) (by omega)).mpr q) c16
        · omega
      refine x_iconst (q := 20) (v := 0) F dX0_add_19 rfl (by decide) ?_
      refine x_zret F dX0_add_20 (xle rfl) (xle rfl) (by first | exact Or.inl rfl | exact Or.inr rfl) ?_
      exact hQ0 hge
def s_clear : xSp := fun ad h av Q => ∃ (t : Tg) (z : Value) (x0 : Int32), av = [.ref (ad t)] ∧ h t = some (.inr (0, [z, .int x0])) ∧ Q none ad (xup h t (.inr (0, [z, .int 0])))
set_option maxRecDepth 100000 in
theorem c_X0_clear : Ct yX0_clear cX0_clear 1 none (xrm 0 0 0) s_clear := by
  refine Ct.of (by decide) ?_
  intro p l e s m args below meth c G ad h av Q F hsp
  obtain ⟨t, z, x0, rfl, e1, hQ⟩ := hsp
  refine ⟨x_ent rfl rfl, ?_⟩
  refine x_aload_n (q := 1) F dX0_clear_0 rfl rfl (by first | exact xref_r | exact xref_n | exact xref_f _ | assumption) ?_
  refine x_iconst (q := 2) (v := 0) F dX0_clear_1 rfl (by decide) ?_
  refine x_put (q := 5) F dX0_clear_2 rfl fs_X0_15 e1 (xle rfl) rfl rfl ?_
  refine x_vret F dX0_clear_5 (xle rfl) (xle rfl) ?_
  exact hQ
def s_byteAt : xSp := fun ad h av Q => ∃ (t b : Tg) (n N : Nat) (f : Nat → Int32) (x : Int32), av = [.ref (ad t), .int x] ∧ h t = some (cRow (ad b) (nI n)) ∧ h b = some (cI N f) ∧ n ≤ N ∧ N ≤ 1000 ∧ Q (some (.int (rowAt n f x))) ad h
set_option maxRecDepth 100000 in
theorem c_X0_byteAt : Ct yX0_byteAt cX0_byteAt 2 (some .int) (xrm 0 0 0) s_byteAt := by
  refine Ct.of (by decide) ?_
  intro p l e s m args below meth c G ad h av Q F hsp
  obtain ⟨t, b, n, N, f, x, rfl, e1, e2, hn, hN, hQ⟩ := hsp
  refine ⟨x_ent rfl rfl, ?_⟩
  refine x_ls [(0, .ref (ad t)), (1, .int x)] rfl ?_
  refine x_iload_n (q := 1) F dX0_byteAt_0 rfl rfl ?_
  refine x_if_lt (q := 4) F 30 dX0_byteAt_1 (by decide) rfl (fun c1 => ?_) (fun c1 => ?_)
  · refine x_iconst (q := 31) (v := -1) F dX0_byteAt_30 rfl (by decide) ?_
    refine x_iret F dX0_byteAt_31 (xle rfl) (xle rfl) ?_
    rw [rowAt_neg c1] at hQ
    exact hQ
  · refine x_iload_n (q := 5) F dX0_byteAt_4 rfl rfl ?_
    refine x_aload_n (q := 6) F dX0_byteAt_5 rfl rfl (by first | exact xref_r | exact xref_n | exact xref_f _ | assumption) ?_
    refine x_get (q := 9) F dX0_byteAt_6 rfl fs_X0_15 e1 rfl ?_
    refine x_icmp_ge (q := 12) F 30 dX0_byteAt_9 (by decide) rfl (fun c9 => ?_) (fun c9 => ?_)
    · refine x_iconst (q := 31) (v := -1) F dX0_byteAt_30 rfl (by decide) ?_
      refine x_iret F dX0_byteAt_31 (xle rfl) (xle rfl) ?_
      rw [rowAt_ge (by omega) c9] at hQ
      exact hQ
    · obtain ⟨j, hj, rfl⟩ := nI_of c1
      have hjn : j < n := by
        rcases Nat.lt_or_ge j n with q | q
        · exact q
        · exact absurd ((nI_leI (by omega) hj).mpr q) c9
      refine x_iload_n (q := 13) F dX0_byteAt_12 rfl rfl ?_
      refine x_aload_n (q := 14) F dX0_byteAt_13 rfl rfl (by first | exact xref_r | exact xref_n | exact xref_f _ | assumption) ?_
      refine x_get (q := 17) F dX0_byteAt_14 rfl fs_X0_9 e1 rfl ?_
      refine x_alen (q := 18) F dX0_byteAt_17 rfl e2 (by decide) ?_
      refine x_icmp_ge (q := 21) F 30 dX0_byteAt_18 (by decide) rfl (fun c18 => ?_) (fun c18 => ?_)
      · exact absurd ((nI_leI (by omega) hj).mp c18) (by show ¬ N ≤ j; omega)
      · refine x_aload_n (q := 22) F dX0_byteAt_21 rfl rfl (by first | exact xref_r | exact xref_n | exact xref_f _ | assumption) ?_
        refine x_get (q := 25) F dX0_byteAt_22 rfl fs_X0_9 e1 rfl ?_
        refine x_iload_n (q := 26) F dX0_byteAt_25 rfl rfl ?_
        refine x_iald (q := 27) F dX0_byteAt_26 rfl e2 rfl (by omega) (by omega) ?_
        refine x_goto F 31 dX0_byteAt_27 (by decide) ?_
        refine x_iret F dX0_byteAt_31 (xle rfl) (xle rfl) ?_
        rw [rowAt_in hjn (by omega)] at hQ
        exact hQ
def rsum (f : Nat → Int32) : Nat → Int32
  | 0 => 0
  | n + 1 => rsum f n + f n
def s_sum : xSp := fun ad h av Q => ∃ (t b : Tg) (n N : Nat) (f : Nat → Int32), av = [.ref (ad t)] ∧ h t = some (cRow (ad b) (nI n)) ∧ h b = some (cI N f) ∧ n ≤ N ∧ N ≤ 1000 ∧ Q (some (.int (rsum f n &&& 255))) ad h
set_option maxRecDepth 100000 in
theorem c_X0_sum : Ct yX0_sum cX0_sum 3 (some .int) (xrm 1 0 0) s_sum := by
  refine Ct.of (by decide) ?_
  intro p l e s m args below meth c G ad h av Q F hsp
  obtain ⟨t, b, n, N, f, rfl, e1, e2, hn, hN, hQ⟩ := hsp
  refine ⟨x_ent rfl rfl, ?_⟩
  have loop : ∀ i : Nat, i ≤ n → xX p l e (xrm 1 0 0) s m args below meth c G ad h 3 (xZ below G ad h Q args s (xrm 1 0 0)) 4 [(0, .ref (ad t)), (1, .int (rsum f i)), (2, .int (nI i))] [] ad h 0 0 := by
    intro i
    induction hd : n - i using Nat.strongRecOn generalizing i with
    | ind d ih =>
      intro hi
      refine x_iload_n (q := 5) F dX0_sum_4 rfl rfl ?_
      refine x_aload_n (q := 6) F dX0_sum_5 rfl rfl (by first | exact xref_r | exact xref_n | exact xref_f _ | assumption) ?_
      refine x_get (q := 9) F dX0_sum_6 rfl fs_X0_15 e1 rfl ?_
      refine x_icmp_ge (q := 12) F 26 dX0_sum_9 (by decide) rfl (fun c9 => ?_) (fun c9 => ?_)
      · have : i = n := by have := (nI_leI (by omega) (by omega)).mp c9; omega
        subst this
        refine x_iload_n (q := 27) F dX0_sum_26 rfl rfl ?_
        refine x_sipush (q := 30) (v := 255) F dX0_sum_27 rfl (by decide) ?_
        refine x_iand (q := 31) F dX0_sum_30 rfl ?_
        refine x_iret F dX0_sum_31 (xle rfl) (xle rfl) ?_
        exact hQ
      · have hlt : i < n := by
          rcases Nat.lt_or_ge i n with q | q
          · exact q
          · exact absurd ((nI_leI (by omega) (by omega)).mpr q) c9
        refine x_iload_n (q := 13) F dX0_sum_12 rfl rfl ?_
        refine x_aload_n (q := 14) F dX0_sum_13 rfl rfl (by first | exact xref_r | exact xref_n | exact xref_f _ | assumption) ?_
        refine x_iload_n (q := 15) F dX0_sum_14 rfl rfl ?_
        refine x_callV1 (q := 18) F t c_X0_byteAt dX0_sum_15 rfl mv_X0_byteAt ml_X0_19 ⟨⟨xle rfl, xle rfl⟩, xle rfl, xle rfl⟩ rfl e1 (xle rfl) ?_
        refine ⟨t, b, n, N, f, _, rfl, e1, e2, hn, hN, fun _ => ?_⟩
        rw [rowAt_in hlt (by omega)]
        refine x_iadd (q := 19) F dX0_sum_18 rfl ?_
        refine x_istore_n (q := 20) F dX0_sum_19 rfl (by decide) ?_
        refine x_iinc (q := 23) F dX0_sum_20 rfl rfl (nI_1 i) (by decide) ?_
        refine x_goto F 4 dX0_sum_23 (by decide) ?_
        refine x_ls [(0, .ref (ad t)), (1, .int (rsum f (i + 1))), (2, .int (nI (i + 1)))] rfl ?_
        exact ih (n - (i + 1)) (by omega) (i + 1) rfl (by omega)
  refine x_iconst (q := 1) (v := 0) F dX0_sum_0 rfl (by decide) ?_
  refine x_istore_n (q := 2) F dX0_sum_1 rfl (by decide) ?_
  refine x_iconst (q := 3) (v := 0) F dX0_sum_2 rfl (by decide) ?_
  refine x_istore_n (q := 4) F dX0_sum_3 rfl (by decide) ?_
  refine x_ls [(0, .ref (ad t)), (1, .int (rsum f 0)), (2, .int (nI 0))] rfl ?_
  exact loop 0 (Nat.zero_le _)
