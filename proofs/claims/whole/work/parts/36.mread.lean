/-! ===== the reference: reading a text ===== -/
theorem upd_upd (S : Nat → Int32) (j : Nat) (a b : Int32) : upd (upd S j a) j b = upd S j b := by
  funext i
  unfold upd
  by_cases z : i = j
  · rw [if_pos z, if_pos z]
  · rw [if_neg z, if_neg z, if_neg z]
def inB (x lo hi : Int32) : Bool := decide (lo ≤ x) && decide (x ≤ hi)
set_option maxRecDepth 100000 in
theorem c_X7_in : Ct yX7_in cX7_in 3 (some .boolean) (xrm 0 0 0) (fun ad h av Q => ∃ x lo hi, av = [.int x, .int lo, .int hi] ∧ Q (some (.int (bI (inB x lo hi)))) ad h) := by
  refine Ct.of (by decide) ?_
  intro p l e s m args below meth c0 G ad h av Q F hsp
  obtain ⟨x, lo, hi, rfl, hQ⟩ := hsp
  refine ⟨x_ent rfl rfl, ?_⟩
  refine x_ls [(0, .int x), (1, .int lo), (2, .int hi)] rfl ?_
  unfold inB at hQ
  refine x_iload_n (q := 1) F dX7_in_0 rfl rfl ?_
  refine x_iload_n (q := 2) F dX7_in_1 rfl rfl ?_
  refine x_icmp_lt (q := 5) F 14 dX7_in_2 (by decide) rfl (fun c2 => ?_) (fun c2 => ?_)
  · refine x_iconst (q := 15) (v := 0) F dX7_in_14 rfl (by decide) ?_
    refine x_zret F dX7_in_15 (xle rfl) (xle rfl) (by first | exact Or.inl rfl | exact Or.inr rfl) ?_
    rw [decide_eq_false (show ¬ lo ≤ x from fun z => absurd c2 (Int32.not_lt.mpr z))] at hQ
    exact hQ
  · rw [decide_eq_true (show lo ≤ x from Int32.not_lt.mp c2)] at hQ
    refine x_iload_n (q := 6) F dX7_in_5 rfl rfl ?_
    refine x_iload_n (q := 7) F dX7_in_6 rfl rfl ?_
    refine x_icmp_gt (q := 10) F 14 dX7_in_7 (by decide) rfl (fun c7 => ?_) (fun c7 => ?_)
    · refine x_iconst (q := 15) (v := 0) F dX7_in_14 rfl (by decide) ?_
      refine x_zret F dX7_in_15 (xle rfl) (xle rfl) (by first | exact Or.inl rfl | exact Or.inr rfl) ?_
      rw [decide_eq_false (show ¬ x ≤ hi from fun z => absurd c7 (Int32.not_lt.mpr z))] at hQ
      exact hQ
    · refine x_iconst (q := 11) (v := 1) F dX7_in_10 rfl (by decide) ?_
      refine x_goto F 15 dX7_in_11 (by decide) ?_
      refine x_zret F dX7_in_15 (xle rfl) (xle rfl) (by first | exact Or.inl rfl | exact Or.inr rfl) ?_
      rw [decide_eq_true (show x ≤ hi from Int32.not_lt.mp c7)] at hQ
      exact hQ
theorem inB_ix {n : Nat} (hn : n < 2 ^ 30) (x : Int32) : inB x 0 (nI n - 1) = (ixN n x).isSome := by
  unfold inB
  have h0 : (0 : Int32).toInt = 0 := rfl
  have hm : (nI n - 1).toInt = (n : Int) - 1 := pk_sub_toInt (a := n) (b := 1) hn (by omega)
  rcases pk_ix x (n := n) (by omega) with z | z | ⟨j, hj, rfl⟩
  · rw [ixN_neg z, decide_eq_false (fun w => absurd z (Int32.not_lt.mpr w))]
    rfl
  · rw [ixN_ge (by omega) z, decide_eq_false (p := x ≤ nI n - 1) (fun w => ?_)]
    · simp
    · have a := Int32.le_iff_toInt_le.mp z
      have b := Int32.le_iff_toInt_le.mp w
      rw [nI_toInt (by omega)] at a
      omega
  · rw [ixN_nI hj (by omega), decide_eq_true (show (0 : Int32) ≤ nI j from Int32.le_iff_toInt_le.mpr (by rw [nI_toInt (by omega)]; omega)), decide_eq_true (show nI j ≤ nI n - 1 from Int32.le_iff_toInt_le.mpr (by rw [nI_toInt (by omega), hm]; omega))]
    rfl
set_option maxRecDepth 100000 in
theorem c_X7_thrown : Ct yX7_thrown cX7_thrown 1 (some .int) (xrm 0 0 0) (fun ad h av Q => ∃ g S ct V, h = wM g ad S ct V ∧ av = [.ref (ad (50, 0))] ∧ Q (some (.int (S 0))) ad h) := by
  refine Ct.of (by decide) ?_
  intro p l e s m args below meth c0 G ad h av Q F hsp
  obtain ⟨g, S, ct, V, rfl, rfl, hQ⟩ := hsp
  refine ⟨x_ent rfl rfl, ?_⟩
  refine x_aload_n (q := 1) F dX7_thrown_0 rfl rfl (by first | exact xref_r | exact xref_n | exact xref_f _ | assumption) ?_
  refine x_mget (q := 4) F dX7_thrown_1 rfl fs_X7_79 rfl ?_
  refine x_iret F dX7_thrown_4 (xle rfl) (xle rfl) ?_
  exact hQ

set_option maxRecDepth 100000 in
theorem c_X7_isScript : Ct yX7_isScript cX7_isScript 2 (some .boolean) (xrm 1 0 0) (fun ad h av Q => ∃ g S ct V n x, h = wM g ad S ct V ∧ av = [.ref (ad (50, 0)), .int x] ∧ S 7 = nI n ∧ n ≤ 1000 ∧ Q (some (.int (bI (ixN n x).isSome))) ad h) := by
  refine Ct.of (by decide) ?_
  intro p l e s m args below meth c0 G ad h av Q F hsp
  obtain ⟨g, S, ct, V, n, x, rfl, rfl, e7, hn, hQ⟩ := hsp
  refine ⟨x_ent rfl rfl, ?_⟩
  refine x_ls [(0, .ref (ad (50, 0))), (1, .int x)] rfl ?_
  refine x_iload_n (q := 1) F dX7_isScript_0 rfl rfl ?_
  refine x_iconst (q := 2) (v := 0) F dX7_isScript_1 rfl (by decide) ?_
  refine x_aload_n (q := 3) F dX7_isScript_2 rfl rfl (by first | exact xref_r | exact xref_n | exact xref_f _ | assumption) ?_
  refine x_mget (q := 6) F dX7_isScript_3 rfl fs_X7_82 rfl ?_
  refine x_topi e7 ?_
  refine x_iconst (q := 7) (v := 1) F dX7_isScript_6 rfl (by decide) ?_
  refine x_isub (q := 8) F dX7_isScript_7 rfl ?_
  refine x_callS3 (q := 11) F c_X7_in dX7_isScript_8 rfl ms_X7_in ml_X7_85 ⟨⟨xle rfl, xle rfl⟩, xle rfl, xle rfl⟩ (xle rfl) ?_
  refine ⟨x, 0, nI n - 1, rfl, fun _ => ?_⟩
  rw [inB_ix (by omega)]
  refine x_zret F dX7_isScript_11 (xle rfl) (xle rfl) (bI_or _) ?_
  exact hQ

set_option maxRecDepth 100000 in
theorem c_X7_isItem : Ct yX7_isItem cX7_isItem 2 (some .boolean) (xrm 1 0 0) (fun ad h av Q => ∃ g S ct V n x, h = wM g ad S ct V ∧ av = [.ref (ad (50, 0)), .int x] ∧ S 17 = nI n ∧ n ≤ 1000 ∧ Q (some (.int (bI (ixN n x).isSome))) ad h) := by
  refine Ct.of (by decide) ?_
  intro p l e s m args below meth c0 G ad h av Q F hsp
  obtain ⟨g, S, ct, V, n, x, rfl, rfl, e7, hn, hQ⟩ := hsp
  refine ⟨x_ent rfl rfl, ?_⟩
  refine x_ls [(0, .ref (ad (50, 0))), (1, .int x)] rfl ?_
  refine x_iload_n (q := 1) F dX7_isItem_0 rfl rfl ?_
  refine x_iconst (q := 2) (v := 0) F dX7_isItem_1 rfl (by decide) ?_
  refine x_aload_n (q := 3) F dX7_isItem_2 rfl rfl (by first | exact xref_r | exact xref_n | exact xref_f _ | assumption) ?_
  refine x_mget (q := 6) F dX7_isItem_3 rfl fs_X7_89 rfl ?_
  refine x_topi e7 ?_
  refine x_iconst (q := 7) (v := 1) F dX7_isItem_6 rfl (by decide) ?_
  refine x_isub (q := 8) F dX7_isItem_7 rfl ?_
  refine x_callS3 (q := 11) F c_X7_in dX7_isItem_8 rfl ms_X7_in ml_X7_85 ⟨⟨xle rfl, xle rfl⟩, xle rfl, xle rfl⟩ (xle rfl) ?_
  refine ⟨x, 0, nI n - 1, rfl, fun _ => ?_⟩
  rw [inB_ix (by omega)]
  refine x_zret F dX7_isItem_11 (xle rfl) (xle rfl) (bI_or _) ?_
  exact hQ

set_option maxRecDepth 100000 in
theorem c_X7_place : Ct yX7_place cX7_place 1 (some .int) (xrm 0 0 0) (fun ad h av Q => ∃ g S ct V, h = wM g ad S ct V ∧ av = [.ref (ad (50, 0))] ∧ Q (some (.int (S 6))) ad (wM g ad (upd S 0 0) ct V)) := by
  refine Ct.of (by decide) ?_
  intro p l e s m args below meth c0 G ad h av Q F hsp
  obtain ⟨g, S, ct, V, rfl, rfl, hQ⟩ := hsp
  refine ⟨x_ent rfl rfl, ?_⟩
  refine x_ls [(0, .ref (ad (50, 0)))] rfl ?_
  refine x_aload_n (q := 1) F dX7_place_0 rfl rfl (by first | exact xref_r | exact xref_n | exact xref_f _ | assumption) ?_
  refine x_iconst (q := 2) (v := 0) F dX7_place_1 rfl (by decide) ?_
  refine x_mput (q := 5) F dX7_place_2 rfl fs_X7_79 (by decide) rfl rfl rfl ?_
  refine x_aload_n (q := 6) F dX7_place_5 rfl rfl (by first | exact xref_r | exact xref_n | exact xref_f _ | assumption) ?_
  refine x_mget (q := 9) F dX7_place_6 rfl fs_X7_13 rfl ?_
  refine x_iret F dX7_place_9 (xle rfl) (xle rfl) ?_
  exact hQ

set_option maxRecDepth 100000 in
theorem c_X7_what : Ct yX7_what cX7_what 1 (some .int) (xrm 0 0 0) (fun ad h av Q => ∃ g S ct V, h = wM g ad S ct V ∧ av = [.ref (ad (50, 0))] ∧ Q (some (.int (S 26))) ad (wM g ad (upd S 0 0) ct V)) := by
  refine Ct.of (by decide) ?_
  intro p l e s m args below meth c0 G ad h av Q F hsp
  obtain ⟨g, S, ct, V, rfl, rfl, hQ⟩ := hsp
  refine ⟨x_ent rfl rfl, ?_⟩
  refine x_ls [(0, .ref (ad (50, 0)))] rfl ?_
  refine x_aload_n (q := 1) F dX7_what_0 rfl rfl (by first | exact xref_r | exact xref_n | exact xref_f _ | assumption) ?_
  refine x_iconst (q := 2) (v := 0) F dX7_what_1 rfl (by decide) ?_
  refine x_mput (q := 5) F dX7_what_2 rfl fs_X7_79 (by decide) rfl rfl rfl ?_
  refine x_aload_n (q := 6) F dX7_what_5 rfl rfl (by first | exact xref_r | exact xref_n | exact xref_f _ | assumption) ?_
  refine x_mget (q := 9) F dX7_what_6 rfl fs_X7_155 rfl ?_
  refine x_iret F dX7_what_9 (xle rfl) (xle rfl) ?_
  exact hQ

set_option maxRecDepth 100000 in
theorem c_X7_failed : Ct yX7_failed cX7_failed 1 (some .int) (xrm 0 0 0) (fun ad h av Q => ∃ g S ct V, h = wM g ad S ct V ∧ av = [.ref (ad (50, 0))] ∧ Q (some (.int (S 27))) ad (wM g ad (upd S 0 0) ct V)) := by
  refine Ct.of (by decide) ?_
  intro p l e s m args below meth c0 G ad h av Q F hsp
  obtain ⟨g, S, ct, V, rfl, rfl, hQ⟩ := hsp
  refine ⟨x_ent rfl rfl, ?_⟩
  refine x_ls [(0, .ref (ad (50, 0)))] rfl ?_
  refine x_aload_n (q := 1) F dX7_failed_0 rfl rfl (by first | exact xref_r | exact xref_n | exact xref_f _ | assumption) ?_
  refine x_iconst (q := 2) (v := 0) F dX7_failed_1 rfl (by decide) ?_
  refine x_mput (q := 5) F dX7_failed_2 rfl fs_X7_79 (by decide) rfl rfl rfl ?_
  refine x_aload_n (q := 6) F dX7_failed_5 rfl rfl (by first | exact xref_r | exact xref_n | exact xref_f _ | assumption) ?_
  refine x_mget (q := 9) F dX7_failed_6 rfl fs_X7_64 rfl ?_
  refine x_iret F dX7_failed_9 (xle rfl) (xle rfl) ?_
  exact hQ

set_option maxRecDepth 100000 in
theorem c_X7_counted : Ct yX7_counted cX7_counted 1 (some .long) (xrm 0 0 0) (fun ad h av Q => ∃ g S ct V, h = wM g ad S ct V ∧ av = [.ref (ad (50, 0))] ∧ Q (some (.long ct)) ad (wM g ad (upd S 0 0) ct V)) := by
  refine Ct.of (by decide) ?_
  intro p l e s m args below meth c0 G ad h av Q F hsp
  obtain ⟨g, S, ct, V, rfl, rfl, hQ⟩ := hsp
  refine ⟨x_ent rfl rfl, ?_⟩
  refine x_ls [(0, .ref (ad (50, 0)))] rfl ?_
  refine x_aload_n (q := 1) F dX7_counted_0 rfl rfl (by first | exact xref_r | exact xref_n | exact xref_f _ | assumption) ?_
  refine x_iconst (q := 2) (v := 0) F dX7_counted_1 rfl (by decide) ?_
  refine x_mput (q := 5) F dX7_counted_2 rfl fs_X7_79 (by decide) rfl rfl rfl ?_
  refine x_aload_n (q := 6) F dX7_counted_5 rfl rfl (by first | exact xref_r | exact xref_n | exact xref_f _ | assumption) ?_
  refine x_mget (q := 9) F dX7_counted_6 rfl fs_X7_116 rfl ?_
  refine x_lret F dX7_counted_9 (xle rfl) (xle rfl) ?_
  exact hQ

set_option maxRecDepth 100000 in
theorem c_X7_sign : Ct yX7_sign cX7_sign 2 none (xrm 0 0 0) (fun ad h av Q => ∃ g S ct V n x, h = wM g ad S ct V ∧ av = [.ref (ad (50, 0)), .int x] ∧ S 3 = nI n ∧ n ≤ 200 ∧ Q none ad (if n < 200 then wM g ad (upd (upd S 0 0) 3 (nI (n + 1))) ct (upV V 51 n (vp_nar .byte x.toInt8.toInt32)) else wM g ad (upd S 0 0) ct V)) := by
  refine Ct.of (by decide) ?_
  intro p l e s m args below meth c0 G ad h av Q F hsp
  obtain ⟨g, S, ct, V, n, x, rfl, rfl, e3, hn, hQ⟩ := hsp
  refine ⟨x_ent rfl rfl, ?_⟩
  refine x_ls [(0, .ref (ad (50, 0))), (1, .int x)] rfl ?_
  refine x_aload_n (q := 1) F dX7_sign_0 rfl rfl (by first | exact xref_r | exact xref_n | exact xref_f _ | assumption) ?_
  refine x_iconst (q := 2) (v := 0) F dX7_sign_1 rfl (by decide) ?_
  refine x_mput (q := 5) F dX7_sign_2 rfl fs_X7_79 (by decide) rfl rfl rfl ?_
  refine x_aload_n (q := 6) F dX7_sign_5 rfl rfl (by first | exact xref_r | exact xref_n | exact xref_f _ | assumption) ?_
  refine x_mget (q := 9) F dX7_sign_6 rfl fs_X7_92 rfl ?_
  refine x_topi (y := nI n) e3 ?_
  refine x_sipush (q := 12) (v := 200) F dX7_sign_9 rfl (by decide) ?_
  refine x_icmp_ne (q := 15) F 16 dX7_sign_12 (by decide) rfl (fun c1 => ?_) (fun c1 => ?_)
  · have hlt : n < 200 := by
      rcases Nat.lt_or_ge n 200 with q | q
      · exact q
      · exact absurd (show nI n = 200 by rw [show n = 200 by omega]; rfl) c1
    rw [if_pos hlt] at hQ
    refine x_aload_n (q := 17) F dX7_sign_16 rfl rfl (by first | exact xref_r | exact xref_n | exact xref_f _ | assumption) ?_
    refine x_mget (q := 20) F dX7_sign_17 rfl fs_X7_7 rfl ?_
    refine x_aload_n (q := 21) F dX7_sign_20 rfl rfl (by first | exact xref_r | exact xref_n | exact xref_f _ | assumption) ?_
    refine x_mget (q := 24) F dX7_sign_21 rfl fs_X7_92 rfl ?_
    refine x_iload_n (q := 25) F dX7_sign_24 rfl rfl ?_
    refine x_i2b (q := 26) F dX7_sign_25 rfl ?_
    refine x_mbst (q := 27) F dX7_sign_26 rfl rfl (by decide) (by decide) (show _ = nI n from e3) hlt ?_
    refine x_aload_n (q := 28) F dX7_sign_27 rfl rfl (by first | exact xref_r | exact xref_n | exact xref_f _ | assumption) ?_
    refine x_dup (q := 29) F dX7_sign_28 rfl rfl ?_
    refine x_mget (q := 32) F dX7_sign_29 rfl fs_X7_92 rfl ?_
    refine x_topi (y := nI n) e3 ?_
    refine x_iconst (q := 33) (v := 1) F dX7_sign_32 rfl (by decide) ?_
    refine x_iadd (q := 34) F dX7_sign_33 rfl ?_
    refine x_topi (nI_1 n) ?_
    refine x_mput (q := 37) F dX7_sign_34 rfl fs_X7_92 (by decide) rfl rfl rfl ?_
    refine x_vret F dX7_sign_37 (xle rfl) (xle rfl) ?_
    exact hQ
  · rw [if_neg (by have := (nI_eq (a := n) (b := 200) (by omega) (by omega)).mp c1; omega)] at hQ
    refine x_vret F dX7_sign_15 (xle rfl) (xle rfl) ?_
    exact hQ

set_option maxRecDepth 100000 in
theorem c_X7_octet : Ct yX7_octet cX7_octet 2 none (xrm 0 0 0) (fun ad h av Q => ∃ g S ct V n x, h = wM g ad S ct V ∧ av = [.ref (ad (50, 0)), .int x] ∧ S 15 = nI n ∧ n ≤ 40 ∧ Q none ad (if n < 40 then wM g ad (upd (upd S 0 0) 15 (nI (n + 1))) ct (upV V 59 n (vp_nar .byte x.toInt8.toInt32)) else wM g ad (upd S 0 0) ct V)) := by
  refine Ct.of (by decide) ?_
  intro p l e s m args below meth c0 G ad h av Q F hsp
  obtain ⟨g, S, ct, V, n, x, rfl, rfl, e3, hn, hQ⟩ := hsp
  refine ⟨x_ent rfl rfl, ?_⟩
  refine x_ls [(0, .ref (ad (50, 0))), (1, .int x)] rfl ?_
  refine x_aload_n (q := 1) F dX7_octet_0 rfl rfl (by first | exact xref_r | exact xref_n | exact xref_f _ | assumption) ?_
  refine x_iconst (q := 2) (v := 0) F dX7_octet_1 rfl (by decide) ?_
  refine x_mput (q := 5) F dX7_octet_2 rfl fs_X7_79 (by decide) rfl rfl rfl ?_
  refine x_aload_n (q := 6) F dX7_octet_5 rfl rfl (by first | exact xref_r | exact xref_n | exact xref_f _ | assumption) ?_
  refine x_mget (q := 9) F dX7_octet_6 rfl fs_X7_125 rfl ?_
  refine x_topi (y := nI n) e3 ?_
  refine x_bipush (q := 11) (v := 40) F dX7_octet_9 rfl (by decide) ?_
  refine x_icmp_ne (q := 14) F 15 dX7_octet_11 (by decide) rfl (fun c1 => ?_) (fun c1 => ?_)
  · have hlt : n < 40 := by
      rcases Nat.lt_or_ge n 40 with q | q
      · exact q
      · exact absurd (show nI n = 40 by rw [show n = 40 by omega]; rfl) c1
    rw [if_pos hlt] at hQ
    refine x_aload_n (q := 16) F dX7_octet_15 rfl rfl (by first | exact xref_r | exact xref_n | exact xref_f _ | assumption) ?_
    refine x_mget (q := 19) F dX7_octet_16 rfl fs_X7_39 rfl ?_
    refine x_aload_n (q := 20) F dX7_octet_19 rfl rfl (by first | exact xref_r | exact xref_n | exact xref_f _ | assumption) ?_
    refine x_mget (q := 23) F dX7_octet_20 rfl fs_X7_125 rfl ?_
    refine x_iload_n (q := 24) F dX7_octet_23 rfl rfl ?_
    refine x_i2b (q := 25) F dX7_octet_24 rfl ?_
    refine x_mbst (q := 26) F dX7_octet_25 rfl rfl (by decide) (by decide) (show _ = nI n from e3) hlt ?_
    refine x_aload_n (q := 27) F dX7_octet_26 rfl rfl (by first | exact xref_r | exact xref_n | exact xref_f _ | assumption) ?_
    refine x_dup (q := 28) F dX7_octet_27 rfl rfl ?_
    refine x_mget (q := 31) F dX7_octet_28 rfl fs_X7_125 rfl ?_
    refine x_topi (y := nI n) e3 ?_
    refine x_iconst (q := 32) (v := 1) F dX7_octet_31 rfl (by decide) ?_
    refine x_iadd (q := 33) F dX7_octet_32 rfl ?_
    refine x_topi (nI_1 n) ?_
    refine x_mput (q := 36) F dX7_octet_33 rfl fs_X7_125 (by decide) rfl rfl rfl ?_
    refine x_vret F dX7_octet_36 (xle rfl) (xle rfl) ?_
    exact hQ
  · rw [if_neg (by have := (nI_eq (a := n) (b := 40) (by omega) (by omega)).mp c1; omega)] at hQ
    refine x_vret F dX7_octet_14 (xle rfl) (xle rfl) ?_
    exact hQ

def txM (V : MV) (ns : Nat) (sg : Nat → Nat) : Prop := ns ≤ 200 ∧ (∀ j, j < ns → sg j < 256) ∧ ∀ j, j < ns → V 51 j &&& 255 = nI (sg j)
set_option maxRecDepth 100000 in
theorem c_X7_look : Ct yX7_look cX7_look 1 (some .int) (xrm 0 0 0) (fun ad h av Q => ∃ g S ct V ns sg i, h = wM g ad S ct V ∧ av = [.ref (ad (50, 0))] ∧ S 3 = nI ns ∧ S 5 = nI i ∧ i < 10000 ∧ txM V ns sg ∧ Q (some (.int (optI (sgn ns sg i)))) ad h) := by
  refine Ct.of (by decide) ?_
  intro p l e s m args below meth c0 G ad h av Q F hsp
  obtain ⟨g, S, ct, V, ns, sg, i, rfl, rfl, e3, e5, hi, ⟨hns, hsg, hV⟩, hQ⟩ := hsp
  refine ⟨x_ent rfl rfl, ?_⟩
  refine x_ls [(0, .ref (ad (50, 0)))] rfl ?_
  unfold sgn at hQ
  refine x_aload_n (q := 1) F dX7_look_0 rfl rfl (by first | exact xref_r | exact xref_n | exact xref_f _ | assumption) ?_
  refine x_mget (q := 4) F dX7_look_1 rfl fs_X7_95 rfl ?_
  refine x_topi e5 ?_
  refine x_aload_n (q := 5) F dX7_look_4 rfl rfl (by first | exact xref_r | exact xref_n | exact xref_f _ | assumption) ?_
  refine x_mget (q := 8) F dX7_look_5 rfl fs_X7_92 rfl ?_
  refine x_topi e3 ?_
  refine x_icmp_ge (q := 11) F 27 dX7_look_8 (by decide) rfl (fun c8 => ?_) (fun c8 => ?_)
  · rw [if_neg (by have := (nI_leI (by omega) (by omega)).mp c8; omega)] at hQ
    refine x_iconst (q := 28) (v := -1) F dX7_look_27 rfl (by decide) ?_
    refine x_iret F dX7_look_28 (xle rfl) (xle rfl) ?_
    exact hQ
  · have hlt : i < ns := by
      rcases Nat.lt_or_ge i ns with q | q
      · exact q
      · exact absurd ((nI_leI (by omega) (by omega)).mpr q) c8
    rw [if_pos hlt] at hQ
    refine x_aload_n (q := 12) F dX7_look_11 rfl rfl (by first | exact xref_r | exact xref_n | exact xref_f _ | assumption) ?_
    refine x_mget (q := 15) F dX7_look_12 rfl fs_X7_7 rfl ?_
    refine x_aload_n (q := 16) F dX7_look_15 rfl rfl (by first | exact xref_r | exact xref_n | exact xref_f _ | assumption) ?_
    refine x_mget (q := 19) F dX7_look_16 rfl fs_X7_95 rfl ?_
    refine x_mbld (q := 20) F dX7_look_19 rfl rfl (by decide) (by decide) e5 (by omega) ?_
    refine x_sipush (q := 23) (v := 255) F dX7_look_20 rfl (by decide) ?_
    refine x_iand (q := 24) F dX7_look_23 rfl ?_
    refine x_topi (hV i hlt) ?_
    refine x_goto F 28 dX7_look_24 (by decide) ?_
    refine x_iret F dX7_look_28 (xle rfl) (xle rfl) ?_
    exact hQ
set_option maxRecDepth 100000 in
set_option maxHeartbeats 1000000 in
theorem c_X7_isLetter : Ct yX7_isLetter cX7_isLetter 1 (some .boolean) (xrm 0 0 0) (fun ad h av Q => ∃ o : Option Nat, av = [.int (optI o)] ∧ (∀ v, o = some v → v < 256) ∧ Q (some (.int (bI (isLet o)))) ad h) := by
  refine Ct.of (by decide) ?_
  intro p l e s m args below meth c0 G ad h av Q F hsp
  obtain ⟨o, rfl, ho, hQ⟩ := hsp
  refine ⟨x_ent rfl rfl, ?_⟩
  refine x_ls [(0, .int (optI o))] rfl ?_
  cases o with
  | none =>
    refine x_iload_n (q := 1) F dX7_isLetter_0 rfl rfl ?_
    refine x_bipush (q := 3) (v := 114) F dX7_isLetter_1 rfl (by decide) ?_
    refine x_icmp_eq (q := 6) F 84 dX7_isLetter_3 (by decide) rfl (fun c3 => ?_) (fun c3 => ?_)
    · exact absurd c3 (by decide)
    refine x_iload_n (q := 7) F dX7_isLetter_6 rfl rfl ?_
    refine x_bipush (q := 9) (v := 119) F dX7_isLetter_7 rfl (by decide) ?_
    refine x_icmp_eq (q := 12) F 84 dX7_isLetter_9 (by decide) rfl (fun c9 => ?_) (fun c9 => ?_)
    · exact absurd c9 (by decide)
    refine x_iload_n (q := 13) F dX7_isLetter_12 rfl rfl ?_
    refine x_bipush (q := 15) (v := 97) F dX7_isLetter_13 rfl (by decide) ?_
    refine x_icmp_eq (q := 18) F 84 dX7_isLetter_15 (by decide) rfl (fun c15 => ?_) (fun c15 => ?_)
    · exact absurd c15 (by decide)
    refine x_iload_n (q := 19) F dX7_isLetter_18 rfl rfl ?_
    refine x_bipush (q := 21) (v := 120) F dX7_isLetter_19 rfl (by decide) ?_
    refine x_icmp_eq (q := 24) F 84 dX7_isLetter_21 (by decide) rfl (fun c21 => ?_) (fun c21 => ?_)
    · exact absurd c21 (by decide)
    refine x_iload_n (q := 25) F dX7_isLetter_24 rfl rfl ?_
    refine x_bipush (q := 27) (v := 115) F dX7_isLetter_25 rfl (by decide) ?_
    refine x_icmp_eq (q := 30) F 84 dX7_isLetter_27 (by decide) rfl (fun c27 => ?_) (fun c27 => ?_)
    · exact absurd c27 (by decide)
    refine x_iload_n (q := 31) F dX7_isLetter_30 rfl rfl ?_
    refine x_bipush (q := 33) (v := 103) F dX7_isLetter_31 rfl (by decide) ?_
    refine x_icmp_eq (q := 36) F 84 dX7_isLetter_33 (by decide) rfl (fun c33 => ?_) (fun c33 => ?_)
    · exact absurd c33 (by decide)
    refine x_iload_n (q := 37) F dX7_isLetter_36 rfl rfl ?_
    refine x_bipush (q := 39) (v := 105) F dX7_isLetter_37 rfl (by decide) ?_
    refine x_icmp_eq (q := 42) F 84 dX7_isLetter_39 (by decide) rfl (fun c39 => ?_) (fun c39 => ?_)
    · exact absurd c39 (by decide)
    refine x_iload_n (q := 43) F dX7_isLetter_42 rfl rfl ?_
    refine x_bipush (q := 45) (v := 107) F dX7_isLetter_43 rfl (by decide) ?_
    refine x_icmp_eq (q := 48) F 84 dX7_isLetter_45 (by decide) rfl (fun c45 => ?_) (fun c45 => ?_)
    · exact absurd c45 (by decide)
    refine x_iload_n (q := 49) F dX7_isLetter_48 rfl rfl ?_
    refine x_bipush (q := 51) (v := 106) F dX7_isLetter_49 rfl (by decide) ?_
    refine x_icmp_eq (q := 54) F 84 dX7_isLetter_51 (by decide) rfl (fun c51 => ?_) (fun c51 => ?_)
    · exact absurd c51 (by decide)
    refine x_iload_n (q := 55) F dX7_isLetter_54 rfl rfl ?_
    refine x_bipush (q := 57) (v := 122) F dX7_isLetter_55 rfl (by decide) ?_
    refine x_icmp_eq (q := 60) F 84 dX7_isLetter_57 (by decide) rfl (fun c57 => ?_) (fun c57 => ?_)
    · exact absurd c57 (by decide)
    refine x_iload_n (q := 61) F dX7_isLetter_60 rfl rfl ?_
    refine x_bipush (q := 63) (v := 101) F dX7_isLetter_61 rfl (by decide) ?_
    refine x_icmp_eq (q := 66) F 84 dX7_isLetter_63 (by decide) rfl (fun c63 => ?_) (fun c63 => ?_)
    · exact absurd c63 (by decide)
    refine x_iload_n (q := 67) F dX7_isLetter_66 rfl rfl ?_
    refine x_bipush (q := 69) (v := 98) F dX7_isLetter_67 rfl (by decide) ?_
    refine x_icmp_eq (q := 72) F 84 dX7_isLetter_69 (by decide) rfl (fun c69 => ?_) (fun c69 => ?_)
    · exact absurd c69 (by decide)
    refine x_iload_n (q := 73) F dX7_isLetter_72 rfl rfl ?_
    refine x_bipush (q := 75) (v := 102) F dX7_isLetter_73 rfl (by decide) ?_
    refine x_icmp_eq (q := 78) F 84 dX7_isLetter_75 (by decide) rfl (fun c75 => ?_) (fun c75 => ?_)
    · exact absurd c75 (by decide)
    refine x_iload_n (q := 79) F dX7_isLetter_78 rfl rfl ?_
    refine x_bipush (q := 81) (v := 104) F dX7_isLetter_79 rfl (by decide) ?_
    refine x_icmp_ne (q := 84) F 88 dX7_isLetter_81 (by decide) rfl (fun c81 => ?_) (fun c81 => ?_)
    · refine x_iconst (q := 89) (v := 0) F dX7_isLetter_88 rfl (by decide) ?_
      refine x_zret F dX7_isLetter_89 (xle rfl) (xle rfl) (by first | exact Or.inl rfl | exact Or.inr rfl) ?_
      exact hQ
    · exact absurd c81 (by decide)
  | some c =>
    have hc := ho c rfl
    have E : ∀ k : Nat, k < 256 → nI c = nI k → c = k := fun k hk z => (nI_eq (by omega) (by omega)).mp z
    refine x_iload_n (q := 1) F dX7_isLetter_0 rfl rfl ?_
    refine x_bipush (q := 3) (v := 114) F dX7_isLetter_1 rfl (by decide) ?_
    refine x_icmp_eq (q := 6) F 84 dX7_isLetter_3 (by decide) rfl (fun c3 => ?_) (fun c3 => ?_)
    · obtain rfl := E 114 (by omega) c3
      refine x_iconst (q := 85) (v := 1) F dX7_isLetter_84 rfl (by decide) ?_
      refine x_goto F 89 dX7_isLetter_85 (by decide) ?_
      refine x_zret F dX7_isLetter_89 (xle rfl) (xle rfl) (by first | exact Or.inl rfl | exact Or.inr rfl) ?_
      exact hQ
    refine x_iload_n (q := 7) F dX7_isLetter_6 rfl rfl ?_
    refine x_bipush (q := 9) (v := 119) F dX7_isLetter_7 rfl (by decide) ?_
    refine x_icmp_eq (q := 12) F 84 dX7_isLetter_9 (by decide) rfl (fun c9 => ?_) (fun c9 => ?_)
    · obtain rfl := E 119 (by omega) c9
      refine x_iconst (q := 85) (v := 1) F dX7_isLetter_84 rfl (by decide) ?_
      refine x_goto F 89 dX7_isLetter_85 (by decide) ?_
      refine x_zret F dX7_isLetter_89 (xle rfl) (xle rfl) (by first | exact Or.inl rfl | exact Or.inr rfl) ?_
      exact hQ
    refine x_iload_n (q := 13) F dX7_isLetter_12 rfl rfl ?_
    refine x_bipush (q := 15) (v := 97) F dX7_isLetter_13 rfl (by decide) ?_
    refine x_icmp_eq (q := 18) F 84 dX7_isLetter_15 (by decide) rfl (fun c15 => ?_) (fun c15 => ?_)
    · obtain rfl := E 97 (by omega) c15
      refine x_iconst (q := 85) (v := 1) F dX7_isLetter_84 rfl (by decide) ?_
      refine x_goto F 89 dX7_isLetter_85 (by decide) ?_
      refine x_zret F dX7_isLetter_89 (xle rfl) (xle rfl) (by first | exact Or.inl rfl | exact Or.inr rfl) ?_
      exact hQ
    refine x_iload_n (q := 19) F dX7_isLetter_18 rfl rfl ?_
    refine x_bipush (q := 21) (v := 120) F dX7_isLetter_19 rfl (by decide) ?_
    refine x_icmp_eq (q := 24) F 84 dX7_isLetter_21 (by decide) rfl (fun c21 => ?_) (fun c21 => ?_)
    · obtain rfl := E 120 (by omega) c21
      refine x_iconst (q := 85) (v := 1) F dX7_isLetter_84 rfl (by decide) ?_
      refine x_goto F 89 dX7_isLetter_85 (by decide) ?_
      refine x_zret F dX7_isLetter_89 (xle rfl) (xle rfl) (by first | exact Or.inl rfl | exact Or.inr rfl) ?_
      exact hQ
    refine x_iload_n (q := 25) F dX7_isLetter_24 rfl rfl ?_
    refine x_bipush (q := 27) (v := 115) F dX7_isLetter_25 rfl (by decide) ?_
    refine x_icmp_eq (q := 30) F 84 dX7_isLetter_27 (by decide) rfl (fun c27 => ?_) (fun c27 => ?_)
    · obtain rfl := E 115 (by omega) c27
      refine x_iconst (q := 85) (v := 1) F dX7_isLetter_84 rfl (by decide) ?_
      refine x_goto F 89 dX7_isLetter_85 (by decide) ?_
      refine x_zret F dX7_isLetter_89 (xle rfl) (xle rfl) (by first | exact Or.inl rfl | exact Or.inr rfl) ?_
      exact hQ
    refine x_iload_n (q := 31) F dX7_isLetter_30 rfl rfl ?_
    refine x_bipush (q := 33) (v := 103) F dX7_isLetter_31 rfl (by decide) ?_
    refine x_icmp_eq (q := 36) F 84 dX7_isLetter_33 (by decide) rfl (fun c33 => ?_) (fun c33 => ?_)
    · obtain rfl := E 103 (by omega) c33
      refine x_iconst (q := 85) (v := 1) F dX7_isLetter_84 rfl (by decide) ?_
      refine x_goto F 89 dX7_isLetter_85 (by decide) ?_
      refine x_zret F dX7_isLetter_89 (xle rfl) (xle rfl) (by first | exact Or.inl rfl | exact Or.inr rfl) ?_
      exact hQ
    refine x_iload_n (q := 37) F dX7_isLetter_36 rfl rfl ?_
    refine x_bipush (q := 39) (v := 105) F dX7_isLetter_37 rfl (by decide) ?_
    refine x_icmp_eq (q := 42) F 84 dX7_isLetter_39 (by decide) rfl (fun c39 => ?_) (fun c39 => ?_)
    · obtain rfl := E 105 (by omega) c39
      refine x_iconst (q := 85) (v := 1) F dX7_isLetter_84 rfl (by decide) ?_
      refine x_goto F 89 dX7_isLetter_85 (by decide) ?_
      refine x_zret F dX7_isLetter_89 (xle rfl) (xle rfl) (by first | exact Or.inl rfl | exact Or.inr rfl) ?_
      exact hQ
    refine x_iload_n (q := 43) F dX7_isLetter_42 rfl rfl ?_
    refine x_bipush (q := 45) (v := 107) F dX7_isLetter_43 rfl (by decide) ?_
    refine x_icmp_eq (q := 48) F 84 dX7_isLetter_45 (by decide) rfl (fun c45 => ?_) (fun c45 => ?_)
    · obtain rfl := E 107 (by omega) c45
      refine x_iconst (q := 85) (v := 1) F dX7_isLetter_84 rfl (by decide) ?_
      refine x_goto F 89 dX7_isLetter_85 (by decide) ?_
      refine x_zret F dX7_isLetter_89 (xle rfl) (xle rfl) (by first | exact Or.inl rfl | exact Or.inr rfl) ?_
      exact hQ
    refine x_iload_n (q := 49) F dX7_isLetter_48 rfl rfl ?_
    refine x_bipush (q := 51) (v := 106) F dX7_isLetter_49 rfl (by decide) ?_
    refine x_icmp_eq (q := 54) F 84 dX7_isLetter_51 (by decide) rfl (fun c51 => ?_) (fun c51 => ?_)
    · obtain rfl := E 106 (by omega) c51
      refine x_iconst (q := 85) (v := 1) F dX7_isLetter_84 rfl (by decide) ?_
      refine x_goto F 89 dX7_isLetter_85 (by decide) ?_
      refine x_zret F dX7_isLetter_89 (xle rfl) (xle rfl) (by first | exact Or.inl rfl | exact Or.inr rfl) ?_
      exact hQ
    refine x_iload_n (q := 55) F dX7_isLetter_54 rfl rfl ?_
    refine x_bipush (q := 57) (v := 122) F dX7_isLetter_55 rfl (by decide) ?_
    refine x_icmp_eq (q := 60) F 84 dX7_isLetter_57 (by decide) rfl (fun c57 => ?_) (fun c57 => ?_)
    · obtain rfl := E 122 (by omega) c57
      refine x_iconst (q := 85) (v := 1) F dX7_isLetter_84 rfl (by decide) ?_
      refine x_goto F 89 dX7_isLetter_85 (by decide) ?_
      refine x_zret F dX7_isLetter_89 (xle rfl) (xle rfl) (by first | exact Or.inl rfl | exact Or.inr rfl) ?_
      exact hQ
    refine x_iload_n (q := 61) F dX7_isLetter_60 rfl rfl ?_
    refine x_bipush (q := 63) (v := 101) F dX7_isLetter_61 rfl (by decide) ?_
    refine x_icmp_eq (q := 66) F 84 dX7_isLetter_63 (by decide) rfl (fun c63 => ?_) (fun c63 => ?_)
    · obtain rfl := E 101 (by omega) c63
      refine x_iconst (q := 85) (v := 1) F dX7_isLetter_84 rfl (by decide) ?_
      refine x_goto F 89 dX7_isLetter_85 (by decide) ?_
      refine x_zret F dX7_isLetter_89 (xle rfl) (xle rfl) (by first | exact Or.inl rfl | exact Or.inr rfl) ?_
      exact hQ
    refine x_iload_n (q := 67) F dX7_isLetter_66 rfl rfl ?_
    refine x_bipush (q := 69) (v := 98) F dX7_isLetter_67 rfl (by decide) ?_
    refine x_icmp_eq (q := 72) F 84 dX7_isLetter_69 (by decide) rfl (fun c69 => ?_) (fun c69 => ?_)
    · obtain rfl := E 98 (by omega) c69
      refine x_iconst (q := 85) (v := 1) F dX7_isLetter_84 rfl (by decide) ?_
      refine x_goto F 89 dX7_isLetter_85 (by decide) ?_
      refine x_zret F dX7_isLetter_89 (xle rfl) (xle rfl) (by first | exact Or.inl rfl | exact Or.inr rfl) ?_
      exact hQ
    refine x_iload_n (q := 73) F dX7_isLetter_72 rfl rfl ?_
    refine x_bipush (q := 75) (v := 102) F dX7_isLetter_73 rfl (by decide) ?_
    refine x_icmp_eq (q := 78) F 84 dX7_isLetter_75 (by decide) rfl (fun c75 => ?_) (fun c75 => ?_)
    · obtain rfl := E 102 (by omega) c75
      refine x_iconst (q := 85) (v := 1) F dX7_isLetter_84 rfl (by decide) ?_
      refine x_goto F 89 dX7_isLetter_85 (by decide) ?_
      refine x_zret F dX7_isLetter_89 (xle rfl) (xle rfl) (by first | exact Or.inl rfl | exact Or.inr rfl) ?_
      exact hQ
    refine x_iload_n (q := 79) F dX7_isLetter_78 rfl rfl ?_
    refine x_bipush (q := 81) (v := 104) F dX7_isLetter_79 rfl (by decide) ?_
    refine x_icmp_ne (q := 84) F 88 dX7_isLetter_81 (by decide) rfl (fun c81 => ?_) (fun c81 => ?_)
    · have hno : c ∉ L14 := fun hm => by
        simp only [L14, List.mem_cons, List.not_mem_nil, or_false] at hm
        rcases hm with rfl | rfl | rfl | rfl | rfl | rfl | rfl | rfl | rfl | rfl | rfl | rfl | rfl | rfl
        · exact c3 rfl
        · exact c9 rfl
        · exact c15 rfl
        · exact c21 rfl
        · exact c27 rfl
        · exact c33 rfl
        · exact c39 rfl
        · exact c45 rfl
        · exact c51 rfl
        · exact c57 rfl
        · exact c63 rfl
        · exact c69 rfl
        · exact c75 rfl
        · exact c81 rfl
      refine x_iconst (q := 89) (v := 0) F dX7_isLetter_88 rfl (by decide) ?_
      refine x_zret F dX7_isLetter_89 (xle rfl) (xle rfl) (by first | exact Or.inl rfl | exact Or.inr rfl) ?_
      have hQ : Q (some (.int (bI (decide (c ∈ L14))))) ad h := hQ
      rw [decide_eq_false hno] at hQ
      exact hQ
    · obtain rfl := E 104 (by omega) c81
      refine x_iconst (q := 85) (v := 1) F dX7_isLetter_84 rfl (by decide) ?_
      refine x_goto F 89 dX7_isLetter_85 (by decide) ?_
      refine x_zret F dX7_isLetter_89 (xle rfl) (xle rfl) (by first | exact Or.inl rfl | exact Or.inr rfl) ?_
      exact hQ
