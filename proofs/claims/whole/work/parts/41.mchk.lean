/-! ===== the reference: holds, allHold, hasDerived ===== -/
def nsum (f : Nat → Nat) : Nat → Nat
  | 0 => 0
  | n + 1 => nsum f n + f n
theorem rsum_nsum (f : Nat → Nat) : ∀ n, rsum (fun j => nI (f j)) n = nI (nsum f n) := by
  intro n
  induction n with
  | zero => rfl
  | succ n ih =>
    show rsum (fun j => nI (f j)) n + nI (f n) = nI (nsum f n + f n)
    rw [ih, nI_add]
theorem nsum_le {f : Nat → Nat} : ∀ n, (∀ j, j < n → f j < 256) → nsum f n ≤ 256 * n := by
  intro n
  induction n with
  | zero => intro _; exact Nat.le_refl _
  | succ n ih =>
    intro h
    have := ih (fun j hj => h j (by omega))
    have := h n (by omega)
    show nsum f n + f n ≤ _
    omega
theorem bI_dec {P : Prop} [d : Decidable P] (h : P) : bI (decide P) = 1 := by rw [decide_eq_true h]; rfl
theorem bI_ndec {P : Prop} [d : Decidable P] (h : ¬ P) : bI (decide P) = 0 := by rw [decide_eq_false h]; rfl
set_option maxRecDepth 100000 in
set_option maxHeartbeats 1000000 in
theorem c_X7_holds : Ct yX7_holds cX7_holds 5 (some .boolean) (xrm 0 0 0) (fun ad h av Q => ∃ k v n f, av = [.int (nI k), .int (nI v), .int (nI n), .int (nI (if n = 0 then 0 else f 0)), .int (nI (nsum f n))] ∧ k ≤ 3 ∧ v < 256 ∧ n ≤ 40 ∧ (∀ j, j < n → f j < 256) ∧ Q (some (.int (bI (holdV (nI k) (nI v) n (fun j => nI (f j)))))) ad h) := by
  refine Ct.of (by decide) ?_
  intro p l e s m args below meth c0 G ad h av Q F hsp
  obtain ⟨k, v, n, f, rfl, hk, hv, hn, hf, hQ⟩ := hsp
  have hs := nsum_le n hf
  refine ⟨x_ent rfl rfl, ?_⟩
  refine x_ls [(0, .int (nI k)), (1, .int (nI v)), (2, .int (nI n)), (3, .int (nI (if n = 0 then 0 else f 0))), (4, .int (nI (nsum f n)))] rfl ?_
  refine x_iload_n (q := 1) F dX7_holds_0 rfl rfl ?_
  rcases (show k = 0 ∨ k = 1 ∨ k = 2 ∨ k = 3 by omega) with rfl | rfl | rfl | rfl
  · have hQ : Q (some (.int (bI (decide (nI v ≤ nI n))))) ad h := hQ
    refine x_tableIn F 28 dX7_holds_1 (by decide) (by decide) (off := 27) (by decide) (by decide) ?_
    refine x_iload_n (q := 29) F dX7_holds_28 rfl rfl ?_
    refine x_iload_n (q := 30) F dX7_holds_29 rfl rfl ?_
    refine x_icmp_lt (q := 33) F 37 dX7_holds_30 (by decide) rfl (fun c30 => ?_) (fun c30 => ?_)
    · rw [bI_ndec (fun z => absurd c30 (Int32.not_lt.mpr z))] at hQ
      refine x_iconst (q := 38) (v := 0) F dX7_holds_37 rfl (by decide) ?_
      refine x_zret F dX7_holds_38 (xle rfl) (xle rfl) (by first | exact Or.inl rfl | exact Or.inr rfl) ?_
      exact hQ
    · rw [bI_dec (Int32.not_lt.mp c30)] at hQ
      refine x_iconst (q := 34) (v := 1) F dX7_holds_33 rfl (by decide) ?_
      refine x_goto F 38 dX7_holds_34 (by decide) ?_
      refine x_zret F dX7_holds_38 (xle rfl) (xle rfl) (by first | exact Or.inl rfl | exact Or.inr rfl) ?_
      exact hQ
  · have hQ : Q (some (.int (bI (decide (nI n ≤ nI v))))) ad h := hQ
    refine x_tableIn F 39 dX7_holds_1 (by decide) (by decide) (off := 38) (by decide) (by decide) ?_
    refine x_iload_n (q := 40) F dX7_holds_39 rfl rfl ?_
    refine x_iload_n (q := 41) F dX7_holds_40 rfl rfl ?_
    refine x_icmp_gt (q := 44) F 48 dX7_holds_41 (by decide) rfl (fun c41 => ?_) (fun c41 => ?_)
    · rw [bI_ndec (fun z => absurd c41 (Int32.not_lt.mpr z))] at hQ
      refine x_iconst (q := 49) (v := 0) F dX7_holds_48 rfl (by decide) ?_
      refine x_zret F dX7_holds_49 (xle rfl) (xle rfl) (by first | exact Or.inl rfl | exact Or.inr rfl) ?_
      exact hQ
    · rw [bI_dec (Int32.not_lt.mp c41)] at hQ
      refine x_iconst (q := 45) (v := 1) F dX7_holds_44 rfl (by decide) ?_
      refine x_goto F 49 dX7_holds_45 (by decide) ?_
      refine x_zret F dX7_holds_49 (xle rfl) (xle rfl) (by first | exact Or.inl rfl | exact Or.inr rfl) ?_
      exact hQ
  · have hQ : Q (some (.int (bI (decide (rowAt n (fun j => nI (f j)) 0 = nI v))))) ad h := hQ
    have hr : rowAt n (fun j => nI (f j)) 0 = if n = 0 then -1 else nI (f 0) := by
      by_cases z : n = 0
      · subst z; rfl
      · rw [if_neg z]
        exact rowAt_in (n := n) (j := 0) (by omega) (by omega)
    rw [hr] at hQ
    refine x_tableIn F 50 dX7_holds_1 (by decide) (by decide) (off := 49) (by decide) (by decide) ?_
    refine x_iload_n (q := 51) F dX7_holds_50 rfl rfl ?_
    refine x_if_le (q := 54) F 63 dX7_holds_51 (by decide) rfl (fun c51 => ?_) (fun c51 => ?_)
    · have hn0 : n = 0 := by have := (nI_leI (a := n) (b := 0) (by omega) (by omega)).mp c51; omega
      rw [if_pos hn0, bI_ndec (fun z => absurd z.symm (nI_neg1 (by omega)))] at hQ
      refine x_iconst (q := 64) (v := 0) F dX7_holds_63 rfl (by decide) ?_
      refine x_zret F dX7_holds_64 (xle rfl) (xle rfl) (by first | exact Or.inl rfl | exact Or.inr rfl) ?_
      exact hQ
    · have hn0 : ¬ n = 0 := fun z => c51 (by rw [z]; decide)
      rw [if_neg hn0] at hQ
      refine x_iload_n (q := 55) F dX7_holds_54 rfl rfl ?_
      refine x_topi (y := nI (f 0)) (by rw [if_neg hn0]) ?_
      refine x_iload_n (q := 56) F dX7_holds_55 rfl rfl ?_
      refine x_icmp_ne (q := 59) F 63 dX7_holds_56 (by decide) rfl (fun c56 => ?_) (fun c56 => ?_)
      · rw [bI_ndec c56] at hQ
        refine x_iconst (q := 64) (v := 0) F dX7_holds_63 rfl (by decide) ?_
        refine x_zret F dX7_holds_64 (xle rfl) (xle rfl) (by first | exact Or.inl rfl | exact Or.inr rfl) ?_
        exact hQ
      · rw [bI_dec c56] at hQ
        refine x_iconst (q := 60) (v := 1) F dX7_holds_59 rfl (by decide) ?_
        refine x_goto F 64 dX7_holds_60 (by decide) ?_
        refine x_zret F dX7_holds_64 (xle rfl) (xle rfl) (by first | exact Or.inl rfl | exact Or.inr rfl) ?_
        exact hQ
  · have hQ : Q (some (.int (bI (decide (rsum (fun j => nI (f j)) n &&& 255 = nI v))))) ad h := hQ
    rw [rsum_nsum, pk_andN (n := nsum f n) (by omega) 8 (by decide)] at hQ
    refine x_tableOut F 65 dX7_holds_1 (Or.inr (by decide)) (by decide) ?_
    refine x_iload (q := 67) F dX7_holds_65 rfl rfl ?_
    refine x_sipush (q := 70) (v := 256) F dX7_holds_67 rfl (by decide) ?_
    refine x_irem (q := 71) F dX7_holds_70 rfl (by decide) ?_
    refine x_topi (y := nI (nsum f n % 256)) (pk_rem (a := nsum f n) (d := 256) (by omega) (by omega) (by omega)) ?_
    refine x_iload_n (q := 72) F dX7_holds_71 rfl rfl ?_
    refine x_icmp_ne (q := 75) F 79 dX7_holds_72 (by decide) rfl (fun c72 => ?_) (fun c72 => ?_)
    · rw [bI_ndec c72] at hQ
      refine x_iconst (q := 80) (v := 0) F dX7_holds_79 rfl (by decide) ?_
      refine x_zret F dX7_holds_80 (xle rfl) (xle rfl) (by first | exact Or.inl rfl | exact Or.inr rfl) ?_
      exact hQ
    · rw [bI_dec c72] at hQ
      refine x_iconst (q := 76) (v := 1) F dX7_holds_75 rfl (by decide) ?_
      refine x_goto F 80 dX7_holds_76 (by decide) ?_
      refine x_zret F dX7_holds_80 (xle rfl) (xle rfl) (by first | exact Or.inl rfl | exact Or.inr rfl) ?_
      exact hQ
theorem bI_1 {b : Bool} (h : bI b = 0) : b = false := by cases b with | false => rfl | true => exact absurd h (by decide)
theorem bI_0 {b : Bool} (h : ¬ bI b = 0) : b = true := by cases b with | true => rfl | false => exact absurd rfl h
set_option maxRecDepth 100000 in
set_option maxHeartbeats 2000000 in
theorem c_X7_allHold : Ct yX7_allHold cX7_allHold 8 (some .boolean) (xrm 1 0 0) (fun ad h av Q => ∃ (g : xH) (S : Nat → Int32) (ct : Int64) (V : MV) (row : Nat) (x : Int32) (n : Nat) (f : Nat → Nat) (cn : Nat) (kd vl : Nat → Nat), h = wM g ad S ct V ∧ av = [.ref (ad (50, 0)), .int (nI row), .int x] ∧ ((x = -1 ∧ S 28 = nI n ∧ ∀ j, j < n → V 67 j &&& 255 = nI (f j)) ∨ ∃ it, x = nI it ∧ it < 60 ∧ V 60 it = nI n ∧ ∀ j, j < n → V 61 (40 * it + j) &&& 255 = nI (f j)) ∧ n ≤ 40 ∧ (∀ j, j < n → f j < 256) ∧ row < 20 ∧ V 56 row = nI cn ∧ cn ≤ 4 ∧
    (∀ j, j < cn → (V 57 (4 * row + j) = nI (kd j) ∧ kd j ≤ 3) ∧ V 58 (4 * row + j) = nI (vl j) ∧ vl j < 256) ∧ Q (some (.int (bI (holdA (fun j => nI (kd j)) (fun j => nI (vl j)) n (fun j => nI (f j)) cn)))) ad h) := by
  refine Ct.of (by decide) ?_
  intro p l e s m args below meth c0 G ad h av Q F hsp
  obtain ⟨g, S, ct, V, row, x, n, f, cn, kd, vl, rfl, rfl, hx, hn, hf, hrow, eC, hcn, hK, hQ⟩ := hsp
  have hs := nsum_le n hf
  refine ⟨x_ent rfl rfl, ?_⟩
  refine x_ls [(0, .ref (ad (50, 0))), (1, .int (nI row)), (2, .int x)] rfl ?_
  -- behind the sum
  have checks : ∀ k d, d + k = cn → xX p l e (xrm 1 0 0) s m args below meth c0 G ad (wM g ad S ct V) 8 (xZ below G ad (wM g ad S ct V) Q args s (xrm 1 0 0)) 87 [(0, .ref (ad (50, 0))), (1, .int (nI row)), (3, .int (nI n)), (4, .int (nI (nsum f n))), (5, .int (nI (if n = 0 then 0 else f 0))), (6, .int (bI (holdA (fun j => nI (kd j)) (fun j => nI (vl j)) n (fun j => nI (f j)) d))), (7, .int (nI (4 * row + d)))] [] ad (wM g ad S ct V) 0 0 := by
    intro k
    induction k with
    | zero =>
      intro d hd
      refine x_iload (q := 89) F dX7_allHold_87 rfl rfl ?_
      refine x_iconst (q := 90) (v := 4) F dX7_allHold_89 rfl (by decide) ?_
      refine x_iload_n (q := 91) F dX7_allHold_90 rfl rfl ?_
      refine x_imul (q := 92) F dX7_allHold_91 rfl ?_
      refine x_topi (pk_mul 4 row) ?_
      refine x_aload_n (q := 93) F dX7_allHold_92 rfl rfl (by first | exact xref_r | exact xref_n | exact xref_f _ | assumption) ?_
      refine x_mget (q := 96) F dX7_allHold_93 rfl fs_X7_30 rfl ?_
      refine x_iload_n (q := 97) F dX7_allHold_96 rfl rfl ?_
      refine x_mild (q := 98) F dX7_allHold_97 rfl rfl (by decide) (by decide) rfl (by omega) ?_
      refine x_topi eC ?_
      refine x_iadd (q := 99) F dX7_allHold_98 rfl ?_
      refine x_topi (nI_add _ _) ?_
      refine x_icmp_ge (q := 102) F 145 dX7_allHold_99 (by decide) rfl (fun c99 => ?_) (fun c99 => ?_)
      · refine x_iload (q := 147) F dX7_allHold_145 rfl rfl ?_
        refine x_zret F dX7_allHold_147 (xle rfl) (xle rfl) (bI_or _) ?_
        rw [show d = cn by omega]
        exact hQ
      · exact absurd ((nI_leI (by omega) (by omega)).mpr (by omega)) c99
    | succ k ih =>
      intro d hd
      obtain ⟨⟨K1, K2⟩, K3, K4⟩ := hK d (by omega)
      refine x_iload (q := 89) F dX7_allHold_87 rfl rfl ?_
      refine x_iconst (q := 90) (v := 4) F dX7_allHold_89 rfl (by decide) ?_
      refine x_iload_n (q := 91) F dX7_allHold_90 rfl rfl ?_
      refine x_imul (q := 92) F dX7_allHold_91 rfl ?_
      refine x_topi (pk_mul 4 row) ?_
      refine x_aload_n (q := 93) F dX7_allHold_92 rfl rfl (by first | exact xref_r | exact xref_n | exact xref_f _ | assumption) ?_
      refine x_mget (q := 96) F dX7_allHold_93 rfl fs_X7_30 rfl ?_
      refine x_iload_n (q := 97) F dX7_allHold_96 rfl rfl ?_
      refine x_mild (q := 98) F dX7_allHold_97 rfl rfl (by decide) (by decide) rfl (by omega) ?_
      refine x_topi eC ?_
      refine x_iadd (q := 99) F dX7_allHold_98 rfl ?_
      refine x_topi (nI_add _ _) ?_
      refine x_icmp_ge (q := 102) F 145 dX7_allHold_99 (by decide) rfl (fun c99 => ?_) (fun c99 => ?_)
      · have := (nI_leI (by omega) (by omega)).mp c99; omega
      · have hstep : holdA (fun j => nI (kd j)) (fun j => nI (vl j)) n (fun j => nI (f j)) (d + 1) = (holdA (fun j => nI (kd j)) (fun j => nI (vl j)) n (fun j => nI (f j)) d && holdV (nI (kd d)) (nI (vl d)) n (fun j => nI (f j))) := rfl
        have ih := ih (d + 1) (by omega)
        rw [hstep] at ih
        refine x_iload (q := 104) F dX7_allHold_102 rfl rfl ?_
        refine x_if_eq (q := 107) F 136 dX7_allHold_104 (by decide) rfl (fun c104 => ?_) (fun c104 => ?_)
        · rw [bI_1 c104, Bool.false_and] at ih
          refine x_iconst (q := 137) (v := 0) F dX7_allHold_136 rfl (by decide) ?_
          refine x_istore (q := 139) F dX7_allHold_137 rfl (by decide) ?_
          refine x_iinc (q := 142) F dX7_allHold_139 rfl rfl (nI_1 _) (by decide) ?_
          refine x_goto F 87 dX7_allHold_142 (by decide) ?_
          refine x_ls [(0, .ref (ad (50, 0))), (1, .int (nI row)), (3, .int (nI n)), (4, .int (nI (nsum f n))), (5, .int (nI (if n = 0 then 0 else f 0))), (6, .int (bI false)), (7, .int (nI (4 * row + (d + 1))))] rfl ?_
          exact ih
        · rw [bI_0 c104, Bool.true_and] at ih
          refine x_aload_n (q := 108) F dX7_allHold_107 rfl rfl (by first | exact xref_r | exact xref_n | exact xref_f _ | assumption) ?_
          refine x_mget (q := 111) F dX7_allHold_108 rfl fs_X7_33 rfl ?_
          refine x_iload (q := 113) F dX7_allHold_111 rfl rfl ?_
          refine x_mild (q := 114) F dX7_allHold_113 rfl rfl (by decide) (by decide) rfl (by omega) ?_
          refine x_topi K1 ?_
          refine x_aload_n (q := 115) F dX7_allHold_114 rfl rfl (by first | exact xref_r | exact xref_n | exact xref_f _ | assumption) ?_
          refine x_mget (q := 118) F dX7_allHold_115 rfl fs_X7_36 rfl ?_
          refine x_iload (q := 120) F dX7_allHold_118 rfl rfl ?_
          refine x_mild (q := 121) F dX7_allHold_120 rfl rfl (by decide) (by decide) rfl (by omega) ?_
          refine x_topi K3 ?_
          refine x_iload_n (q := 122) F dX7_allHold_121 rfl rfl ?_
          refine x_iload (q := 124) F dX7_allHold_122 rfl rfl ?_
          refine x_iload (q := 126) F dX7_allHold_124 rfl rfl ?_
          refine x_callS5 (q := 129) F c_X7_holds dX7_allHold_126 rfl ms_X7_holds ml_X7_131 ⟨⟨xle rfl, xle rfl⟩, xle rfl, xle rfl⟩ (xle rfl) ?_
          refine ⟨kd d, vl d, n, f, rfl, K2, K4, hn, hf, fun _ => ?_⟩
          refine x_if_eq (q := 132) F 136 dX7_allHold_129 (by decide) rfl (fun c129 => ?_) (fun c129 => ?_)
          · rw [bI_1 c129] at ih
            refine x_iconst (q := 137) (v := 0) F dX7_allHold_136 rfl (by decide) ?_
            refine x_istore (q := 139) F dX7_allHold_137 rfl (by decide) ?_
            refine x_iinc (q := 142) F dX7_allHold_139 rfl rfl (nI_1 _) (by decide) ?_
            refine x_goto F 87 dX7_allHold_142 (by decide) ?_
            refine x_ls [(0, .ref (ad (50, 0))), (1, .int (nI row)), (3, .int (nI n)), (4, .int (nI (nsum f n))), (5, .int (nI (if n = 0 then 0 else f 0))), (6, .int (bI false)), (7, .int (nI (4 * row + (d + 1))))] rfl ?_
            exact ih
          · rw [bI_0 c129] at ih
            refine x_iconst (q := 133) (v := 1) F dX7_allHold_132 rfl (by decide) ?_
            refine x_goto F 137 dX7_allHold_133 (by decide) ?_
            refine x_istore (q := 139) F dX7_allHold_137 rfl (by decide) ?_
            refine x_iinc (q := 142) F dX7_allHold_139 rfl rfl (nI_1 _) (by decide) ?_
            refine x_goto F 87 dX7_allHold_142 (by decide) ?_
            refine x_ls [(0, .ref (ad (50, 0))), (1, .int (nI row)), (3, .int (nI n)), (4, .int (nI (nsum f n))), (5, .int (nI (if n = 0 then 0 else f 0))), (6, .int (bI true)), (7, .int (nI (4 * row + (d + 1))))] rfl ?_
            exact ih
  have sum : ∀ k acc, k ≤ n → acc + nsum f k = nsum f n → xX p l e (xrm 1 0 0) s m args below meth c0 G ad (wM g ad S ct V) 8 (xZ below G ad (wM g ad S ct V) Q args s (xrm 1 0 0)) 29 [(0, .ref (ad (50, 0))), (1, .int (nI row)), (2, .int x), (3, .int (nI n)), (4, .int (nI acc)), (5, .int (nI (if k = n then 0 else f k))), (6, .int (nI k - 1))] [] ad (wM g ad S ct V) 0 0 := by
    intro k
    induction k with
    | zero =>
      intro acc hk hacc
      have hacc : acc = nsum f n := hacc
      subst hacc
      refine x_iload (q := 31) F dX7_allHold_29 rfl rfl ?_
      refine x_if_lt (q := 34) F 79 dX7_allHold_31 (by decide) rfl (fun c31 => ?_) (fun c31 => ?_)
      · refine x_iconst (q := 80) (v := 1) F dX7_allHold_79 rfl (by decide) ?_
        refine x_istore (q := 82) F dX7_allHold_80 rfl (by decide) ?_
        refine x_iconst (q := 83) (v := 4) F dX7_allHold_82 rfl (by decide) ?_
        refine x_iload_n (q := 84) F dX7_allHold_83 rfl rfl ?_
        refine x_imul (q := 85) F dX7_allHold_84 rfl ?_
        refine x_topi (pk_mul 4 row) ?_
        refine x_istore (q := 87) F dX7_allHold_85 rfl (by decide) ?_
        refine x_ls [(0, .ref (ad (50, 0))), (1, .int (nI row)), (3, .int (nI n)), (4, .int (nI (nsum f n))), (5, .int (nI (if 0 = n then 0 else f 0))), (6, .int 1), (7, .int (nI (4 * row)))] rfl ?_
        rw [show (if 0 = n then 0 else f 0) = (if n = 0 then 0 else f 0) by by_cases z : n = 0; rw [if_pos z, if_pos z.symm]; rw [if_neg z, if_neg (fun w => z w.symm)]]
        exact checks cn 0 (by omega)
      · exact absurd (by decide) c31
    | succ k ih =>
      intro acc hk hacc
      have hacc : acc + (nsum f k + f k) = nsum f n := hacc
      have ih := ih (acc + f k) (by omega) (by omega)
      rw [if_neg (by omega)] at ih
      rw [nI_pred]
      refine x_iload (q := 31) F dX7_allHold_29 rfl rfl ?_
      refine x_if_lt (q := 34) F 79 dX7_allHold_31 (by decide) rfl (fun c31 => ?_) (fun c31 => ?_)
      · exact absurd c31 (nI_pos (by omega))
      · refine x_iload_n (q := 35) F dX7_allHold_34 rfl rfl ?_
        rcases hx with ⟨rfl, e28, hB⟩ | ⟨it, rfl, hit, eZ, hB⟩
        · refine x_if_ge (q := 38) F 48 dX7_allHold_35 (by decide) rfl (fun c35 => ?_) (fun c35 => ?_)
          · exact absurd c35 (by decide)
          · refine x_aload_n (q := 39) F dX7_allHold_38 rfl rfl (by first | exact xref_r | exact xref_n | exact xref_f _ | assumption) ?_
            refine x_mget (q := 42) F dX7_allHold_39 rfl fs_X7_67 rfl ?_
            refine x_iload (q := 44) F dX7_allHold_42 rfl rfl ?_
            refine x_mbld (q := 45) F dX7_allHold_44 rfl rfl (by decide) (by decide) rfl (by omega) ?_
            refine x_goto F 60 dX7_allHold_45 (by decide) ?_
            refine x_sipush (q := 63) (v := 255) F dX7_allHold_60 rfl (by decide) ?_
            refine x_iand (q := 64) F dX7_allHold_63 rfl ?_
            refine x_topi (hB k (by omega)) ?_
            refine x_istore (q := 66) F dX7_allHold_64 rfl (by decide) ?_
            refine x_iload (q := 68) F dX7_allHold_66 rfl rfl ?_
            refine x_iload (q := 70) F dX7_allHold_68 rfl rfl ?_
            refine x_iadd (q := 71) F dX7_allHold_70 rfl ?_
            refine x_topi (nI_add _ _) ?_
            refine x_istore (q := 73) F dX7_allHold_71 rfl (by decide) ?_
            refine x_iinc (q := 76) F dX7_allHold_73 rfl rfl (show nI k + Int32.ofInt (-1) = nI k - 1 by rw [Int32.sub_eq_add_neg]; rfl) (by decide) ?_
            refine x_goto F 29 dX7_allHold_76 (by decide) ?_
            refine x_ls [(0, .ref (ad (50, 0))), (1, .int (nI row)), (2, .int (-1)), (3, .int (nI n)), (4, .int (nI (acc + f k))), (5, .int (nI (f k))), (6, .int (nI k - 1))] rfl ?_
            exact ih
        · refine x_if_ge (q := 38) F 48 dX7_allHold_35 (by decide) rfl (fun c35 => ?_) (fun c35 => ?_)
          · refine x_aload_n (q := 49) F dX7_allHold_48 rfl rfl (by first | exact xref_r | exact xref_n | exact xref_f _ | assumption) ?_
            refine x_mget (q := 52) F dX7_allHold_49 rfl fs_X7_45 rfl ?_
            refine x_bipush (q := 54) (v := 40) F dX7_allHold_52 rfl (by decide) ?_
            refine x_iload_n (q := 55) F dX7_allHold_54 rfl rfl ?_
            refine x_imul (q := 56) F dX7_allHold_55 rfl ?_
            refine x_topi (pk_mul 40 it) ?_
            refine x_iload (q := 58) F dX7_allHold_56 rfl rfl ?_
            refine x_iadd (q := 59) F dX7_allHold_58 rfl ?_
            refine x_topi (nI_add _ _) ?_
            refine x_mbld (q := 60) F dX7_allHold_59 rfl rfl (by decide) (by decide) rfl (by omega) ?_
            refine x_sipush (q := 63) (v := 255) F dX7_allHold_60 rfl (by decide) ?_
            refine x_iand (q := 64) F dX7_allHold_63 rfl ?_
            refine x_topi (hB k (by omega)) ?_
            refine x_istore (q := 66) F dX7_allHold_64 rfl (by decide) ?_
            refine x_iload (q := 68) F dX7_allHold_66 rfl rfl ?_
            refine x_iload (q := 70) F dX7_allHold_68 rfl rfl ?_
            refine x_iadd (q := 71) F dX7_allHold_70 rfl ?_
            refine x_topi (nI_add _ _) ?_
            refine x_istore (q := 73) F dX7_allHold_71 rfl (by decide) ?_
            refine x_iinc (q := 76) F dX7_allHold_73 rfl rfl (show nI k + Int32.ofInt (-1) = nI k - 1 by rw [Int32.sub_eq_add_neg]; rfl) (by decide) ?_
            refine x_goto F 29 dX7_allHold_76 (by decide) ?_
            refine x_ls [(0, .ref (ad (50, 0))), (1, .int (nI row)), (2, .int (nI it)), (3, .int (nI n)), (4, .int (nI (acc + f k))), (5, .int (nI (f k))), (6, .int (nI k - 1))] rfl ?_
            exact ih
          · exact absurd (Int32.not_lt.mp (nI_pos (by omega))) c35
  have start : xX p l e (xrm 1 0 0) s m args below meth c0 G ad (wM g ad S ct V) 8 (xZ below G ad (wM g ad S ct V) Q args s (xrm 1 0 0)) 17 [(0, .ref (ad (50, 0))), (1, .int (nI row)), (2, .int x)] [.int (nI n)] ad (wM g ad S ct V) 0 0 := by
    refine x_istore_n (q := 18) F dX7_allHold_17 rfl (by decide) ?_
    refine x_iconst (q := 19) (v := 0) F dX7_allHold_18 rfl (by decide) ?_
    refine x_istore (q := 21) F dX7_allHold_19 rfl (by decide) ?_
    refine x_iconst (q := 22) (v := 0) F dX7_allHold_21 rfl (by decide) ?_
    refine x_istore (q := 24) F dX7_allHold_22 rfl (by decide) ?_
    refine x_iload_n (q := 25) F dX7_allHold_24 rfl rfl ?_
    refine x_iconst (q := 26) (v := 1) F dX7_allHold_25 rfl (by decide) ?_
    refine x_isub (q := 27) F dX7_allHold_26 rfl ?_
    refine x_istore (q := 29) F dX7_allHold_27 rfl (by decide) ?_
    refine x_ls [(0, .ref (ad (50, 0))), (1, .int (nI row)), (2, .int x), (3, .int (nI n)), (4, .int (nI 0)), (5, .int (nI (if n = n then 0 else f n))), (6, .int (nI n - 1))] (by rw [if_pos rfl]; rfl) ?_
    exact sum n 0 (Nat.le_refl _) (by omega)
  refine x_iload_n (q := 1) F dX7_allHold_0 rfl rfl ?_
  rcases hx with ⟨rfl, e28, hB⟩ | ⟨it, rfl, hit, eZ, hB⟩
  · refine x_if_ge (q := 4) F 11 dX7_allHold_1 (by decide) rfl (fun c1 => ?_) (fun c1 => ?_)
    · exact absurd c1 (by decide)
    · refine x_aload_n (q := 5) F dX7_allHold_4 rfl rfl (by first | exact xref_r | exact xref_n | exact xref_f _ | assumption) ?_
      refine x_mget (q := 8) F dX7_allHold_5 rfl fs_X7_113 rfl ?_
      refine x_topi e28 ?_
      refine x_goto F 17 dX7_allHold_8 (by decide) ?_
      exact start
  · refine x_if_ge (q := 4) F 11 dX7_allHold_1 (by decide) rfl (fun c1 => ?_) (fun c1 => ?_)
    · refine x_aload_n (q := 12) F dX7_allHold_11 rfl rfl (by first | exact xref_r | exact xref_n | exact xref_f _ | assumption) ?_
      refine x_mget (q := 15) F dX7_allHold_12 rfl fs_X7_42 rfl ?_
      refine x_iload_n (q := 16) F dX7_allHold_15 rfl rfl ?_
      refine x_mild (q := 17) F dX7_allHold_16 rfl rfl (by decide) (by decide) rfl (by omega) ?_
      refine x_topi eZ ?_
      exact start
    · exact absurd (Int32.not_lt.mp (nI_pos (by omega))) c1
def byO (A : AS) (o : Option Nat) (n : Nat) : Bool := match o with
  | none => true
  | some sc => decide (iBy (aItm A n) = some sc)
theorem anyB_none (A : AS) (j : Nat) : anyB (fun n => derAt A j n && byO A none n) (aI A) = hasDer A j := by
  unfold hasDer
  congr 1
  funext n
  exact Bool.and_true _
set_option maxRecDepth 100000 in
set_option maxHeartbeats 2000000 in
theorem c_X7_hasDerived : Ct yX7_hasDerived cX7_hasDerived 5 (some .boolean) (xrm 0 0 0) (fun ad h av Q => ∃ g A S ct V j o, h = wM g ad S ct V ∧ rIt A S V ∧ aOK A ∧ av = [.ref (ad (50, 0)), .int (nI j), .int (optI o)] ∧ j < 1000 ∧ (∀ x, o = some x → x < 10) ∧ Q (some (.int (bI (anyB (fun n => derAt A j n && byO A o n) (aI A))))) ad h) := by
  refine Ct.of (by decide) ?_
  intro p l e s m args below meth c0 G ad h av Q F hsp
  obtain ⟨g, A, S, ct, V, j, o, rfl, ⟨r1, r2, r3⟩, hA, rfl, hj, ho, hQ⟩ := hsp
  have hnI := hA.2.2.2.1.1
  refine ⟨x_ent rfl rfl, ?_⟩
  refine x_ls [(0, .ref (ad (50, 0))), (1, .int (nI j)), (2, .int (optI o))] rfl ?_
  refine x_iconst (q := 1) (v := 0) F dX7_hasDerived_0 rfl (by decide) ?_
  refine x_istore_n (q := 2) F dX7_hasDerived_1 rfl (by decide) ?_
  refine x_iconst (q := 3) (v := 0) F dX7_hasDerived_2 rfl (by decide) ?_
  refine x_istore (q := 5) F dX7_hasDerived_3 rfl (by decide) ?_
  refine x_ls [(0, .ref (ad (50, 0))), (1, .int (nI j)), (2, .int (optI o)), (3, .int (bI (anyB (fun n => derAt A j n && byO A o n) 0))), (4, .int (nI 0))] rfl ?_
  have loop : ∀ k n, n + k = aI A → xX p l e (xrm 0 0 0) s m args below meth c0 G ad (wM g ad S ct V) 5 (xZ below G ad (wM g ad S ct V) Q args s (xrm 0 0 0)) 5 [(0, .ref (ad (50, 0))), (1, .int (nI j)), (2, .int (optI o)), (3, .int (bI (anyB (fun n => derAt A j n && byO A o n) n))), (4, .int (nI n))] [] ad (wM g ad S ct V) 0 0 := by
    intro k
    induction k with
    | zero =>
      intro n hn
      refine x_iload (q := 7) F dX7_hasDerived_5 rfl rfl ?_
      refine x_aload_n (q := 8) F dX7_hasDerived_7 rfl rfl (by first | exact xref_r | exact xref_n | exact xref_f _ | assumption) ?_
      refine x_mget (q := 11) F dX7_hasDerived_8 rfl fs_X7_89 rfl ?_
      refine x_topi r1 ?_
      refine x_icmp_ge (q := 14) F 66 dX7_hasDerived_11 (by decide) rfl (fun c11 => ?_) (fun c11 => ?_)
      · refine x_iload_n (q := 67) F dX7_hasDerived_66 rfl rfl ?_
        refine x_zret F dX7_hasDerived_67 (xle rfl) (xle rfl) (bI_or _) ?_
        rw [show n = aI A by omega]
        exact hQ
      · exact absurd ((nI_leI (by omega) (by omega)).mpr (by omega)) c11
    | succ k ih =>
      intro n hn
      have hlt : n < aI A := by omega
      obtain ⟨i1, i2, i3, i4, i5⟩ := r2 n hlt
      have hOK := hA.2.2.2.1.2 n hlt
      have ih := ih (n + 1) (by omega)
      have hstep : anyB (fun n => derAt A j n && byO A o n) (n + 1) = (anyB (fun n => derAt A j n && byO A o n) n || (derAt A j n && byO A o n)) := rfl
      rw [hstep] at ih
      have yes : (anyB (fun n => derAt A j n && byO A o n) n || (derAt A j n && byO A o n)) = true → xX p l e (xrm 0 0 0) s m args below meth c0 G ad (wM g ad S ct V) 5 (xZ below G ad (wM g ad S ct V) Q args s (xrm 0 0 0)) 54 [(0, .ref (ad (50, 0))), (1, .int (nI j)), (2, .int (optI o)), (3, .int (bI (anyB (fun n => derAt A j n && byO A o n) n))), (4, .int (nI n))] [] ad (wM g ad S ct V) 0 0 := by
        intro hb
        rw [hb] at ih
        refine x_iconst (q := 55) (v := 1) F dX7_hasDerived_54 rfl (by decide) ?_
        refine x_goto F 59 dX7_hasDerived_55 (by decide) ?_
        refine x_istore_n (q := 60) F dX7_hasDerived_59 rfl (by decide) ?_
        refine x_iinc (q := 63) F dX7_hasDerived_60 rfl rfl (nI_1 n) (by decide) ?_
        refine x_goto F 5 dX7_hasDerived_63 (by decide) ?_
        refine x_ls [(0, .ref (ad (50, 0))), (1, .int (nI j)), (2, .int (optI o)), (3, .int (bI true)), (4, .int (nI (n + 1)))] rfl ?_
        exact ih
      have no : (anyB (fun n => derAt A j n && byO A o n) n || (derAt A j n && byO A o n)) = false → xX p l e (xrm 0 0 0) s m args below meth c0 G ad (wM g ad S ct V) 5 (xZ below G ad (wM g ad S ct V) Q args s (xrm 0 0 0)) 58 [(0, .ref (ad (50, 0))), (1, .int (nI j)), (2, .int (optI o)), (3, .int (bI (anyB (fun n => derAt A j n && byO A o n) n))), (4, .int (nI n))] [] ad (wM g ad S ct V) 0 0 := by
        intro hb
        rw [hb] at ih
        refine x_iconst (q := 59) (v := 0) F dX7_hasDerived_58 rfl (by decide) ?_
        refine x_istore_n (q := 60) F dX7_hasDerived_59 rfl (by decide) ?_
        refine x_iinc (q := 63) F dX7_hasDerived_60 rfl rfl (nI_1 n) (by decide) ?_
        refine x_goto F 5 dX7_hasDerived_63 (by decide) ?_
        refine x_ls [(0, .ref (ad (50, 0))), (1, .int (nI j)), (2, .int (optI o)), (3, .int (bI false)), (4, .int (nI (n + 1)))] rfl ?_
        exact ih
      refine x_iload (q := 7) F dX7_hasDerived_5 rfl rfl ?_
      refine x_aload_n (q := 8) F dX7_hasDerived_7 rfl rfl (by first | exact xref_r | exact xref_n | exact xref_f _ | assumption) ?_
      refine x_mget (q := 11) F dX7_hasDerived_8 rfl fs_X7_89 rfl ?_
      refine x_topi r1 ?_
      refine x_icmp_ge (q := 14) F 66 dX7_hasDerived_11 (by decide) rfl (fun c11 => ?_) (fun c11 => ?_)
      · have := (nI_leI (by omega) (by omega)).mp c11; omega
      · refine x_iload_n (q := 15) F dX7_hasDerived_14 rfl rfl ?_
        refine x_if_ne (q := 18) F 54 dX7_hasDerived_15 (by decide) rfl (fun c15 => ?_) (fun c15 => ?_)
        · exact yes (by rw [bI_0 c15]; rfl)
        · have hf := bI_1 c15
          refine x_aload_n (q := 19) F dX7_hasDerived_18 rfl rfl (by first | exact xref_r | exact xref_n | exact xref_f _ | assumption) ?_
          refine x_mget (q := 22) F dX7_hasDerived_19 rfl fs_X7_54 rfl ?_
          refine x_iload (q := 24) F dX7_hasDerived_22 rfl rfl ?_
          refine x_mzld (q := 25) F dX7_hasDerived_24 rfl rfl (by decide) (by decide) rfl (by omega) ?_
          refine x_topi i5 ?_
          refine x_if_ne (q := 28) F 58 dX7_hasDerived_25 (by decide) rfl (fun c25 => ?_) (fun c25 => ?_)
          · refine no ?_
            rw [hf]
            show (!iGn (aItm A n) && _ && _) = false
            rw [bI_0 c25]
            rfl
          · have hg := bI_1 c25
            refine x_aload_n (q := 29) F dX7_hasDerived_28 rfl rfl (by first | exact xref_r | exact xref_n | exact xref_f _ | assumption) ?_
            refine x_mget (q := 32) F dX7_hasDerived_29 rfl fs_X7_48 rfl ?_
            refine x_iload (q := 34) F dX7_hasDerived_32 rfl rfl ?_
            refine x_mild (q := 35) F dX7_hasDerived_34 rfl rfl (by decide) (by decide) rfl (by omega) ?_
            refine x_topi i3 ?_
            refine x_iload_n (q := 36) F dX7_hasDerived_35 rfl rfl ?_
            refine x_icmp_ne (q := 39) F 58 dX7_hasDerived_36 (by decide) rfl (fun c36 => ?_) (fun c36 => ?_)
            · refine no ?_
              have hne : ¬ iFr (aItm A n) = some j := fun z => c36 (by rw [z]; rfl)
              rw [hf]
              show (!iGn (aItm A n) && decide (iFr (aItm A n) = some j) && _) = false
              rw [decide_eq_false hne, Bool.and_false]
              rfl
            · have hfr : iFr (aItm A n) = some j := (optI_inj (fun v hv => by have := hOK.2.2.1 v hv; omega) (fun v hv => by cases hv; omega)).mp (show optI (iFr (aItm A n)) = optI (some j) from c36)
              have hd : derAt A j n = true := by
                show (!iGn (aItm A n) && decide (iFr (aItm A n) = some j)) = true
                rw [hg, decide_eq_true hfr]
                rfl
              refine x_iload_n (q := 40) F dX7_hasDerived_39 rfl rfl ?_
              cases o with
              | none =>
                refine x_if_lt (q := 43) F 54 dX7_hasDerived_40 (by decide) rfl (fun c40 => ?_) (fun c40 => ?_)
                · exact yes (by rw [hd]; exact Bool.or_true _)
                · exact absurd (by decide) c40
              | some sc =>
                have hsc := ho sc rfl
                refine x_if_lt (q := 43) F 54 dX7_hasDerived_40 (by decide) rfl (fun c40 => ?_) (fun c40 => ?_)
                · exact absurd c40 (nI_pos (by omega))
                · refine x_aload_n (q := 44) F dX7_hasDerived_43 rfl rfl (by first | exact xref_r | exact xref_n | exact xref_f _ | assumption) ?_
                  refine x_mget (q := 47) F dX7_hasDerived_44 rfl fs_X7_51 rfl ?_
                  refine x_iload (q := 49) F dX7_hasDerived_47 rfl rfl ?_
                  refine x_mild (q := 50) F dX7_hasDerived_49 rfl rfl (by decide) (by decide) rfl (by omega) ?_
                  refine x_topi i4 ?_
                  refine x_iload_n (q := 51) F dX7_hasDerived_50 rfl rfl ?_
                  refine x_icmp_ne (q := 54) F 58 dX7_hasDerived_51 (by decide) rfl (fun c51 => ?_) (fun c51 => ?_)
                  · refine no ?_
                    have hne : ¬ iBy (aItm A n) = some sc := fun z => c51 (by rw [z])
                    rw [hf, hd]
                    show (false || (true && decide (iBy (aItm A n) = some sc))) = false
                    rw [decide_eq_false hne]
                    rfl
                  · have hby : iBy (aItm A n) = some sc := (optI_inj (fun v hv => by have := hOK.2.2.2.1 v hv; omega) (fun v hv => by cases hv; omega)).mp c51
                    refine yes ?_
                    rw [hd]
                    show (_ || (true && decide (iBy (aItm A n) = some sc))) = true
                    rw [decide_eq_true hby]
                    exact Bool.or_true _
  exact loop (aI A) 0 (by omega)
