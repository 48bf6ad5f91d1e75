/-! ===== ScriptText ===== -/
abbrev cTxt (a b d : Nat) (n k : Nat) : xE := .inr (5, [.ref a, .ref b, .ref d, .int (nI n), .int (nI k)])
/-- the text's world: how many signs, the signs, letters and numbers found, how many commands -/
def wT (g : xH) (ad : xAd) (ns : Nat) (sg lt nu : Nat → Nat) (k : Nat) : xH := xup (xup (xup (xup g (3, 0) (cN 200 sg)) (4, 0) (cN 40 lt)) (5, 0) (cN 40 nu)) (2, 0) (cTxt (ad (3, 0)) (ad (4, 0)) (ad (5, 0)) ns k)
theorem wT_sg (g : xH) (ad : xAd) (ns : Nat) (sg lt nu sg' : Nat → Nat) (k : Nat) : xup (wT g ad ns sg lt nu k) (3, 0) (cN 200 sg') = wT g ad ns sg' lt nu k := by
  unfold wT
  rw [xup_comm _ _ _ (show ((2, 0) : Tg) ≠ (3, 0) by decide), xup_comm _ _ _ (show ((5, 0) : Tg) ≠ (3, 0) by decide), xup_comm _ _ _ (show ((4, 0) : Tg) ≠ (3, 0) by decide), xup_xup]
theorem wT_lt (g : xH) (ad : xAd) (ns : Nat) (sg lt nu lt' : Nat → Nat) (k : Nat) : xup (wT g ad ns sg lt nu k) (4, 0) (cN 40 lt') = wT g ad ns sg lt' nu k := by
  unfold wT
  rw [xup_comm _ _ _ (show ((2, 0) : Tg) ≠ (4, 0) by decide), xup_comm _ _ _ (show ((5, 0) : Tg) ≠ (4, 0) by decide), xup_xup]
theorem wT_nu (g : xH) (ad : xAd) (ns : Nat) (sg lt nu nu' : Nat → Nat) (k : Nat) : xup (wT g ad ns sg lt nu k) (5, 0) (cN 40 nu') = wT g ad ns sg lt nu' k := by
  unfold wT
  rw [xup_comm _ _ _ (show ((2, 0) : Tg) ≠ (5, 0) by decide), xup_xup]
def s_txtAdd : xSp := fun ad h av Q => ∃ g ns sg lt nu k c, h = wT g ad ns sg lt nu k ∧ av = [.ref (ad (2, 0)), .int (nI c)] ∧ ns ≤ 200 ∧ c < 256 ∧ Q none ad (if ns < 200 then wT g ad (ns + 1) (updN sg ns c) lt nu k else wT g ad ns sg lt nu k)
set_option maxRecDepth 100000 in
theorem c_X5_add : Ct yX5_add cX5_add 2 none (xrm 0 0 0) s_txtAdd := by
  refine Ct.of (by decide) ?_
  intro p l e s m args below meth c0 G ad h av Q F hsp
  obtain ⟨g, ns, sg, lt, nu, k, c, rfl, rfl, hns, hc, hQ⟩ := hsp
  refine ⟨x_ent rfl rfl, ?_⟩
  refine x_ls [(0, .ref (ad (2, 0))), (1, .int (nI c))] rfl ?_
  refine x_aload_n (q := 1) F dX5_add_0 rfl rfl (by first | exact xref_r | exact xref_n | exact xref_f _ | assumption) ?_
  refine x_get (q := 4) F dX5_add_1 rfl fs_X5_21 rfl rfl ?_
  refine x_sipush (q := 7) (v := 200) F dX5_add_4 rfl (by decide) ?_
  refine x_icmp_ge (q := 10) F 30 dX5_add_7 (by decide) rfl (fun c7 => ?_) (fun c7 => ?_)
  · rw [if_neg (by have := (nI_leI (a := 200) (b := ns) (by omega) (by omega)).mp c7; omega)] at hQ
    refine x_vret F dX5_add_30 (xle rfl) (xle rfl) ?_
    exact hQ
  · have hlt : ns < 200 := by
      rcases Nat.lt_or_ge ns 200 with q | q
      · exact q
      · exact absurd ((nI_leI (a := 200) (b := ns) (by omega) (by omega)).mpr q) c7
    rw [if_pos hlt] at hQ
    refine x_aload_n (q := 11) F dX5_add_10 rfl rfl (by first | exact xref_r | exact xref_n | exact xref_f _ | assumption) ?_
    refine x_get (q := 14) F dX5_add_11 rfl fs_X5_9 rfl rfl ?_
    refine x_aload_n (q := 15) F dX5_add_14 rfl rfl (by first | exact xref_r | exact xref_n | exact xref_f _ | assumption) ?_
    refine x_get (q := 18) F dX5_add_15 rfl fs_X5_21 rfl rfl ?_
    refine x_iload_n (q := 19) F dX5_add_18 rfl rfl ?_
    refine x_iast (q := 20) F dX5_add_19 rfl rfl rfl (by omega) (by omega) ?_
    rw [upd_N]
    refine x_h (wT_sg _ _ _ _ _ _ _ _) ?_
    refine x_aload_n (q := 21) F dX5_add_20 rfl rfl (by first | exact xref_r | exact xref_n | exact xref_f _ | assumption) ?_
    refine x_dup (q := 22) F dX5_add_21 rfl rfl ?_
    refine x_get (q := 25) F dX5_add_22 rfl fs_X5_21 rfl rfl ?_
    refine x_iconst (q := 26) (v := 1) F dX5_add_25 rfl (by decide) ?_
    refine x_iadd (q := 27) F dX5_add_26 rfl ?_
    refine x_topi (nI_1 ns) ?_
    refine x_put (q := 30) F dX5_add_27 rfl fs_X5_21 rfl (xle rfl) rfl rfl ?_
    refine x_h (h2 := wT g ad (ns + 1) (updN sg ns c) lt nu k) (xup_xup _ _ _ _) ?_
    refine x_vret F dX5_add_30 (xle rfl) (xle rfl) ?_
    exact hQ
def s_txtClear : xSp := fun ad h av Q => ∃ g ns sg lt nu k, h = wT g ad ns sg lt nu k ∧ av = [.ref (ad (2, 0))] ∧ Q none ad (wT g ad 0 sg lt nu k)
set_option maxRecDepth 100000 in
theorem c_X5_clear : Ct yX5_clear cX5_clear 1 none (xrm 0 0 0) s_txtClear := by
  refine Ct.of (by decide) ?_
  intro p l e s m args below meth c0 G ad h av Q F hsp
  obtain ⟨g, ns, sg, lt, nu, k, rfl, rfl, hQ⟩ := hsp
  refine ⟨x_ent rfl rfl, ?_⟩
  refine x_aload_n (q := 1) F dX5_clear_0 rfl rfl (by first | exact xref_r | exact xref_n | exact xref_f _ | assumption) ?_
  refine x_iconst (q := 2) (v := 0) F dX5_clear_1 rfl (by decide) ?_
  refine x_put (q := 5) F dX5_clear_2 rfl fs_X5_21 rfl (xle rfl) rfl rfl ?_
  refine x_h (h2 := wT g ad 0 sg lt nu k) (xup_xup _ _ _ _) ?_
  refine x_vret F dX5_clear_5 (xle rfl) (xle rfl) ?_
  exact hQ
/-- the sign at a place -/
def sgn (ns : Nat) (sg : Nat → Nat) (i : Nat) : Option Nat := if i < ns then some (sg i) else none
theorem sgn_lt {ns : Nat} {sg : Nat → Nat} (h : ∀ j, j < ns → sg j < 256) {i v : Nat} (hv : sgn ns sg i = some v) : v < 256 := by
  unfold sgn at hv
  by_cases q : i < ns
  · rw [if_pos q] at hv; cases hv; exact h i q
  · rw [if_neg q] at hv; cases hv
def s_signAt : xSp := fun ad h av Q => ∃ g ns sg lt nu k i, h = wT g ad ns sg lt nu k ∧ av = [.ref (ad (2, 0)), .int (nI i)] ∧ ns ≤ 200 ∧ i < 10000 ∧ Q (some (.int (optI (sgn ns sg i)))) ad h
set_option maxRecDepth 100000 in
theorem c_X5_signAt : Ct yX5_signAt cX5_signAt 2 (some .int) (xrm 0 0 0) s_signAt := by
  refine Ct.of (by decide) ?_
  intro p l e s m args below meth c0 G ad h av Q F hsp
  obtain ⟨g, ns, sg, lt, nu, k, i, rfl, rfl, hns, hi, hQ⟩ := hsp
  refine ⟨x_ent rfl rfl, ?_⟩
  refine x_ls [(0, .ref (ad (2, 0))), (1, .int (nI i))] rfl ?_
  refine x_iload_n (q := 1) F dX5_signAt_0 rfl rfl ?_
  refine x_if_lt (q := 4) F 28 dX5_signAt_1 (by decide) rfl (fun c1 => ?_) (fun c1 => ?_)
  · exact absurd c1 (nI_pos (by omega))
  · refine x_iload_n (q := 5) F dX5_signAt_4 rfl rfl ?_
    refine x_aload_n (q := 6) F dX5_signAt_5 rfl rfl (by first | exact xref_r | exact xref_n | exact xref_f _ | assumption) ?_
    refine x_get (q := 9) F dX5_signAt_6 rfl fs_X5_21 rfl rfl ?_
    refine x_icmp_ge (q := 12) F 28 dX5_signAt_9 (by decide) rfl (fun c9 => ?_) (fun c9 => ?_)
    · have hge := (nI_leI (by omega) (by omega)).mp c9
      rw [sgn, if_neg (by omega)] at hQ
      refine x_iconst (q := 29) (v := -1) F dX5_signAt_28 rfl (by decide) ?_
      refine x_iret F dX5_signAt_29 (xle rfl) (xle rfl) ?_
      exact hQ
    · have hlt : i < ns := by
        rcases Nat.lt_or_ge i ns with q | q
        · exact q
        · exact absurd ((nI_leI (by omega) (by omega)).mpr q) c9
      rw [sgn, if_pos hlt] at hQ
      refine x_iload_n (q := 13) F dX5_signAt_12 rfl rfl ?_
      refine x_sipush (q := 16) (v := 200) F dX5_signAt_13 rfl (by decide) ?_
      refine x_icmp_ge (q := 19) F 28 dX5_signAt_16 (by decide) rfl (fun c16 => ?_) (fun c16 => ?_)
      · exact absurd ((nI_leI (a := 200) (b := i) (by omega) (by omega)).mp c16) (by omega)
      · refine x_aload_n (q := 20) F dX5_signAt_19 rfl rfl (by first | exact xref_r | exact xref_n | exact xref_f _ | assumption) ?_
        refine x_get (q := 23) F dX5_signAt_20 rfl fs_X5_9 rfl rfl ?_
        refine x_iload_n (q := 24) F dX5_signAt_23 rfl rfl ?_
        refine x_iald (q := 25) F dX5_signAt_24 rfl rfl rfl (by omega) (by omega) ?_
        refine x_goto F 29 dX5_signAt_25 (by decide) ?_
        refine x_iret F dX5_signAt_29 (xle rfl) (xle rfl) ?_
        exact hQ
def isDig (o : Option Nat) : Bool := match o with
  | none => false
  | some c => decide (48 ≤ c ∧ c ≤ 57)
def s_isDigit : xSp := fun ad h av Q => ∃ o : Option Nat, av = [.int (optI o)] ∧ (∀ v, o = some v → v < 256) ∧ Q (some (.int (bI (isDig o)))) ad h
set_option maxRecDepth 100000 in
theorem c_X5_isDigit : Ct yX5_isDigit cX5_isDigit 1 (some .boolean) (xrm 0 0 0) s_isDigit := by
  refine Ct.of (by decide) ?_
  intro p l e s m args below meth c0 G ad h av Q F hsp
  obtain ⟨o, rfl, ho, hQ⟩ := hsp
  refine ⟨x_ent rfl rfl, ?_⟩
  refine x_ls [(0, .int (optI o))] rfl ?_
  refine x_iload_n (q := 1) F dX5_isDigit_0 rfl rfl ?_
  refine x_bipush (q := 3) (v := 48) F dX5_isDigit_1 rfl (by decide) ?_
  cases o with
  | none =>
    refine x_icmp_lt (q := 6) F 16 dX5_isDigit_3 (by decide) rfl (fun c3 => ?_) (fun c3 => ?_)
    · refine x_iconst (q := 17) (v := 0) F dX5_isDigit_16 rfl (by decide) ?_
      refine x_zret F dX5_isDigit_17 (xle rfl) (xle rfl) (by first | exact Or.inl rfl | exact Or.inr rfl) ?_
      exact hQ
    · exact absurd (by decide) c3
  | some c =>
    have hc : c < 256 := ho c rfl
    have hQ : Q (some (.int (bI (decide (48 ≤ c ∧ c ≤ 57))))) ad h := hQ
    refine x_icmp_lt (q := 6) F 16 dX5_isDigit_3 (by decide) rfl (fun c3 => ?_) (fun c3 => ?_)
    · have hz : ¬ (48 ≤ c ∧ c ≤ 57) := by have := (nI_ltI (a := c) (b := 48) (by omega) (by omega)).mp c3; omega
      rw [decide_eq_false hz] at hQ
      refine x_iconst (q := 17) (v := 0) F dX5_isDigit_16 rfl (by decide) ?_
      refine x_zret F dX5_isDigit_17 (xle rfl) (xle rfl) (by first | exact Or.inl rfl | exact Or.inr rfl) ?_
      exact hQ
    · have h48 : 48 ≤ c := by
        rcases Nat.lt_or_ge c 48 with q | q
        · exact absurd ((nI_ltI (a := c) (b := 48) (by omega) (by omega)).mpr q) c3
        · exact q
      refine x_iload_n (q := 7) F dX5_isDigit_6 rfl rfl ?_
      refine x_bipush (q := 9) (v := 57) F dX5_isDigit_7 rfl (by decide) ?_
      refine x_icmp_gt (q := 12) F 16 dX5_isDigit_9 (by decide) rfl (fun c9 => ?_) (fun c9 => ?_)
      · have hz : ¬ (48 ≤ c ∧ c ≤ 57) := by have := (nI_ltI (a := 57) (b := c) (by omega) (by omega)).mp c9; omega
        rw [decide_eq_false hz] at hQ
        refine x_iconst (q := 17) (v := 0) F dX5_isDigit_16 rfl (by decide) ?_
        refine x_zret F dX5_isDigit_17 (xle rfl) (xle rfl) (by first | exact Or.inl rfl | exact Or.inr rfl) ?_
        exact hQ
      · have hz : 48 ≤ c ∧ c ≤ 57 := by
          refine ⟨h48, ?_⟩
          rcases Nat.lt_or_ge 57 c with q | q
          · exact absurd ((nI_ltI (a := 57) (b := c) (by omega) (by omega)).mpr q) c9
          · exact q
        rw [decide_eq_true hz] at hQ
        refine x_iconst (q := 13) (v := 1) F dX5_isDigit_12 rfl (by decide) ?_
        refine x_goto F 17 dX5_isDigit_13 (by decide) ?_
        refine x_zret F dX5_isDigit_17 (xle rfl) (xle rfl) (by first | exact Or.inl rfl | exact Or.inr rfl) ?_
        exact hQ
/-- how many digits stand from i on, d of them seen, f more at most -/
def digK (s : Nat → Option Nat) (i : Nat) : Nat → Nat → Nat
  | 0, d => d
  | f + 1, d => if isDig (s (i + d)) = true then digK s i f (d + 1) else d
def digN (s : Nat → Option Nat) (i : Nat) : Nat := digK s i 3 0
theorem digK_le (s : Nat → Option Nat) (i : Nat) : ∀ f d, digK s i f d ≤ d + f := by
  intro f
  induction f with
  | zero => intro d; exact Nat.le_refl _
  | succ f ih =>
    intro d
    unfold digK
    by_cases q : isDig (s (i + d)) = true
    · rw [if_pos q]; have := ih (d + 1); omega
    · rw [if_neg q]; omega
theorem digK_dig (s : Nat → Option Nat) (i : Nat) : ∀ f d, (∀ j, j < d → isDig (s (i + j)) = true) → ∀ j, j < digK s i f d → isDig (s (i + j)) = true := by
  intro f
  induction f with
  | zero => intro d h; exact h
  | succ f ih =>
    intro d h
    unfold digK
    by_cases q : isDig (s (i + d)) = true
    · rw [if_pos q]
      refine ih (d + 1) (fun j hj => ?_)
      by_cases z : j = d
      · rw [z]; exact q
      · exact h j (by omega)
    · rw [if_neg q]; exact h
theorem digN_dig (s : Nat → Option Nat) (i : Nat) : ∀ j, j < digN s i → isDig (s (i + j)) = true := digK_dig s i 3 0 (fun j hj => absurd hj (Nat.not_lt_zero j))
theorem digN_le (s : Nat → Option Nat) (i : Nat) : digN s i ≤ 3 := by have := digK_le s i 3 0; unfold digN; omega
def s_digitsFrom : xSp := fun ad h av Q => ∃ g ns sg lt nu k i, h = wT g ad ns sg lt nu k ∧ av = [.ref (ad (2, 0)), .int (nI i)] ∧ ns ≤ 200 ∧ (∀ j, j < ns → sg j < 256) ∧ i < 1000 ∧ Q (some (.int (nI (digN (sgn ns sg) i)))) ad h
set_option maxRecDepth 100000 in
theorem c_X5_digitsFrom : Ct yX5_digitsFrom cX5_digitsFrom 3 (some .int) (xrm 1 0 0) s_digitsFrom := by
  refine Ct.of (by decide) ?_
  intro p l e s m args below meth c0 G ad h av Q F hsp
  obtain ⟨g, ns, sg, lt, nu, k, i, rfl, rfl, hns, hsg, hi, hQ⟩ := hsp
  refine ⟨x_ent rfl rfl, ?_⟩
  have loop : ∀ f d : Nat, d + f = 3 → digK (sgn ns sg) i f d = digN (sgn ns sg) i → xX p l e (xrm 1 0 0) s m args below meth c0 G ad (wT g ad ns sg lt nu k) 3 (xZ below G ad (wT g ad ns sg lt nu k) Q args s (xrm 1 0 0)) 2 [(0, .ref (ad (2, 0))), (1, .int (nI i)), (2, .int (nI d))] [] ad (wT g ad ns sg lt nu k) 0 0 := by
    intro f
    induction f with
    | zero =>
      intro d hd he
      refine x_iload_n (q := 3) F dX5_digitsFrom_2 rfl rfl ?_
      refine x_iconst (q := 4) (v := 3) F dX5_digitsFrom_3 rfl (by decide) ?_
      refine x_icmp_ge (q := 7) F 26 dX5_digitsFrom_4 (by decide) rfl (fun c4 => ?_) (fun c4 => ?_)
      · refine x_iload_n (q := 27) F dX5_digitsFrom_26 rfl rfl ?_
        refine x_iret F dX5_digitsFrom_27 (xle rfl) (xle rfl) ?_
        rw [← he] at hQ
        exact hQ
      · exact absurd ((nI_leI (a := 3) (b := d) (by omega) (by omega)).mpr (by omega)) c4
    | succ f ih =>
      intro d hd he
      refine x_iload_n (q := 3) F dX5_digitsFrom_2 rfl rfl ?_
      refine x_iconst (q := 4) (v := 3) F dX5_digitsFrom_3 rfl (by decide) ?_
      refine x_icmp_ge (q := 7) F 26 dX5_digitsFrom_4 (by decide) rfl (fun c4 => ?_) (fun c4 => ?_)
      · exact absurd ((nI_leI (a := 3) (b := d) (by omega) (by omega)).mp c4) (by omega)
      · refine x_aload_n (q := 8) F dX5_digitsFrom_7 rfl rfl (by first | exact xref_r | exact xref_n | exact xref_f _ | assumption) ?_
        refine x_iload_n (q := 9) F dX5_digitsFrom_8 rfl rfl ?_
        refine x_iload_n (q := 10) F dX5_digitsFrom_9 rfl rfl ?_
        refine x_iadd (q := 11) F dX5_digitsFrom_10 rfl ?_
        rw [nI_add]
        refine x_callV1 (q := 14) F (2, 0) c_X5_signAt dX5_digitsFrom_11 rfl mv_X5_signAt ml_X5_48 ⟨⟨xle rfl, xle rfl⟩, xle rfl, xle rfl⟩ rfl rfl (xle rfl) ?_
        refine ⟨g, ns, sg, lt, nu, k, i + d, rfl, rfl, hns, by omega, fun _ => ?_⟩
        refine x_callS1 (q := 17) F c_X5_isDigit dX5_digitsFrom_14 rfl ms_X5_isDigit ml_X5_62 ⟨⟨xle rfl, xle rfl⟩, xle rfl, xle rfl⟩ (xle rfl) ?_
        refine ⟨sgn ns sg (i + d), rfl, fun v hv => sgn_lt hsg hv, fun _ => ?_⟩
        cases hz : isDig (sgn ns sg (i + d)) with
        | true =>
          rw [digK, if_pos hz] at he
          refine x_if_eq (q := 20) F 26 dX5_digitsFrom_17 (by decide) rfl (fun c17 => ?_) (fun c17 => ?_)
          · exact absurd c17 (by decide)
          · refine x_iinc (q := 23) F dX5_digitsFrom_20 rfl rfl (nI_1 d) (by decide) ?_
            refine x_goto F 2 dX5_digitsFrom_23 (by decide) ?_
            refine x_ls [(0, .ref (ad (2, 0))), (1, .int (nI i)), (2, .int (nI (d + 1)))] rfl ?_
            exact ih (d + 1) (by omega) he
        | false =>
          rw [digK, if_neg (by rw [hz]; decide)] at he
          refine x_if_eq (q := 20) F 26 dX5_digitsFrom_17 (by decide) rfl (fun c17 => ?_) (fun c17 => ?_)
          · refine x_iload_n (q := 27) F dX5_digitsFrom_26 rfl rfl ?_
            refine x_iret F dX5_digitsFrom_27 (xle rfl) (xle rfl) ?_
            rw [← he] at hQ
            exact hQ
          · exact absurd rfl c17
  refine x_ls [(0, .ref (ad (2, 0))), (1, .int (nI i))] rfl ?_
  refine x_iconst (q := 1) (v := 0) F dX5_digitsFrom_0 rfl (by decide) ?_
  refine x_istore_n (q := 2) F dX5_digitsFrom_1 rfl (by decide) ?_
  refine x_ls [(0, .ref (ad (2, 0))), (1, .int (nI i)), (2, .int (nI 0))] rfl ?_
  exact loop 3 0 rfl rfl
/-- the number of d digits from i on -/
def numN (s : Nat → Option Nat) (i : Nat) : Nat → Nat
  | 0 => 0
  | d + 1 => numN s i d * 10 + ((s (i + d)).getD 48 - 48)
theorem isDig_c {o : Option Nat} (h : isDig o = true) : ∃ c, o = some c ∧ 48 ≤ c ∧ c ≤ 57 := by
  cases o with
  | none => cases h
  | some c => exact ⟨c, rfl, of_decide_eq_true h⟩
theorem numN_lt (s : Nat → Option Nat) (i : Nat) : ∀ d, (∀ j, j < d → isDig (s (i + j)) = true) → numN s i d + 1 ≤ 10 ^ d := by
  intro d
  induction d with
  | zero => intro _; exact Nat.le_refl _
  | succ d ih =>
    intro h
    obtain ⟨c, hc, h1, h2⟩ := isDig_c (h d (by omega))
    have h3 := ih (fun j hj => h j (by omega))
    show numN s i d * 10 + ((s (i + d)).getD 48 - 48) + 1 ≤ 10 ^ d * 10
    rw [hc]
    show numN s i d * 10 + (c - 48) + 1 ≤ 10 ^ d * 10
    omega
theorem numN_999 (s : Nat → Option Nat) (i : Nat) : numN s i (digN s i) < 1000 := by
  have h1 := numN_lt s i (digN s i) (digN_dig s i)
  have h2 := digN_le s i
  have h3 : 10 ^ (digN s i) ≤ 10 ^ 3 := Nat.pow_le_pow_right (by omega) h2
  omega
def s_numberFrom : xSp := fun ad h av Q => ∃ g ns sg lt nu k i d, h = wT g ad ns sg lt nu k ∧ av = [.ref (ad (2, 0)), .int (nI i), .int (nI d)] ∧ ns ≤ 200 ∧ (∀ j, j < ns → sg j < 256) ∧ i < 1000 ∧ d ≤ 3 ∧ (∀ j, j < d → isDig (sgn ns sg (i + j)) = true) ∧ Q (some (.int (nI (numN (sgn ns sg) i d)))) ad h
set_option maxRecDepth 100000 in
theorem c_X5_numberFrom : Ct yX5_numberFrom cX5_numberFrom 5 (some .int) (xrm 1 0 0) s_numberFrom := by
  refine Ct.of (by decide) ?_
  intro p l e s m args below meth c0 G ad h av Q F hsp
  obtain ⟨g, ns, sg, lt, nu, k, i, d, rfl, rfl, hns, hsg, hi, hd3, hdig, hQ⟩ := hsp
  refine ⟨x_ent rfl rfl, ?_⟩
  have loop : ∀ j : Nat, j ≤ d → xX p l e (xrm 1 0 0) s m args below meth c0 G ad (wT g ad ns sg lt nu k) 5 (xZ below G ad (wT g ad ns sg lt nu k) Q args s (xrm 1 0 0)) 5 [(0, .ref (ad (2, 0))), (1, .int (nI i)), (2, .int (nI d)), (3, .int (nI (numN (sgn ns sg) i j))), (4, .int (nI j))] [] ad (wT g ad ns sg lt nu k) 0 0 := by
    intro j
    induction hd : d - j using Nat.strongRecOn generalizing j with
    | ind z ih =>
      intro hj
      refine x_iload (q := 7) F dX5_numberFrom_5 rfl rfl ?_
      refine x_iload_n (q := 8) F dX5_numberFrom_7 rfl rfl ?_
      refine x_icmp_ge (q := 11) F 34 dX5_numberFrom_8 (by decide) rfl (fun c8 => ?_) (fun c8 => ?_)
      · have : j = d := by have := (nI_leI (by omega) (by omega)).mp c8; omega
        subst this
        refine x_iload_n (q := 35) F dX5_numberFrom_34 rfl rfl ?_
        refine x_iret F dX5_numberFrom_35 (xle rfl) (xle rfl) ?_
        exact hQ
      · have hlt : j < d := by
          rcases Nat.lt_or_ge j d with q | q
          · exact q
          · exact absurd ((nI_leI (by omega) (by omega)).mpr q) c8
        refine x_iload_n (q := 12) F dX5_numberFrom_11 rfl rfl ?_
        refine x_bipush (q := 14) (v := 10) F dX5_numberFrom_12 rfl (by decide) ?_
        refine x_imul (q := 15) F dX5_numberFrom_14 rfl ?_
        refine x_aload_n (q := 16) F dX5_numberFrom_15 rfl rfl (by first | exact xref_r | exact xref_n | exact xref_f _ | assumption) ?_
        refine x_iload_n (q := 17) F dX5_numberFrom_16 rfl rfl ?_
        refine x_iload (q := 19) F dX5_numberFrom_17 rfl rfl ?_
        refine x_iadd (q := 20) F dX5_numberFrom_19 rfl ?_
        rw [nI_add]
        refine x_callV1 (q := 23) F (2, 0) c_X5_signAt dX5_numberFrom_20 rfl mv_X5_signAt ml_X5_48 ⟨⟨xle rfl, xle rfl⟩, xle rfl, xle rfl⟩ rfl rfl (xle rfl) ?_
        refine ⟨g, ns, sg, lt, nu, k, i + j, rfl, rfl, hns, by omega, fun _ => ?_⟩
        obtain ⟨c, hc, h1, h2⟩ := isDig_c (hdig j hlt)
        rw [hc]
        refine x_bipush (q := 25) (v := 48) F dX5_numberFrom_23 rfl (by decide) ?_
        refine x_isub (q := 26) F dX5_numberFrom_25 rfl ?_
        refine x_iadd (q := 27) F dX5_numberFrom_26 rfl ?_
        refine x_topi (y := nI (numN (sgn ns sg) i (j + 1))) ?_ ?_
        · show nI (numN (sgn ns sg) i j) * nI 10 + (nI c - nI 48) = nI (numN (sgn ns sg) i j * 10 + ((sgn ns sg (i + j)).getD 48 - 48))
          rw [pk_mul, pk_sub h1, nI_add, hc]
          rfl
        refine x_istore_n (q := 28) F dX5_numberFrom_27 rfl (by decide) ?_
        refine x_iinc (q := 31) F dX5_numberFrom_28 rfl rfl (nI_1 j) (by decide) ?_
        refine x_goto F 5 dX5_numberFrom_31 (by decide) ?_
        refine x_ls [(0, .ref (ad (2, 0))), (1, .int (nI i)), (2, .int (nI d)), (3, .int (nI (numN (sgn ns sg) i (j + 1)))), (4, .int (nI (j + 1)))] rfl ?_
        exact ih (d - (j + 1)) (by omega) (j + 1) rfl (by omega)
  refine x_ls [(0, .ref (ad (2, 0))), (1, .int (nI i)), (2, .int (nI d))] rfl ?_
  refine x_iconst (q := 1) (v := 0) F dX5_numberFrom_0 rfl (by decide) ?_
  refine x_istore_n (q := 2) F dX5_numberFrom_1 rfl (by decide) ?_
  refine x_iconst (q := 3) (v := 0) F dX5_numberFrom_2 rfl (by decide) ?_
  refine x_istore (q := 5) F dX5_numberFrom_3 rfl (by decide) ?_
  refine x_ls [(0, .ref (ad (2, 0))), (1, .int (nI i)), (2, .int (nI d)), (3, .int (nI (numN (sgn ns sg) i 0))), (4, .int (nI 0))] rfl ?_
  exact loop 0 (Nat.zero_le _)
/-- the text read: where it is wrong, how many commands, their letters and numbers -/
def parseF (s : Nat → Option Nat) (ns : Nat) : Nat → Nat → Nat → (Nat → Nat) → (Nat → Nat) → Option Nat × Nat × (Nat → Nat) × (Nat → Nat)
  | 0, k, i, lt, nu => (some i, k, lt, nu)
  | f + 1, k, i, lt, nu => match s i with
    | none => (some i, k, lt, nu)
    | some c => if c ∈ L14 then
        (if digN s (i + 1) = 0 ∨ 255 < numN s (i + 1) (digN s (i + 1)) then (some (i + 1), k, lt, nu)
        else if ns ≤ i + 1 + digN s (i + 1) then (none, k + 1, updN lt k c, updN nu k (numN s (i + 1) (digN s (i + 1))))
        else if s (i + 1 + digN s (i + 1)) = some 32 then parseF s ns f (k + 1) (i + 1 + digN s (i + 1) + 1) (updN lt k c) (updN nu k (numN s (i + 1) (digN s (i + 1))))
        else (some (i + 1 + digN s (i + 1)), k + 1, updN lt k c, updN nu k (numN s (i + 1) (digN s (i + 1)))))
      else (some i, k, lt, nu)
theorem parseF_s {s : Nat → Option Nat} {ns f k i c : Nat} {lt nu : Nat → Nat} (hs : s i = some c) (hL : c ∈ L14) : parseF s ns (f + 1) k i lt nu =
        (if digN s (i + 1) = 0 ∨ 255 < numN s (i + 1) (digN s (i + 1)) then (some (i + 1), k, lt, nu)
        else if ns ≤ i + 1 + digN s (i + 1) then (none, k + 1, updN lt k c, updN nu k (numN s (i + 1) (digN s (i + 1))))
        else if s (i + 1 + digN s (i + 1)) = some 32 then parseF s ns f (k + 1) (i + 1 + digN s (i + 1) + 1) (updN lt k c) (updN nu k (numN s (i + 1) (digN s (i + 1))))
        else (some (i + 1 + digN s (i + 1)), k + 1, updN lt k c, updN nu k (numN s (i + 1) (digN s (i + 1))))) := by
  rw [parseF, hs]
  exact if_pos hL
def s_parse : xSp := fun ad h av Q => ∃ g ns sg lt nu k, h = wT g ad ns sg lt nu k ∧ av = [.ref (ad (2, 0))] ∧ ns ≤ 200 ∧ (∀ j, j < ns → sg j < 256) ∧
  Q (some (.int (optI (parseF (sgn ns sg) ns 40 0 0 lt nu).1))) ad (wT g ad ns sg (parseF (sgn ns sg) ns 40 0 0 lt nu).2.2.1 (parseF (sgn ns sg) ns 40 0 0 lt nu).2.2.2 (parseF (sgn ns sg) ns 40 0 0 lt nu).2.1)
set_option maxRecDepth 100000 in
set_option maxHeartbeats 4000000 in
theorem c_X5_parse : Ct yX5_parse cX5_parse 5 (some .int) (xrm 5 0 0) s_parse := by
  refine Ct.of (by decide) ?_
  intro p l e s m args below meth c0 G ad h av Q F hsp
  obtain ⟨g, ns, sg, lt0, nu0, k0, rfl, rfl, hns, hsg, hQ⟩ := hsp
  refine ⟨x_ent rfl rfl, ?_⟩
  generalize hh0 : wT g ad ns sg lt0 nu0 k0 = h0 at F ⊢
  have loop : ∀ (f k i : Nat) (lt nu : Nat → Nat), k + f = 40 → i ≤ ns → parseF (sgn ns sg) ns f k i lt nu = parseF (sgn ns sg) ns 40 0 0 lt0 nu0 →
      xX p l e (xrm 5 0 0) s m args below meth c0 G ad h0 5 (xZ below G ad h0 Q args s (xrm 5 0 0)) 7 [(0, .ref (ad (2, 0))), (1, .int (nI i))] [] ad (wT g ad ns sg lt nu k) 0 0 := by
    intro f
    induction f with
    | zero =>
      intro k i lt nu hk hi he
      refine x_aload_n (q := 8) F dX5_parse_7 rfl rfl (by first | exact xref_r | exact xref_n | exact xref_f _ | assumption) ?_
      refine x_get (q := 11) F dX5_parse_8 rfl fs_X5_25 rfl rfl ?_
      refine x_bipush (q := 13) (v := 40) F dX5_parse_11 rfl (by decide) ?_
      refine x_icmp_ge (q := 16) F 130 dX5_parse_13 (by decide) rfl (fun c13 => ?_) (fun c13 => ?_)
      · refine x_iload_n (q := 131) F dX5_parse_130 rfl rfl ?_
        refine x_iret F dX5_parse_131 (xle rfl) (xle rfl) ?_
        rw [← he] at hQ
        exact hQ
      · exact absurd ((nI_leI (a := 40) (b := k) (by omega) (by omega)).mpr (by omega)) c13
    | succ f ih =>
      intro k i lt nu hk hi he
      refine x_aload_n (q := 8) F dX5_parse_7 rfl rfl (by first | exact xref_r | exact xref_n | exact xref_f _ | assumption) ?_
      refine x_get (q := 11) F dX5_parse_8 rfl fs_X5_25 rfl rfl ?_
      refine x_bipush (q := 13) (v := 40) F dX5_parse_11 rfl (by decide) ?_
      refine x_icmp_ge (q := 16) F 130 dX5_parse_13 (by decide) rfl (fun c13 => ?_) (fun c13 => ?_)
      · exact absurd ((nI_leI (a := 40) (b := k) (by omega) (by omega)).mp c13) (by omega)
      · refine x_aload_n (q := 17) F dX5_parse_16 rfl rfl (by first | exact xref_r | exact xref_n | exact xref_f _ | assumption) ?_
        refine x_iload_n (q := 18) F dX5_parse_17 rfl rfl ?_
        refine x_callV1 (q := 21) F (2, 0) c_X5_signAt dX5_parse_18 rfl mv_X5_signAt ml_X5_48 ⟨⟨xle rfl, xle rfl⟩, xle rfl, xle rfl⟩ rfl rfl (xle rfl) ?_
        refine ⟨g, ns, sg, lt, nu, k, i, rfl, rfl, hns, by omega, fun _ => ?_⟩
        refine x_istore_n (q := 22) F dX5_parse_21 rfl (by decide) ?_
        refine x_iload_n (q := 23) F dX5_parse_22 rfl rfl ?_
        refine x_callS1 (q := 26) F c_X5_isLetter dX5_parse_23 rfl ms_X5_isLetter ml_X5_52 ⟨⟨xle rfl, xle rfl⟩, xle rfl, xle rfl⟩ (xle rfl) ?_
        refine ⟨sgn ns sg i, rfl, fun v hv => sgn_lt hsg hv, fun _ => ?_⟩
        cases hs : sgn ns sg i with
        | none =>
          have hE : parseF (sgn ns sg) ns (f + 1) k i lt nu = (some i, k, lt, nu) := by rw [parseF, hs]
          rw [← he, hE] at hQ
          refine x_if_ne (q := 29) F 31 dX5_parse_26 (by decide) rfl (fun c26 => ?_) (fun c26 => ?_)
          · exact absurd rfl c26
          · refine x_iload_n (q := 30) F dX5_parse_29 rfl rfl ?_
            refine x_iret F dX5_parse_30 (xle rfl) (xle rfl) ?_
            exact hQ
        | some c =>
          have hcl : c < 256 := sgn_lt hsg hs
          by_cases hL : c ∈ L14
          · rw [show isLet (some c) = true from decide_eq_true hL]
            refine x_if_ne (q := 29) F 31 dX5_parse_26 (by decide) rfl (fun c26 => ?_) (fun c26 => ?_)
            · refine x_aload_n (q := 32) F dX5_parse_31 rfl rfl (by first | exact xref_r | exact xref_n | exact xref_f _ | assumption) ?_
              refine x_iload_n (q := 33) F dX5_parse_32 rfl rfl ?_
              refine x_iconst (q := 34) (v := 1) F dX5_parse_33 rfl (by decide) ?_
              refine x_iadd (q := 35) F dX5_parse_34 rfl ?_
              refine x_topi (nI_1 i) ?_
              refine x_callV1 (q := 38) F (2, 0) c_X5_digitsFrom dX5_parse_35 rfl mv_X5_digitsFrom ml_X5_56 ⟨⟨xle rfl, xle rfl⟩, xle rfl, xle rfl⟩ rfl rfl (xle rfl) ?_
              refine ⟨g, ns, sg, lt, nu, k, i + 1, rfl, rfl, hns, hsg, by omega, fun _ => ?_⟩
              have hd3 := digN_le (sgn ns sg) (i + 1)
              have hv := numN_999 (sgn ns sg) (i + 1)
              have hdg := digN_dig (sgn ns sg) (i + 1)
              have hE := parseF_s (s := sgn ns sg) (ns := ns) (f := f) (k := k) (lt := lt) (nu := nu) hs hL
              generalize digN (sgn ns sg) (i + 1) = d at hd3 hv hdg hE ⊢
              generalize hvv : numN (sgn ns sg) (i + 1) d = v at hv hE ⊢
              refine x_istore_n (q := 39) F dX5_parse_38 rfl (by decide) ?_
              refine x_aload_n (q := 40) F dX5_parse_39 rfl rfl (by first | exact xref_r | exact xref_n | exact xref_f _ | assumption) ?_
              refine x_iload_n (q := 41) F dX5_parse_40 rfl rfl ?_
              refine x_iconst (q := 42) (v := 1) F dX5_parse_41 rfl (by decide) ?_
              refine x_iadd (q := 43) F dX5_parse_42 rfl ?_
              refine x_topi (nI_1 i) ?_
              refine x_iload_n (q := 44) F dX5_parse_43 rfl rfl ?_
              refine x_callV2 (q := 47) F (2, 0) c_X5_numberFrom dX5_parse_44 rfl mv_X5_numberFrom ml_X5_59 ⟨⟨xle rfl, xle rfl⟩, xle rfl, xle rfl⟩ rfl rfl (xle rfl) ?_
              refine ⟨g, ns, sg, lt, nu, k, i + 1, d, rfl, rfl, hns, hsg, by omega, hd3, hdg, fun _ => ?_⟩
              rw [hvv]
              have bad : (d = 0 ∨ 255 < v) → xX p l e (xrm 5 0 0) s m args below meth c0 G ad h0 5 (xZ below G ad h0 Q args s (xrm 5 0 0)) 61 [(0, .ref (ad (2, 0))), (1, .int (nI i))] [] ad (wT g ad ns sg lt nu k) 0 0 := by
                intro hz
                rw [if_pos hz] at hE
                rw [← he, hE] at hQ
                refine x_iload_n (q := 62) F dX5_parse_61 rfl rfl ?_
                refine x_iconst (q := 63) (v := 1) F dX5_parse_62 rfl (by decide) ?_
                refine x_iadd (q := 64) F dX5_parse_63 rfl ?_
                refine x_topi (nI_1 i) ?_
                refine x_iret F dX5_parse_64 (xle rfl) (xle rfl) ?_
                exact hQ
              refine x_istore (q := 49) F dX5_parse_47 rfl (by decide) ?_
              refine x_iload_n (q := 50) F dX5_parse_49 rfl rfl ?_
              refine x_if_eq (q := 53) F 61 dX5_parse_50 (by decide) rfl (fun c50 => ?_) (fun c50 => ?_)
              · refine x_ls [(0, .ref (ad (2, 0))), (1, .int (nI i))] rfl ?_
                exact bad (Or.inl ((nI_eq (b := 0) (by omega) (by omega)).mp c50))
              · have hd0 : ¬ d = 0 := fun z => c50 (by rw [z]; rfl)
                refine x_iload (q := 55) F dX5_parse_53 rfl rfl ?_
                refine x_sipush (q := 58) (v := 255) F dX5_parse_55 rfl (by decide) ?_
                refine x_icmp_le (q := 61) F 65 dX5_parse_58 (by decide) rfl (fun c58 => ?_) (fun c58 => ?_)
                · have hv2 : ¬ 255 < v := by have := (nI_leI (a := v) (b := 255) (by omega) (by omega)).mp c58; omega
                  rw [if_neg (by omega)] at hE
                  refine x_aload_n (q := 66) F dX5_parse_65 rfl rfl (by first | exact xref_r | exact xref_n | exact xref_f _ | assumption) ?_
                  refine x_get (q := 69) F dX5_parse_66 rfl fs_X5_15 rfl rfl ?_
                  refine x_aload_n (q := 70) F dX5_parse_69 rfl rfl (by first | exact xref_r | exact xref_n | exact xref_f _ | assumption) ?_
                  refine x_get (q := 73) F dX5_parse_70 rfl fs_X5_25 rfl rfl ?_
                  refine x_iload_n (q := 74) F dX5_parse_73 rfl rfl ?_
                  refine x_iast (q := 75) F dX5_parse_74 rfl rfl rfl (by omega) (by omega) ?_
                  refine x_h (h2 := wT g ad ns sg (updN lt k c) nu k) (by rw [show optI (some c) = nI c from rfl, upd_N]; exact wT_lt _ _ _ _ _ _ _ _) ?_
                  refine x_aload_n (q := 76) F dX5_parse_75 rfl rfl (by first | exact xref_r | exact xref_n | exact xref_f _ | assumption) ?_
                  refine x_get (q := 79) F dX5_parse_76 rfl fs_X5_18 rfl rfl ?_
                  refine x_aload_n (q := 80) F dX5_parse_79 rfl rfl (by first | exact xref_r | exact xref_n | exact xref_f _ | assumption) ?_
                  refine x_get (q := 83) F dX5_parse_80 rfl fs_X5_25 rfl rfl ?_
                  refine x_iload (q := 85) F dX5_parse_83 rfl rfl ?_
                  refine x_iast (q := 86) F dX5_parse_85 rfl rfl rfl (by omega) (by omega) ?_
                  refine x_h (h2 := wT g ad ns sg (updN lt k c) (updN nu k v) k) (by rw [upd_N]; exact wT_nu _ _ _ _ _ _ _ _) ?_
                  refine x_aload_n (q := 87) F dX5_parse_86 rfl rfl (by first | exact xref_r | exact xref_n | exact xref_f _ | assumption) ?_
                  refine x_dup (q := 88) F dX5_parse_87 rfl rfl ?_
                  refine x_get (q := 91) F dX5_parse_88 rfl fs_X5_25 rfl rfl ?_
                  refine x_iconst (q := 92) (v := 1) F dX5_parse_91 rfl (by decide) ?_
                  refine x_iadd (q := 93) F dX5_parse_92 rfl ?_
                  refine x_topi (nI_1 k) ?_
                  refine x_put (q := 96) F dX5_parse_93 rfl fs_X5_25 rfl (xle rfl) rfl rfl ?_
                  refine x_h (h2 := wT g ad ns sg (updN lt k c) (updN nu k v) (k + 1)) (xup_xup _ _ _ _) ?_
                  refine x_iload_n (q := 97) F dX5_parse_96 rfl rfl ?_
                  refine x_iconst (q := 98) (v := 1) F dX5_parse_97 rfl (by decide) ?_
                  refine x_iload_n (q := 99) F dX5_parse_98 rfl rfl ?_
                  refine x_iadd (q := 100) F dX5_parse_99 rfl ?_
                  refine x_iadd (q := 101) F dX5_parse_100 rfl ?_
                  refine x_topi (y := nI (i + 1 + d)) (by show nI i + (nI 1 + nI d) = _; rw [nI_add, nI_add, Nat.add_assoc]) ?_
                  refine x_istore_n (q := 102) F dX5_parse_101 rfl (by decide) ?_
                  refine x_iload_n (q := 103) F dX5_parse_102 rfl rfl ?_
                  refine x_aload_n (q := 104) F dX5_parse_103 rfl rfl (by first | exact xref_r | exact xref_n | exact xref_f _ | assumption) ?_
                  refine x_get (q := 107) F dX5_parse_104 rfl fs_X5_21 rfl rfl ?_
                  refine x_icmp_lt (q := 110) F 112 dX5_parse_107 (by decide) rfl (fun c107 => ?_) (fun c107 => ?_)
                  · have hlt := (nI_ltI (by omega) (by omega)).mp c107
                    rw [if_neg (by omega)] at hE
                    refine x_aload_n (q := 113) F dX5_parse_112 rfl rfl (by first | exact xref_r | exact xref_n | exact xref_f _ | assumption) ?_
                    refine x_iload_n (q := 114) F dX5_parse_113 rfl rfl ?_
                    refine x_callV1 (q := 117) F (2, 0) c_X5_signAt dX5_parse_114 rfl mv_X5_signAt ml_X5_48 ⟨⟨xle rfl, xle rfl⟩, xle rfl, xle rfl⟩ rfl rfl (xle rfl) ?_
                    refine ⟨g, ns, sg, updN lt k c, updN nu k v, k + 1, i + 1 + d, rfl, rfl, hns, by omega, fun _ => ?_⟩
                    refine x_bipush (q := 119) (v := 32) F dX5_parse_117 rfl (by decide) ?_
                    refine x_icmp_eq (q := 122) F 124 dX5_parse_119 (by decide) rfl (fun c119 => ?_) (fun c119 => ?_)
                    · have h32 : sgn ns sg (i + 1 + d) = some 32 := by
                        have hsg2 : sgn ns sg (i + 1 + d) = some (sg (i + 1 + d)) := if_pos hlt
                        rw [hsg2] at c119 ⊢
                        have := hsg _ hlt
                        rw [(nI_eq (a := sg (i + 1 + d)) (b := 32) (by omega) (by omega)).mp c119]
                      rw [if_pos h32] at hE
                      refine x_iinc (q := 127) F dX5_parse_124 rfl rfl (nI_1 (i + 1 + d)) (by decide) ?_
                      refine x_goto F 7 dX5_parse_127 (by decide) ?_
                      refine x_ls [(0, .ref (ad (2, 0))), (1, .int (nI (i + 1 + d + 1)))] rfl ?_
                      exact ih (k + 1) (i + 1 + d + 1) (updN lt k c) (updN nu k v) (by omega) (by omega) (hE.symm.trans he)
                    · have h32 : ¬ sgn ns sg (i + 1 + d) = some 32 := fun z => c119 (by rw [z]; rfl)
                      rw [if_neg h32] at hE
                      rw [← he, hE] at hQ
                      refine x_iload_n (q := 123) F dX5_parse_122 rfl rfl ?_
                      refine x_iret F dX5_parse_123 (xle rfl) (xle rfl) ?_
                      exact hQ
                  · have hge : ns ≤ i + 1 + d := by
                      rcases Nat.lt_or_ge (i + 1 + d) ns with q | q
                      · exact absurd ((nI_ltI (by omega) (by omega)).mpr q) c107
                      · exact q
                    rw [if_pos hge] at hE
                    rw [← he, hE] at hQ
                    refine x_iconst (q := 111) (v := -1) F dX5_parse_110 rfl (by decide) ?_
                    refine x_iret F dX5_parse_111 (xle rfl) (xle rfl) ?_
                    exact hQ
                · refine x_ls [(0, .ref (ad (2, 0))), (1, .int (nI i))] rfl ?_
                  refine bad (Or.inr ?_)
                  rcases Nat.lt_or_ge 255 v with q | q
                  · exact q
                  · exact absurd ((nI_leI (a := v) (b := 255) (by omega) (by omega)).mpr q) c58
            · exact absurd c26 (by decide)
          · rw [show isLet (some c) = false from decide_eq_false hL]
            have hE : parseF (sgn ns sg) ns (f + 1) k i lt nu = (some i, k, lt, nu) := by rw [parseF, hs]; simp only [if_neg hL]
            rw [← he, hE] at hQ
            refine x_if_ne (q := 29) F 31 dX5_parse_26 (by decide) rfl (fun c26 => ?_) (fun c26 => ?_)
            · exact absurd rfl c26
            · refine x_iload_n (q := 30) F dX5_parse_29 rfl rfl ?_
              refine x_iret F dX5_parse_30 (xle rfl) (xle rfl) ?_
              exact hQ
  refine x_h hh0.symm ?_
  refine x_ls [(0, .ref (ad (2, 0)))] rfl ?_
  refine x_aload_n (q := 1) F dX5_parse_0 rfl rfl (by first | exact xref_r | exact xref_n | exact xref_f _ | assumption) ?_
  refine x_iconst (q := 2) (v := 0) F dX5_parse_1 rfl (by decide) ?_
  refine x_put (q := 5) F dX5_parse_2 rfl fs_X5_25 rfl (xle rfl) rfl rfl ?_
  refine x_h (h2 := wT g ad ns sg lt0 nu0 0) (xup_xup _ _ _ _) ?_
  refine x_iconst (q := 6) (v := 0) F dX5_parse_5 rfl (by decide) ?_
  refine x_istore_n (q := 7) F dX5_parse_6 rfl (by decide) ?_
  refine x_ls [(0, .ref (ad (2, 0))), (1, .int (nI 0))] rfl ?_
  exact loop 40 0 0 lt0 nu0 rfl (Nat.zero_le _) rfl
