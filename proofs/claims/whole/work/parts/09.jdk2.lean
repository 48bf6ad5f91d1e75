/-! ===== Math.min, Math.max, Arrays.fill, Arrays.copyOf ===== -/
theorem x_ent {av : List Value} {n : Nat} (h1 : Nat.ble (lg_sl av).length n = true) (h2 : av.all (fun v => v.category == 1) = true) : (lg_sl av).length ≤ n ∧ ∀ q ∈ lv_args 0 av, q.2.category = 1 := by
  refine ⟨xle h1, ?_⟩
  have key : ∀ (av : List Value) (i : Nat), (∀ v ∈ av, v.category = 1) → ∀ q ∈ lv_args i av, q.2.category = 1 := by
    intro av
    induction av with
    | nil => intro i _ q hq; cases hq
    | cons v vs ih =>
      intro i hv q hq
      rcases List.mem_cons.mp hq with rfl | hq
      · exact hv _ List.mem_cons_self
      · exact ih _ (fun w hw => hv w (List.mem_cons_of_mem _ hw)) q hq
  exact key av 0 (fun v hv => by simpa using List.all_eq_true.mp h2 v hv)
abbrev cI (N : Nat) (f : Nat → Int32) : xE := .inl (0, N, .inl f)
/-- the first i places hold v, the others what they held -/
def filled (f : Nat → Int32) (v : Int32) (i : Nat) : Nat → Int32 := fun j => if j < i then v else f j
theorem filled_0 (f : Nat → Int32) (v : Int32) : filled f v 0 = f := by funext j; unfold filled; rw [if_neg (by omega)]
theorem filled_s (f : Nat → Int32) (v : Int32) (i : Nat) : upd (filled f v i) i v = filled f v (i + 1) := by
  funext j
  unfold upd filled
  by_cases q : j = i
  · rw [if_pos q, if_pos (by omega)]
  · rw [if_neg q]
    by_cases z : j < i
    · rw [if_pos z, if_pos (by omega)]
    · rw [if_neg z, if_neg (by omega)]
def s_fill : xSp := fun ad h av Q => ∃ (t : Tg) (N : Nat) (f : Nat → Int32) (v : Int32), av = [.ref (ad t), .int v] ∧ h t = some (cI N f) ∧ N ≤ 1000 ∧ Q none ad (xup h t (cI N (filled f v N)))
set_option maxRecDepth 100000 in
theorem c_J7_fill_53178 : Ct yJ7_fill_53178 cJ7_fill_53178 4 none (xrm 0 0 0) s_fill := by
  refine Ct.of (by decide) ?_
  intro p l e s m args below meth c G ad h av Q F hsp
  obtain ⟨t, N, f, v, rfl, e1, hN, hQ⟩ := hsp
  refine ⟨x_ent rfl rfl, ?_⟩
  have loop : ∀ i : Nat, i ≤ N → xX p l e (xrm 0 0 0) s m args below meth c G ad h 4 (xZ below G ad h Q args s (xrm 0 0 0)) 5 [(0, .ref (ad t)), (1, .int v), (2, .int (nI i)), (3, .int (nI N))] [] ad (xup h t (cI N (filled f v i))) 0 0 := by
    intro i
    induction hd : N - i using Nat.strongRecOn generalizing i with
    | ind d ih =>
      intro hi
      refine x_iload_n (q := 6) F dJ7_fill_53178_5 rfl rfl ?_
      refine x_iload_n (q := 7) F dJ7_fill_53178_6 rfl rfl ?_
      refine x_icmp_ge (q := 10) F 20 dJ7_fill_53178_7 (by decide) rfl (fun c7 => ?_) (fun c7 => ?_)
      · have : i = N := by have := (nI_leI (by omega) (by omega)).mp c7; omega
        subst this
        refine x_vret F dJ7_fill_53178_20 (xle rfl) (xle rfl) ?_
        exact hQ
      · have hlt : i < N := by
          rcases Nat.lt_or_ge i N with q | q
          · exact q
          · exact absurd ((nI_leI (by omega) (by omega)).mpr q) c7
        refine x_aload_n (q := 11) F dJ7_fill_53178_10 rfl rfl (by first | exact xref_r | exact xref_n | exact xref_f _ | assumption) ?_
        refine x_iload_n (q := 12) F dJ7_fill_53178_11 rfl rfl ?_
        refine x_iload_n (q := 13) F dJ7_fill_53178_12 rfl rfl ?_
        refine x_iast (q := 14) F dJ7_fill_53178_13 rfl (xup_self _ _ _) rfl (by omega) (by omega) ?_
        refine x_h (xup_xup _ _ _ _) ?_
        rw [filled_s]
        refine x_iinc (q := 17) F dJ7_fill_53178_14 rfl rfl (nI_1 i) (by decide) ?_
        refine x_goto F 5 dJ7_fill_53178_17 (by decide) ?_
        refine x_ls [(0, .ref (ad t)), (1, .int v), (2, .int (nI (i + 1))), (3, .int (nI N))] rfl ?_
        exact ih (N - (i + 1)) (by omega) (i + 1) rfl (by omega)
  refine x_iconst (q := 1) (v := 0) F dJ7_fill_53178_0 rfl (by decide) ?_
  refine x_istore_n (q := 2) F dJ7_fill_53178_1 rfl (by decide) ?_
  refine x_aload_n (q := 3) F dJ7_fill_53178_2 rfl rfl (by first | exact xref_r | exact xref_n | exact xref_f _ | assumption) ?_
  refine x_alen (q := 4) F dJ7_fill_53178_3 rfl e1 (by decide) ?_
  refine x_istore_n (q := 5) F dJ7_fill_53178_4 rfl (by decide) ?_
  refine x_ls [(0, .ref (ad t)), (1, .int v), (2, .int (nI 0)), (3, .int (nI N))] rfl ?_
  refine x_h (h2 := xup h t (cI N (filled f v 0))) (by rw [filled_0, xup_same h e1]) ?_
  exact loop 0 (Nat.zero_le _)
theorem xjw : Cond.methodLink RJ7 150 arraycopyName ∈ xwd ∧ Cond.native arraycopyName ∈ xwd ∧ Cond.static arraycopyName ∈ xwd ∧ Cond.initialized "java/lang/System" ∈ xwd := ⟨ml_J7_150, xwd_in (xm1 (j := 195) rfl) rfl, xwd_in (xm1 (j := 194) rfl) rfl, xwd_in (xm1 (j := 18) rfl) rfl⟩
theorem xjc : Cond.methodLink RJ7 316 ⟨"[I", "clone", "()Ljava/lang/Object;"⟩ ∈ xwd ∧ Cond.sameMethod "[I" "java/lang/Object" "clone" "()Ljava/lang/Object;" ∈ xwd ∧ Cond.native ⟨"java/lang/Object", "clone", "()Ljava/lang/Object;"⟩ ∈ xwd ∧ Cond.instanceMethod ⟨"java/lang/Object", "clone", "()Ljava/lang/Object;"⟩ ∈ xwd ∧ Cond.selects "[I" ⟨"[I", "clone", "()Ljava/lang/Object;"⟩ ⟨"java/lang/Object", "clone", "()Ljava/lang/Object;"⟩ ∈ xwd := ⟨ml_J7_316, xwd_in (xm1 (j := 186) rfl) rfl, xwd_in (xm1 (j := 187) rfl) rfl, xwd_in (xm1 (j := 188) rfl) rfl, xwd_in (xm1 (j := 189) rfl) rfl⟩
theorem xjd : Cond.castable "[I" "java/lang/Cloneable" ∈ xnw := List.mem_filter.mpr ⟨xm1 (j := 190) rfl, rfl⟩
/-- a copy of the first n places -/
def s_copyOf : xSp := fun ad h av Q => ∃ (t u : Tg) (N n : Nat) (f : Nat → Int32), av = [.ref (ad t), .int (nI n)] ∧ h t = some (cI N f) ∧ h u = none ∧ n ≤ N ∧ N ≤ 40 ∧
  ∀ (ad' : xAd) (g : Nat → Int32), (∀ v, v ≠ u → ad' v = ad v) → (∀ j, j < n → g j = f j) → Q (some (.ref (ad' u))) ad' (xup h u (cI n g))
set_option maxRecDepth 100000 in
theorem c_J7_copyOf_59c91 : Ct yJ7_copyOf_59c91 cJ7_copyOf_59c91 3 (some (.array .int)) (xrm 1 1 40) s_copyOf := by
  refine Ct.of (by decide) ?_
  intro p l e s m args below meth c G ad h av Q F hsp
  obtain ⟨t, u, N, n, f, rfl, e1, e2, hn, hN, hQ⟩ := hsp
  have htu : t ≠ u := fun z => by rw [z, e2] at e1; cases e1
  refine ⟨x_ent rfl rfl, ?_⟩
  refine x_ls [(0, .ref (ad t)), (1, .int (nI n))] rfl ?_
  refine x_iload_n (q := 1) F dJ7_copyOf_59c91_0 rfl rfl ?_
  refine x_aload_n (q := 2) F dJ7_copyOf_59c91_1 rfl rfl (by first | exact xref_r | exact xref_n | exact xref_f _ | assumption) ?_
  refine x_alen (q := 3) F dJ7_copyOf_59c91_2 rfl e1 (by decide) ?_
  refine x_icmp_ne (q := 6) F 14 dJ7_copyOf_59c91_3 (by decide) rfl (fun c3 => ?_) (fun c3 => ?_)
  · refine x_iload_n (q := 15) F dJ7_copyOf_59c91_14 rfl rfl ?_
    refine x_newaI (q := 17) (N := n) F u dJ7_copyOf_59c91_15 rfl ac_int rfl (by omega) e2 (xle rfl) (by show 0 + n ≤ 40; omega) (fun ad1 E1 => ?_)
    refine x_widen (k2 := 1) (n2 := 40) (by omega) (by omega) ?_
    rw [← E1 t htu]
    refine x_astore_n (q := 18) F dJ7_copyOf_59c91_17 rfl (by decide) (by first | exact xref_r | exact xref_n | exact xref_f _ | assumption) ?_
    refine x_aload_n (q := 19) F dJ7_copyOf_59c91_18 rfl rfl (by first | exact xref_r | exact xref_n | exact xref_f _ | assumption) ?_
    refine x_iconst (q := 20) (v := 0) F dJ7_copyOf_59c91_19 rfl (by decide) ?_
    refine x_aload_n (q := 21) F dJ7_copyOf_59c91_20 rfl rfl (by first | exact xref_r | exact xref_n | exact xref_f _ | assumption) ?_
    refine x_iconst (q := 22) (v := 0) F dJ7_copyOf_59c91_21 rfl (by decide) ?_
    refine x_aload_n (q := 23) F dJ7_copyOf_59c91_22 rfl rfl (by first | exact xref_r | exact xref_n | exact xref_f _ | assumption) ?_
    refine x_alen (q := 24) F dJ7_copyOf_59c91_23 rfl (by rw [xup_ne _ _ htu]; exact e1) (by decide) ?_
    refine x_iload_n (q := 25) F dJ7_copyOf_59c91_24 rfl rfl ?_
    refine x_mmin (q := 28) F dJ7_copyOf_59c91_25 rfl ml_J7_304 mw_min (xle rfl) (xle rfl) (xle rfl) (xle rfl) ?_
    have hmin : (if nI n < nI N then nI n else nI N) = nI n := by
      by_cases q : nI n < nI N
      · rw [if_pos q]
      · rw [if_neg q]
        have hz : ¬ n < N := fun z => q ((nI_ltI (by omega) (by omega)).mpr z)
        rw [show N = n by omega]
    refine x_arraycopy (q := 31) (sp := 0) (dp := 0) (w := n) F dJ7_copyOf_59c91_28 rfl xjw (by rw [xup_ne _ _ htu]; exact e1) (xup_self _ _ _) rfl rfl hmin (by omega) (by omega) (by omega) (by omega) (xle rfl) (xle rfl) ?_
    refine x_aload_n (q := 32) F dJ7_copyOf_59c91_31 rfl rfl (by first | exact xref_r | exact xref_n | exact xref_f _ | assumption) ?_
    refine x_aret F dJ7_copyOf_59c91_32 (xle rfl) (xle rfl) (Or.inr ⟨_, rfl⟩) (by first | exact xref_r | exact xref_n | exact xref_f _ | assumption) ?_
    rw [xup_xup]
    exact hQ ad1 _ E1 (fun j hj => by rw [pk_cpy_in (Nat.zero_le _) (by omega)]; simp)
  · have hNn : n = N := (nI_eq (by omega) (by omega)).mp c3
    subst hNn
    refine x_aload_n (q := 7) F dJ7_copyOf_59c91_6 rfl rfl (by first | exact xref_r | exact xref_n | exact xref_f _ | assumption) ?_
    refine x_clone (q := 10) F u dJ7_copyOf_59c91_7 rfl xjc xjd e1 e2 (xle rfl) (xle rfl) (xle rfl) (by show 0 + n ≤ 40; omega) (fun ad1 E1 => ?_)
    refine x_widen (k2 := 1) (n2 := 40) (by omega) (by omega) ?_
    refine x_castI (q := 13) F dJ7_copyOf_59c91_10 rfl cl_J7_317 (xup_self _ _ _) ?_
    refine x_aret F dJ7_copyOf_59c91_13 (xle rfl) (xle rfl) (Or.inr ⟨_, rfl⟩) (by first | exact xref_r | exact xref_n | exact xref_f _ | assumption) ?_
    exact hQ ad1 f E1 (fun _ _ => rfl)
