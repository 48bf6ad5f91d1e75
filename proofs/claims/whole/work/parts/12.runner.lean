/-! ===== the Runner: its world, its small methods ===== -/
abbrev cN (N : Nat) (f : Nat → Nat) : xE := cI N (fun j => nI (f j))
def updN (f : Nat → Nat) (j v : Nat) : Nat → Nat := fun i => if i = j then v else f i
/-- memory, how many are put out, what, A, I, the next command, by what it failed -/
abbrev RS : Type := (Nat → Nat) × Nat × (Nat → Nat) × Nat × Nat × Nat × Nat
def wR (g : xH) (ad : xAd) (st nc : Nat) (q : RS) (fa : Int32) (all : Int64) : xH := match q with
  | (mem, no, out, a, i, p, fl) => xup (xup (xup (xup g (11, 0) (cN nc mem)) (13, 0) (cN 40 out)) (12, 0) (cRow (ad (13, 0)) (nI no))) (10, 0) (.inr (3, [.int (nI st), .ref (ad (11, 0)), .ref (ad (12, 0)), .int (nI a), .int (nI i), .int (nI p), .int (nI fl), .int fa, .long all]))
theorem wR_mem (g : xH) (ad : xAd) (st nc : Nat) (mem : Nat → Nat) (no : Nat) (out : Nat → Nat) (a i p fl : Nat) (fa : Int32) (all : Int64) (mem' : Nat → Nat) : xup (wR g ad st nc (mem, no, out, a, i, p, fl) fa all) (11, 0) (cN nc mem') = wR g ad st nc (mem', no, out, a, i, p, fl) fa all := by
  unfold wR
  dsimp only
  rw [xup_comm _ _ _ (show ((10, 0) : Tg) ≠ (11, 0) by decide), xup_comm _ _ _ (show ((12, 0) : Tg) ≠ (11, 0) by decide), xup_comm _ _ _ (show ((13, 0) : Tg) ≠ (11, 0) by decide), xup_xup]
theorem wR_out (g : xH) (ad : xAd) (st nc : Nat) (mem : Nat → Nat) (no : Nat) (out : Nat → Nat) (a i p fl : Nat) (fa : Int32) (all : Int64) (no' : Nat) (out' : Nat → Nat) : xup (xup (wR g ad st nc (mem, no, out, a, i, p, fl) fa all) (13, 0) (cN 40 out')) (12, 0) (cRow (ad (13, 0)) (nI no')) = wR g ad st nc (mem, no', out', a, i, p, fl) fa all := by
  unfold wR
  dsimp only
  rw [xup_comm _ _ _ (show ((10, 0) : Tg) ≠ (13, 0) by decide), xup_comm _ _ _ (show ((12, 0) : Tg) ≠ (13, 0) by decide), xup_xup, xup_comm _ _ _ (show ((10, 0) : Tg) ≠ (12, 0) by decide), xup_xup]
theorem wR_size (g : xH) (ad : xAd) (st nc : Nat) (mem : Nat → Nat) (no : Nat) (out : Nat → Nat) (a i p fl : Nat) (fa : Int32) (all : Int64) (no' : Nat) : xup (wR g ad st nc (mem, no, out, a, i, p, fl) fa all) (12, 0) (cRow (ad (13, 0)) (nI no')) = wR g ad st nc (mem, no', out, a, i, p, fl) fa all := by
  unfold wR
  dsimp only
  rw [xup_comm _ _ _ (show ((10, 0) : Tg) ≠ (12, 0) by decide), xup_xup]
def s_jumpIf : xSp := fun ad h av Q => ∃ g st nc mem no out a i p fl fa all b v, h = wR g ad st nc (mem, no, out, a, i, p, fl) fa all ∧ av = [.ref (ad (10, 0)), .int (bI b), .int (nI v)] ∧ Q none ad (wR g ad st nc (mem, no, out, a, i, (if b = true then v else p), fl) fa all)
set_option maxRecDepth 100000 in
theorem c_X3_jumpIf : Ct yX3_jumpIf cX3_jumpIf 3 none (xrm 0 0 0) s_jumpIf := by
  refine Ct.of (by decide) ?_
  intro p0 l e s m args below meth c G ad h av Q F hsp
  obtain ⟨g, st, nc, mem, no, out, a, i, p, fl, fa, all, b, v, rfl, rfl, hQ⟩ := hsp
  refine ⟨x_ent rfl rfl, ?_⟩
  refine x_ls [(0, .ref (ad (10, 0))), (1, .int (bI b)), (2, .int (nI v))] rfl ?_
  refine x_iload_n (q := 1) F dX3_jumpIf_0 rfl rfl ?_
  cases b with
  | false =>
    refine x_if_eq (q := 4) F 9 dX3_jumpIf_1 (by decide) rfl (fun c1 => ?_) (fun c1 => ?_)
    · refine x_vret F dX3_jumpIf_9 (xle rfl) (xle rfl) ?_
      exact hQ
    · exact absurd rfl c1
  | true =>
    refine x_if_eq (q := 4) F 9 dX3_jumpIf_1 (by decide) rfl (fun c1 => ?_) (fun c1 => ?_)
    · exact absurd c1 (by decide)
    · refine x_aload_n (q := 5) F dX3_jumpIf_4 rfl rfl (by first | exact xref_r | exact xref_n | exact xref_f _ | assumption) ?_
      refine x_iload_n (q := 6) F dX3_jumpIf_5 rfl rfl ?_
      refine x_put (q := 9) F dX3_jumpIf_6 rfl fs_X3_27 rfl (xle rfl) rfl rfl ?_
      refine x_vret F dX3_jumpIf_9 (xle rfl) (xle rfl) ?_
      rw [wR, xup_xup]
      exact hQ
def s_failIf : xSp := fun ad h av Q => ∃ g st nc mem no out a i p fl fa all b v, h = wR g ad st nc (mem, no, out, a, i, p, fl) fa all ∧ av = [.ref (ad (10, 0)), .int (bI b), .int (nI v)] ∧ Q none ad (wR g ad st nc (mem, no, out, a, i, p, (if b = true then v else fl)) fa all)
set_option maxRecDepth 100000 in
theorem c_X3_failIf : Ct yX3_failIf cX3_failIf 3 none (xrm 0 0 0) s_failIf := by
  refine Ct.of (by decide) ?_
  intro p0 l e s m args below meth c G ad h av Q F hsp
  obtain ⟨g, st, nc, mem, no, out, a, i, p, fl, fa, all, b, v, rfl, rfl, hQ⟩ := hsp
  refine ⟨x_ent rfl rfl, ?_⟩
  refine x_ls [(0, .ref (ad (10, 0))), (1, .int (bI b)), (2, .int (nI v))] rfl ?_
  refine x_iload_n (q := 1) F dX3_failIf_0 rfl rfl ?_
  cases b with
  | false =>
    refine x_if_eq (q := 4) F 9 dX3_failIf_1 (by decide) rfl (fun c1 => ?_) (fun c1 => ?_)
    · refine x_vret F dX3_failIf_9 (xle rfl) (xle rfl) ?_
      exact hQ
    · exact absurd rfl c1
  | true =>
    refine x_if_eq (q := 4) F 9 dX3_failIf_1 (by decide) rfl (fun c1 => ?_) (fun c1 => ?_)
    · exact absurd c1 (by decide)
    · refine x_aload_n (q := 5) F dX3_failIf_4 rfl rfl (by first | exact xref_r | exact xref_n | exact xref_f _ | assumption) ?_
      refine x_iload_n (q := 6) F dX3_failIf_5 rfl rfl ?_
      refine x_put (q := 9) F dX3_failIf_6 rfl fs_X3_30 rfl (xle rfl) rfl rfl ?_
      refine x_vret F dX3_failIf_9 (xle rfl) (xle rfl) ?_
      rw [wR, xup_xup]
      exact hQ
theorem nI_neg1 {j : Nat} (h : j < 2 ^ 31) : nI j ≠ -1 := fun z => by
  have := nI_toInt h
  rw [z] at this
  have h2 : (-1 : Int32).toInt = -1 := by decide
  omega
/-- a value that is NONE or a byte -/
def optI (o : Option Nat) : Int32 := match o with
  | none => -1
  | some v => nI v
def s_fetch : xSp := fun ad h av Q => ∃ g st nc mem no out a i p fl fa all o, h = wR g ad st nc (mem, no, out, a, i, p, fl) fa all ∧ av = [.ref (ad (10, 0)), .int (optI o)] ∧ (∀ v, o = some v → v < 256) ∧ Q none ad (match o with | none => wR g ad st nc (mem, no, out, a, i, p, 2) fa all | some v => wR g ad st nc (mem, no, out, v, i, p, fl) fa all)
set_option maxRecDepth 100000 in
theorem c_X3_fetch : Ct yX3_fetch cX3_fetch 2 none (xrm 0 0 0) s_fetch := by
  refine Ct.of (by decide) ?_
  intro p0 l e s m args below meth c G ad h av Q F hsp
  obtain ⟨g, st, nc, mem, no, out, a, i, p, fl, fa, all, o, rfl, rfl, ho, hQ⟩ := hsp
  refine ⟨x_ent rfl rfl, ?_⟩
  refine x_ls [(0, .ref (ad (10, 0))), (1, .int (optI o))] rfl ?_
  refine x_iload_n (q := 1) F dX3_fetch_0 rfl rfl ?_
  refine x_iconst (q := 2) (v := -1) F dX3_fetch_1 rfl (by decide) ?_
  cases o with
  | none =>
    refine x_icmp_ne (q := 5) F 13 dX3_fetch_2 (by decide) rfl (fun c2 => ?_) (fun c2 => ?_)
    · exact absurd rfl c2
    · refine x_aload_n (q := 6) F dX3_fetch_5 rfl rfl (by first | exact xref_r | exact xref_n | exact xref_f _ | assumption) ?_
      refine x_iconst (q := 7) (v := 2) F dX3_fetch_6 rfl (by decide) ?_
      refine x_put (q := 10) F dX3_fetch_7 rfl fs_X3_30 rfl (xle rfl) rfl rfl ?_
      refine x_goto F 18 dX3_fetch_10 (by decide) ?_
      refine x_vret F dX3_fetch_18 (xle rfl) (xle rfl) ?_
      rw [wR, xup_xup]
      exact hQ
  | some v =>
    refine x_icmp_ne (q := 5) F 13 dX3_fetch_2 (by decide) rfl (fun c2 => ?_) (fun c2 => ?_)
    · refine x_aload_n (q := 14) F dX3_fetch_13 rfl rfl (by first | exact xref_r | exact xref_n | exact xref_f _ | assumption) ?_
      refine x_iload_n (q := 15) F dX3_fetch_14 rfl rfl ?_
      refine x_put (q := 18) F dX3_fetch_15 rfl fs_X3_20 rfl (xle rfl) rfl rfl ?_
      refine x_vret F dX3_fetch_18 (xle rfl) (xle rfl) ?_
      rw [wR, xup_xup]
      exact hQ
    · exact absurd c2 (nI_neg1 (by have := ho v rfl; omega))
def s_store : xSp := fun ad h av Q => ∃ g st nc mem no out a i p fl fa all v, h = wR g ad st nc (mem, no, out, a, i, p, fl) fa all ∧ av = [.ref (ad (10, 0)), .int (nI v)] ∧ v < 256 ∧ nc ≤ 32 ∧ Q none ad (if v < nc then wR g ad st nc (updN mem v a, no, out, a, i, p, fl) fa all else wR g ad st nc (mem, no, out, a, i, p, 3) fa all)
theorem upd_N (f : Nat → Nat) (j v : Nat) : upd (fun i => nI (f i)) j (nI v) = fun i => nI (updN f j v i) := upd_n f j v
set_option maxRecDepth 100000 in
theorem c_X3_store : Ct yX3_store cX3_store 2 none (xrm 0 0 0) s_store := by
  refine Ct.of (by decide) ?_
  intro p0 l e s m args below meth c G ad h av Q F hsp
  obtain ⟨g, st, nc, mem, no, out, a, i, p, fl, fa, all, v, rfl, rfl, hv, hnc, hQ⟩ := hsp
  refine ⟨x_ent rfl rfl, ?_⟩
  refine x_ls [(0, .ref (ad (10, 0))), (1, .int (nI v))] rfl ?_
  refine x_iload_n (q := 1) F dX3_store_0 rfl rfl ?_
  refine x_if_lt (q := 4) F 13 dX3_store_1 (by decide) rfl (fun c1 => ?_) (fun c1 => ?_)
  · exact absurd c1 (nI_pos (by omega))
  · refine x_iload_n (q := 5) F dX3_store_4 rfl rfl ?_
    refine x_aload_n (q := 6) F dX3_store_5 rfl rfl (by first | exact xref_r | exact xref_n | exact xref_f _ | assumption) ?_
    refine x_get (q := 9) F dX3_store_6 rfl fs_X3_43 rfl rfl ?_
    refine x_alen (q := 10) F dX3_store_9 rfl rfl (by decide) ?_
    refine x_icmp_lt (q := 13) F 21 dX3_store_10 (by decide) rfl (fun c10 => ?_) (fun c10 => ?_)
    · have hlt : v < nc := (nI_ltI (by omega) (by omega)).mp c10
      rw [if_pos hlt] at hQ
      refine x_aload_n (q := 22) F dX3_store_21 rfl rfl (by first | exact xref_r | exact xref_n | exact xref_f _ | assumption) ?_
      refine x_get (q := 25) F dX3_store_22 rfl fs_X3_43 rfl rfl ?_
      refine x_iload_n (q := 26) F dX3_store_25 rfl rfl ?_
      refine x_aload_n (q := 27) F dX3_store_26 rfl rfl (by first | exact xref_r | exact xref_n | exact xref_f _ | assumption) ?_
      refine x_get (q := 30) F dX3_store_27 rfl fs_X3_20 rfl rfl ?_
      refine x_iast (q := 31) F dX3_store_30 rfl rfl rfl (by omega) (by omega) ?_
      rw [upd_N]
      refine x_h (wR_mem _ _ _ _ _ _ _ _ _ _ _ _ _ _) ?_
      refine x_vret F dX3_store_31 (xle rfl) (xle rfl) ?_
      exact hQ
    · have hge : ¬ v < nc := fun z => c10 ((nI_ltI (by omega) (by omega)).mpr z)
      rw [if_neg hge] at hQ
      refine x_aload_n (q := 14) F dX3_store_13 rfl rfl (by first | exact xref_r | exact xref_n | exact xref_f _ | assumption) ?_
      refine x_iconst (q := 15) (v := 3) F dX3_store_14 rfl (by decide) ?_
      refine x_put (q := 18) F dX3_store_15 rfl fs_X3_30 rfl (xle rfl) rfl rfl ?_
      refine x_goto F 31 dX3_store_18 (by decide) ?_
      refine x_vret F dX3_store_31 (xle rfl) (xle rfl) ?_
      rw [wR, xup_xup]
      exact hQ
def s_recall : xSp := fun ad h av Q => ∃ g st nc mem no out a i p fl fa all v, h = wR g ad st nc (mem, no, out, a, i, p, fl) fa all ∧ av = [.ref (ad (10, 0)), .int (nI v)] ∧ v < 256 ∧ nc ≤ 32 ∧ Q none ad (if v < nc then wR g ad st nc (mem, no, out, mem v, i, p, fl) fa all else wR g ad st nc (mem, no, out, a, i, p, 3) fa all)
set_option maxRecDepth 100000 in
theorem c_X3_recall : Ct yX3_recall cX3_recall 2 none (xrm 0 0 0) s_recall := by
  refine Ct.of (by decide) ?_
  intro p0 l e s m args below meth c G ad h av Q F hsp
  obtain ⟨g, st, nc, mem, no, out, a, i, p, fl, fa, all, v, rfl, rfl, hv, hnc, hQ⟩ := hsp
  refine ⟨x_ent rfl rfl, ?_⟩
  refine x_ls [(0, .ref (ad (10, 0))), (1, .int (nI v))] rfl ?_
  refine x_iload_n (q := 1) F dX3_recall_0 rfl rfl ?_
  refine x_if_lt (q := 4) F 13 dX3_recall_1 (by decide) rfl (fun c1 => ?_) (fun c1 => ?_)
  · exact absurd c1 (nI_pos (by omega))
  · refine x_iload_n (q := 5) F dX3_recall_4 rfl rfl ?_
    refine x_aload_n (q := 6) F dX3_recall_5 rfl rfl (by first | exact xref_r | exact xref_n | exact xref_f _ | assumption) ?_
    refine x_get (q := 9) F dX3_recall_6 rfl fs_X3_43 rfl rfl ?_
    refine x_alen (q := 10) F dX3_recall_9 rfl rfl (by decide) ?_
    refine x_icmp_lt (q := 13) F 21 dX3_recall_10 (by decide) rfl (fun c10 => ?_) (fun c10 => ?_)
    · have hlt : v < nc := (nI_ltI (by omega) (by omega)).mp c10
      rw [if_pos hlt] at hQ
      refine x_aload_n (q := 22) F dX3_recall_21 rfl rfl (by first | exact xref_r | exact xref_n | exact xref_f _ | assumption) ?_
      refine x_aload_n (q := 23) F dX3_recall_22 rfl rfl (by first | exact xref_r | exact xref_n | exact xref_f _ | assumption) ?_
      refine x_get (q := 26) F dX3_recall_23 rfl fs_X3_43 rfl rfl ?_
      refine x_iload_n (q := 27) F dX3_recall_26 rfl rfl ?_
      refine x_iald (q := 28) F dX3_recall_27 rfl rfl rfl (by omega) (by omega) ?_
      refine x_put (q := 31) F dX3_recall_28 rfl fs_X3_20 rfl (xle rfl) rfl rfl ?_
      refine x_vret F dX3_recall_31 (xle rfl) (xle rfl) ?_
      rw [wR, xup_xup]
      exact hQ
    · have hge : ¬ v < nc := fun z => c10 ((nI_ltI (by omega) (by omega)).mpr z)
      rw [if_neg hge] at hQ
      refine x_aload_n (q := 14) F dX3_recall_13 rfl rfl (by first | exact xref_r | exact xref_n | exact xref_f _ | assumption) ?_
      refine x_iconst (q := 15) (v := 3) F dX3_recall_14 rfl (by decide) ?_
      refine x_put (q := 18) F dX3_recall_15 rfl fs_X3_30 rfl (xle rfl) rfl rfl ?_
      refine x_goto F 31 dX3_recall_18 (by decide) ?_
      refine x_vret F dX3_recall_31 (xle rfl) (xle rfl) ?_
      rw [wR, xup_xup]
      exact hQ
/-- v times A put out, as far as there is room -/
def pushF (no : Nat) (out : Nat → Nat) (a v : Nat) : Nat → Nat := fun j => if no ≤ j ∧ j < min (no + v) 40 then a else out j
theorem pushF_0 (no : Nat) (out : Nat → Nat) (a : Nat) : pushF no out a 0 = out := by
  funext j
  unfold pushF
  rw [if_neg (by omega)]
theorem pushF_s {no : Nat} (out : Nat → Nat) (a : Nat) {v : Nat} (h : no + v < 40) : updN (pushF no out a v) (no + v) a = pushF no out a (v + 1) := by
  funext j
  unfold updN pushF
  by_cases q : j = no + v
  · rw [if_pos q, if_pos (by omega)]
  · rw [if_neg q]
    by_cases z : no ≤ j ∧ j < min (no + v) 40
    · rw [if_pos z, if_pos (by omega)]
    · rw [if_neg z, if_neg (by omega)]
theorem pushF_full {no : Nat} (out : Nat → Nat) (a : Nat) {v w : Nat} (h : no + v = 40) (hw : v ≤ w) : pushF no out a w = pushF no out a v := by
  funext j
  unfold pushF
  by_cases z : no ≤ j ∧ j < min (no + v) 40
  · rw [if_pos z, if_pos (by omega)]
  · rw [if_neg z, if_neg (by omega)]
def s_putOut : xSp := fun ad h av Q => ∃ g st nc mem no out a i p fl fa all v, h = wR g ad st nc (mem, no, out, a, i, p, fl) fa all ∧ av = [.ref (ad (10, 0)), .int (nI v)] ∧ v < 256 ∧ no ≤ 40 ∧ Q none ad (wR g ad st nc (mem, min (no + v) 40, pushF no out a v, a, i, p, (if no + v ≤ 40 then fl else 3)) fa all)
set_option maxRecDepth 100000 in
set_option maxHeartbeats 1000000 in
theorem c_X3_putOut : Ct yX3_putOut cX3_putOut 4 none (xrm 1 0 0) s_putOut := by
  refine Ct.of (by decide) ?_
  intro p0 l e s m args below meth c G ad h av Q F hsp
  obtain ⟨g, st, nc, mem, no, out, a, i, p, fl, fa, all, v, rfl, rfl, hv, hno, hQ⟩ := hsp
  refine ⟨x_ent rfl rfl, ?_⟩
  have fin : ∀ (b : Bool) (n : Int32) (q : RS), Q none ad (wR g ad st nc (q.1, q.2.1, q.2.2.1, q.2.2.2.1, q.2.2.2.2.1, q.2.2.2.2.2.1, (if b = true then q.2.2.2.2.2.2 else 3)) fa all) →
      xX p0 l e (xrm 1 0 0) s m args below meth c G ad (wR g ad st nc (mem, no, out, a, i, p, fl) fa all) 4 (xZ below G ad (wR g ad st nc (mem, no, out, a, i, p, fl) fa all) Q args s (xrm 1 0 0)) 31 [(0, .ref (ad (10, 0))), (1, .int (nI v)), (2, .int (bI b)), (3, .int n)] [] ad (wR g ad st nc q fa all) 0 0 := by
    intro b n q hq
    obtain ⟨mem, no, out, a, i, p, fl⟩ := q
    refine x_aload_n (q := 32) F dX3_putOut_31 rfl rfl (by first | exact xref_r | exact xref_n | exact xref_f _ | assumption) ?_
    refine x_iload_n (q := 33) F dX3_putOut_32 rfl rfl ?_
    cases b with
    | true =>
      refine x_if_ne (q := 36) F 40 dX3_putOut_33 (by decide) rfl (fun c33 => ?_) (fun c33 => ?_)
      · refine x_iconst (q := 41) (v := 0) F dX3_putOut_40 rfl (by decide) ?_
        refine x_iconst (q := 42) (v := 3) F dX3_putOut_41 rfl (by decide) ?_
        refine x_callV2 (q := 45) F (10, 0) c_X3_failIf dX3_putOut_42 rfl mv_X3_failIf ml_X3_108 ⟨⟨xle rfl, xle rfl⟩, xle rfl, xle rfl⟩ rfl rfl (xle rfl) ?_
        refine ⟨g, st, nc, mem, no, out, a, i, p, fl, fa, all, false, 3, rfl, rfl, fun _ => ?_⟩
        refine x_vret F dX3_putOut_45 (xle rfl) (xle rfl) ?_
        exact hq
      · exact absurd c33 (by decide)
    | false =>
      refine x_if_ne (q := 36) F 40 dX3_putOut_33 (by decide) rfl (fun c33 => ?_) (fun c33 => ?_)
      · exact absurd rfl c33
      · refine x_iconst (q := 37) (v := 1) F dX3_putOut_36 rfl (by decide) ?_
        refine x_goto F 41 dX3_putOut_37 (by decide) ?_
        refine x_iconst (q := 42) (v := 3) F dX3_putOut_41 rfl (by decide) ?_
        refine x_callV2 (q := 45) F (10, 0) c_X3_failIf dX3_putOut_42 rfl mv_X3_failIf ml_X3_108 ⟨⟨xle rfl, xle rfl⟩, xle rfl, xle rfl⟩ rfl rfl (xle rfl) ?_
        refine ⟨g, st, nc, mem, no, out, a, i, p, fl, fa, all, true, 3, rfl, rfl, fun _ => ?_⟩
        refine x_vret F dX3_putOut_45 (xle rfl) (xle rfl) ?_
        exact hq
  have loop : ∀ n : Nat, n ≤ v → no + n ≤ 40 → xX p0 l e (xrm 1 0 0) s m args below meth c G ad (wR g ad st nc (mem, no, out, a, i, p, fl) fa all) 4 (xZ below G ad (wR g ad st nc (mem, no, out, a, i, p, fl) fa all) Q args s (xrm 1 0 0)) 4 [(0, .ref (ad (10, 0))), (1, .int (nI v)), (2, .int 1), (3, .int (nI n))] [] ad (wR g ad st nc (mem, no + n, pushF no out a n, a, i, p, fl) fa all) 0 0 := by
    intro n
    induction hd : v - n using Nat.strongRecOn generalizing n with
    | ind d ih =>
      intro hn h40
      refine x_iload_n (q := 5) F dX3_putOut_4 rfl rfl ?_
      refine x_iload_n (q := 6) F dX3_putOut_5 rfl rfl ?_
      refine x_icmp_ge (q := 9) F 31 dX3_putOut_6 (by decide) rfl (fun c6 => ?_) (fun c6 => ?_)
      · have : n = v := by have := (nI_leI (by omega) (by omega)).mp c6; omega
        subst this
        refine fin true (nI n) (mem, no + n, pushF no out a n, a, i, p, fl) ?_
        rw [if_pos h40, Nat.min_eq_left h40] at hQ
        exact hQ
      · have hlt : n < v := by
          rcases Nat.lt_or_ge n v with q | q
          · exact q
          · exact absurd ((nI_leI (by omega) (by omega)).mpr q) c6
        refine x_iload_n (q := 10) F dX3_putOut_9 rfl rfl ?_
        refine x_if_eq (q := 13) F 31 dX3_putOut_10 (by decide) rfl (fun c10 => ?_) (fun c10 => ?_)
        · exact absurd c10 (by decide)
        · refine x_aload_n (q := 14) F dX3_putOut_13 rfl rfl (by first | exact xref_r | exact xref_n | exact xref_f _ | assumption) ?_
          refine x_get (q := 17) F dX3_putOut_14 rfl fs_X3_14 rfl rfl ?_
          refine x_aload_n (q := 18) F dX3_putOut_17 rfl rfl (by first | exact xref_r | exact xref_n | exact xref_f _ | assumption) ?_
          refine x_get (q := 21) F dX3_putOut_18 rfl fs_X3_20 rfl rfl ?_
          refine x_callV1 (q := 24) F (12, 0) c_X0_add dX3_putOut_21 rfl mv_X0_add ml_X3_111 ⟨⟨xle rfl, xle rfl⟩, xle rfl, xle rfl⟩ rfl rfl (xle rfl) ?_
          refine ⟨(12, 0), (13, 0), no + n, 40, _, _, rfl, rfl, rfl, by decide, by omega, h40, fun hz _ => ?_, fun hz _ => ?_⟩
          · refine x_istore_n (q := 25) F dX3_putOut_24 rfl (by decide) ?_
            refine x_iinc (q := 28) F dX3_putOut_25 rfl rfl rfl (by decide) ?_
            refine x_goto F 4 dX3_putOut_28 (by decide) ?_
            refine x_ls [(0, .ref (ad (10, 0))), (1, .int (nI v)), (2, .int 0), (3, .int (nI n + 1))] rfl ?_
            have hfull : Q none ad (wR g ad st nc (mem, no + n, pushF no out a n, a, i, p, 3) fa all) := by
              rw [if_neg (by omega), pushF_full out a hz (by omega : n ≤ v), Nat.min_eq_right (by omega)] at hQ
              rw [hz]
              exact hQ
            refine x_iload_n (q := 5) F dX3_putOut_4 rfl rfl ?_
            refine x_iload_n (q := 6) F dX3_putOut_5 rfl rfl ?_
            refine x_icmp_ge (q := 9) F 31 dX3_putOut_6 (by decide) rfl (fun c6b => ?_) (fun c6b => ?_)
            · exact fin false _ (mem, no + n, pushF no out a n, a, i, p, fl) hfull
            · refine x_iload_n (q := 10) F dX3_putOut_9 rfl rfl ?_
              refine x_if_eq (q := 13) F 31 dX3_putOut_10 (by decide) rfl (fun c10b => ?_) (fun c10b => ?_)
              · exact fin false _ (mem, no + n, pushF no out a n, a, i, p, fl) hfull
              · exact absurd rfl c10b
          · rw [upd_N, pushF_s out a hz]
            refine x_h (wR_out _ _ _ _ _ _ _ _ _ _ _ _ _ _ _) ?_
            refine x_istore_n (q := 25) F dX3_putOut_24 rfl (by decide) ?_
            refine x_iinc (q := 28) F dX3_putOut_25 rfl rfl (nI_1 n) (by decide) ?_
            refine x_goto F 4 dX3_putOut_28 (by decide) ?_
            refine x_ls [(0, .ref (ad (10, 0))), (1, .int (nI v)), (2, .int 1), (3, .int (nI (n + 1)))] rfl ?_
            exact ih (v - (n + 1)) (by omega) (n + 1) rfl (by omega) (by omega)
  refine x_ls [(0, .ref (ad (10, 0))), (1, .int (nI v))] rfl ?_
  refine x_iconst (q := 1) (v := 1) F dX3_putOut_0 rfl (by decide) ?_
  refine x_istore_n (q := 2) F dX3_putOut_1 rfl (by decide) ?_
  refine x_iconst (q := 3) (v := 0) F dX3_putOut_2 rfl (by decide) ?_
  refine x_istore_n (q := 4) F dX3_putOut_3 rfl (by decide) ?_
  refine x_ls [(0, .ref (ad (10, 0))), (1, .int (nI v)), (2, .int 1), (3, .int (nI 0))] rfl ?_
  refine x_h (h2 := wR g ad st nc (mem, no + 0, pushF no out a 0, a, i, p, fl) fa all) (by rw [pushF_0]; rfl) ?_
  exact loop 0 (Nat.zero_le _) (by omega)
