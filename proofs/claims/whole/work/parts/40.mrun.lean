/-! ===== the reference: put, run ===== -/
theorem upd_same {S : Nat → Int32} {j : Nat} {v : Int32} (h : S j = v) : upd S j v = S := by
  funext i
  unfold upd
  by_cases z : i = j
  · rw [if_pos z, z, h]
  · rw [if_neg z]
theorem nI_byte (a : Nat) (ha : a < 256) : vp_nar .byte (nI a).toInt8.toInt32 &&& 255 = nI a := by rw [mb_nar, mb_b]; exact (pk_andN (by omega) 8 (by decide)).trans (by rw [Nat.mod_eq_of_lt ha])
set_option maxRecDepth 100000 in
set_option maxHeartbeats 1000000 in
theorem c_X7_put : Ct yX7_put cX7_put 4 none (xrm 0 0 0) (fun ad h av Q => ∃ g S ct V no a v, h = wM g ad S ct V ∧ av = [.ref (ad (50, 0)), .int (nI a), .int (nI v)] ∧ S 28 = nI no ∧ no ≤ 40 ∧ a < 256 ∧ v < 256 ∧ ∀ V', (∀ k, k ≠ 67 → V' k = V k) → (∀ j, j < no → V' 67 j = V 67 j) → (∀ j, no ≤ j → j < min (no + v) 40 → V' 67 j &&& 255 = nI a) → Q none ad (wM g ad (upd S 28 (nI (min (no + v) 40))) ct V')) := by
  refine Ct.of (by decide) ?_
  intro p l e s m args below meth c0 G ad h av Q F hsp
  obtain ⟨g, S, ct, V, no, a, v, rfl, rfl, e28, hno, ha, hv, hQ⟩ := hsp
  refine ⟨x_ent rfl rfl, ?_⟩
  refine x_ls [(0, .ref (ad (50, 0))), (1, .int (nI a)), (2, .int (nI v))] rfl ?_
  refine x_iconst (q := 1) (v := 0) F dX7_put_0 rfl (by decide) ?_
  refine x_istore_n (q := 2) F dX7_put_1 rfl (by decide) ?_
  refine x_ls [(0, .ref (ad (50, 0))), (1, .int (nI a)), (2, .int (nI v)), (3, .int (nI 0))] rfl ?_
  have loop : ∀ f d V1, d + f = v → no + d ≤ 40 → (∀ k, k ≠ 67 → V1 k = V k) → (∀ j, j < no → V1 67 j = V 67 j) → (∀ j, no ≤ j → j < no + d → V1 67 j &&& 255 = nI a) → xX p l e (xrm 0 0 0) s m args below meth c0 G ad (wM g ad S ct V) 4 (xZ below G ad (wM g ad S ct V) Q args s (xrm 0 0 0)) 2 [(0, .ref (ad (50, 0))), (1, .int (nI a)), (2, .int (nI v)), (3, .int (nI d))] [] ad (wM g ad (upd S 28 (nI (no + d))) ct V1) 0 0 := by
    intro f
    induction f with
    | zero =>
      intro d V1 hd h40 o1 o2 o3
      refine x_iload_n (q := 3) F dX7_put_2 rfl rfl ?_
      refine x_iload_n (q := 4) F dX7_put_3 rfl rfl ?_
      refine x_icmp_ge (q := 7) F 43 dX7_put_4 (by decide) rfl (fun c4 => ?_) (fun c4 => ?_)
      · refine x_vret F dX7_put_43 (xle rfl) (xle rfl) ?_
        have hm : min (no + v) 40 = no + d := by omega
        rw [hm] at hQ
        exact hQ V1 o1 o2 o3
      · exact absurd ((nI_leI (by omega) (by omega)).mpr (by omega)) c4
    | succ f ih =>
      intro d V1 hd h40 o1 o2 o3
      refine x_iload_n (q := 3) F dX7_put_2 rfl rfl ?_
      refine x_iload_n (q := 4) F dX7_put_3 rfl rfl ?_
      refine x_icmp_ge (q := 7) F 43 dX7_put_4 (by decide) rfl (fun c4 => ?_) (fun c4 => ?_)
      · have := (nI_leI (by omega) (by omega)).mp c4; omega
      · refine x_aload_n (q := 8) F dX7_put_7 rfl rfl (by first | exact xref_r | exact xref_n | exact xref_f _ | assumption) ?_
        refine x_mget (q := 11) F dX7_put_8 rfl fs_X7_113 rfl ?_
        refine x_topi (y := nI (no + d)) rfl ?_
        refine x_bipush (q := 13) (v := 40) F dX7_put_11 rfl (by decide) ?_
        refine x_icmp_ge (q := 16) F 43 dX7_put_13 (by decide) rfl (fun c13 => ?_) (fun c13 => ?_)
        · have hge := (nI_leI (a := 40) (by omega) (by omega)).mp c13
          have hm : min (no + v) 40 = no + d := by omega
          rw [hm] at hQ
          refine x_vret F dX7_put_43 (xle rfl) (xle rfl) ?_
          exact hQ V1 o1 o2 o3
        · have hlt : no + d < 40 := by
            rcases Nat.lt_or_ge (no + d) 40 with q | q
            · exact q
            · exact absurd ((nI_leI (a := 40) (by omega) (by omega)).mpr q) c13
          refine x_aload_n (q := 17) F dX7_put_16 rfl rfl (by first | exact xref_r | exact xref_n | exact xref_f _ | assumption) ?_
          refine x_mget (q := 20) F dX7_put_17 rfl fs_X7_67 rfl ?_
          refine x_aload_n (q := 21) F dX7_put_20 rfl rfl (by first | exact xref_r | exact xref_n | exact xref_f _ | assumption) ?_
          refine x_mget (q := 24) F dX7_put_21 rfl fs_X7_113 rfl ?_
          refine x_iload_n (q := 25) F dX7_put_24 rfl rfl ?_
          refine x_i2b (q := 26) F dX7_put_25 rfl ?_
          refine x_mbst (q := 27) F dX7_put_26 rfl rfl (by decide) (by decide) (show _ = nI (no + d) from rfl) hlt ?_
          refine x_aload_n (q := 28) F dX7_put_27 rfl rfl (by first | exact xref_r | exact xref_n | exact xref_f _ | assumption) ?_
          refine x_dup (q := 29) F dX7_put_28 rfl rfl ?_
          refine x_mget (q := 32) F dX7_put_29 rfl fs_X7_113 rfl ?_
          refine x_topi (y := nI (no + d)) rfl ?_
          refine x_iconst (q := 33) (v := 1) F dX7_put_32 rfl (by decide) ?_
          refine x_iadd (q := 34) F dX7_put_33 rfl ?_
          refine x_topi (nI_1 _) ?_
          refine x_mput (q := 37) F dX7_put_34 rfl fs_X7_113 (by decide) rfl rfl rfl ?_
          rw [upd_upd]
          refine x_iinc (q := 40) F dX7_put_37 rfl rfl (nI_1 d) (by decide) ?_
          refine x_goto F 2 dX7_put_40 (by decide) ?_
          refine x_ls [(0, .ref (ad (50, 0))), (1, .int (nI a)), (2, .int (nI v)), (3, .int (nI (d + 1)))] rfl ?_
          refine ih (d + 1) _ (by omega) (by omega) (fun k q => (upV_n _ _ _ q).trans (o1 k q)) (fun j q => (upV_ne V1 67 _ (by omega)).trans (o2 j q)) (fun j q1 q2 => ?_)
          by_cases z : j = no + d
          · subst z
            rw [upV_at]
            exact nI_byte a ha
          · rw [upV_ne _ _ _ z]
            exact o3 j q1 (by omega)
  have := loop v 0 V (by omega) (by omega) (fun _ _ => rfl) (fun _ _ => rfl) (fun j q1 q2 => by omega)
  rw [Nat.add_zero, upd_same e28] at this
  exact this
theorem push_at {no v a j : Nat} {out : Nat → Nat} {V V' : MV} (hj : j < min (no + v) 40) (o2 : ∀ j, j < no → V' 67 j = V 67 j) (o3 : ∀ j, no ≤ j → j < min (no + v) 40 → V' 67 j &&& 255 = nI a) (v2 : ∀ j, j < no → V 67 j &&& 255 = nI (out j)) : V' 67 j &&& 255 = nI (pushF no out a v j) := by
  unfold pushF
  by_cases w : no ≤ j
  · rw [if_pos ⟨w, hj⟩]; exact o3 j w hj
  · rw [if_neg (fun q => w q.1), o2 j (by omega)]; exact v2 j (by omega)
def runOK (S : Nat → Int32) (V : MV) (z : RS × Option Nat × Nat) (S' : Nat → Int32) (V' : MV) : Prop := (∀ j, j ≠ 27 → j ≠ 28 → S' j = S j) ∧ S' 27 = optI z.2.1 ∧ S' 28 = nI (rNo z.1) ∧ (∀ a, a ≠ 67 → a ≠ 68 → V' a = V a) ∧ ∀ j, j < rNo z.1 → V' 67 j &&& 255 = nI (rOut z.1 j)
theorem loopF_stop2 {nc sz : Nat} {f L V : Nat → Nat} {nk k : Nat} {q : RS} {fa : Option Nat} {d : Nat} (h : ¬ (rP q < nk ∧ rF q = 0)) : loopF nc sz f L V nk k q fa d = (q, fa, d) := by
  cases k with
  | zero => rfl
  | succ k => exact if_neg h
theorem endF_no {nk : Nat} {z : RS × Option Nat × Nat} (h : ¬ (rF z.1 = 0 ∧ rP z.1 < nk)) : endF nk z = z := if_neg h
theorem endF_stop {nc sz : Nat} {f L V : Nat → Nat} {nk k : Nat} {q : RS} {fa : Option Nat} {d : Nat} (h : ¬ (rP q < nk ∧ rF q = 0)) : endF nk (loopF nc sz f L V nk k q fa d) = (q, fa, d) := by
  rw [loopF_stop2 h]
  exact endF_no (fun w => h ⟨w.2, w.1⟩)
set_option maxRecDepth 100000 in
set_option maxHeartbeats 8000000 in
theorem c_X7_run : Ct yX7_run cX7_run 10 (some .int) (xrm 1 0 0) (fun ad h av Q => ∃ g S cn V st nc nk L Vv sz f it sc out0, h = wM g ad S (lN cn) V ∧ av = [.ref (ad (50, 0)), .int (nI sc), .int (nI it)] ∧ S 1 = nI st ∧ S 2 = nI nc ∧ nc ≤ 32 ∧ st ≤ 2000 ∧ sc < 10 ∧ it < 60 ∧ V 52 sc = nI nk ∧ nk ≤ 40 ∧ (∀ j, j < nk → (V 53 (40 * sc + j) = nI (L j) ∧ L j ∈ L14) ∧ V 54 (40 * sc + j) = nI (Vv j) ∧ Vv j < 256) ∧ V 60 it = nI sz ∧ sz ≤ 40 ∧ (∀ j, j < sz → V 61 (40 * it + j) &&& 255 = nI (f j) ∧ f j < 256) ∧
    ∀ S' V', runOK S V (runF nc sz f L Vv nk st out0) S' V' → Q (some (.int (nI (rF (runF nc sz f L Vv nk st out0).1)))) ad (wM g ad S' (lN (cn + (runF nc sz f L Vv nk st out0).2.2)) V')) := by
  refine Ct.of (by decide) ?_
  intro p0 l e s m args below meth c0 G ad h av Q F hsp
  obtain ⟨g, S, cn, V, st, nc, nk, L, Vv, sz, f, it, sc, out0, rfl, rfl, e1, e2, hnc, hst, hsc, hit, eK, hnk, hC, eZ, hsz, hB, hQ⟩ := hsp
  obtain ⟨z, hz0⟩ : ∃ z, z = runF nc sz f L Vv nk st out0 := ⟨_, rfl⟩
  rw [← hz0] at hQ
  refine ⟨x_ent rfl rfl, ?_⟩
  refine x_ls [(0, .ref (ad (50, 0))), (1, .int (nI sc)), (2, .int (nI it))] rfl ?_
  refine x_iconst (q := 1) (v := 0) F dX7_run_0 rfl (by decide) ?_
  refine x_istore_n (q := 2) F dX7_run_1 rfl (by decide) ?_
  refine x_iconst (q := 3) (v := 0) F dX7_run_2 rfl (by decide) ?_
  refine x_istore (q := 5) F dX7_run_3 rfl (by decide) ?_
  refine x_iconst (q := 6) (v := 0) F dX7_run_5 rfl (by decide) ?_
  refine x_istore (q := 8) F dX7_run_6 rfl (by decide) ?_
  refine x_iconst (q := 9) (v := 0) F dX7_run_8 rfl (by decide) ?_
  refine x_istore (q := 11) F dX7_run_9 rfl (by decide) ?_
  refine x_aload_n (q := 12) F dX7_run_11 rfl rfl (by first | exact xref_r | exact xref_n | exact xref_f _ | assumption) ?_
  refine x_iconst (q := 13) (v := 0) F dX7_run_12 rfl (by decide) ?_
  refine x_mput (q := 16) F dX7_run_13 rfl fs_X7_113 (by decide) rfl rfl rfl ?_
  refine x_aload_n (q := 17) F dX7_run_16 rfl rfl (by first | exact xref_r | exact xref_n | exact xref_f _ | assumption) ?_
  refine x_iconst (q := 18) (v := -1) F dX7_run_17 rfl (by decide) ?_
  refine x_mput (q := 21) F dX7_run_18 rfl fs_X7_64 (by decide) rfl rfl rfl ?_
  refine x_iconst (q := 22) (v := 0) F dX7_run_21 rfl (by decide) ?_
  refine x_istore (q := 24) F dX7_run_22 rfl (by decide) ?_
  have loop : ∀ k mem no out a i p pm d S1 V1, RSok (mem, no, out, a, i, p, 0) → (pm = p ∨ (nk ≤ pm ∧ nk ≤ p)) → pm ≤ 300 → d + k = st → (∀ j, j ≠ 27 → j ≠ 28 → S1 j = S j) → S1 28 = nI no → (∀ b, b ≠ 67 → b ≠ 68 → V1 b = V b) → (∀ j, j < no → V1 67 j &&& 255 = nI (out j)) → (∀ j, j < 32 → V1 68 j = nI (mem j)) → z = endF nk (loopF nc sz f L Vv nk k (mem, no, out, a, i, p, 0) none d) →
      xX p0 l e (xrm 1 0 0) s m args below meth c0 G ad (wM g ad S (lN cn) V) 10 (xZ below G ad (wM g ad S (lN cn) V) Q args s (xrm 1 0 0)) 45 [(0, .ref (ad (50, 0))), (1, .int (nI sc)), (2, .int (nI it)), (3, .int (nI a)), (4, .int (nI i)), (5, .int (nI pm)), (6, .int (nI d))] [] ad (wM g ad S1 (lN (cn + d)) V1) 0 0 := by
    intro k
    induction k with
    | zero =>
      intro mem no out a i p pm d S1 V1 hok hpm hpm3 hd s1 s2 v1 v2 v3 hz
      refine x_iload (q := 47) F dX7_run_45 rfl rfl ?_
      refine x_aload_n (q := 48) F dX7_run_47 rfl rfl (by first | exact xref_r | exact xref_n | exact xref_f _ | assumption) ?_
      refine x_mget (q := 51) F dX7_run_48 rfl fs_X7_17 rfl ?_
      refine x_iload_n (q := 52) F dX7_run_51 rfl rfl ?_
      refine x_mild (q := 53) F dX7_run_52 rfl rfl (by decide) (by decide) rfl (by omega) ?_
      refine x_topi (y := nI nk) ((congrFun (v1 52 (by decide) (by decide)) sc).trans eK) ?_
      refine x_icmp_ge (q := 56) F 482 dX7_run_53 (by decide) rfl (fun c53 => ?_) (fun c53 => ?_)
      · have hge := (nI_leI (by omega) (by omega)).mp c53
        have hz : z = ((mem, no, out, a, i, p, 0), none, d) := hz.trans (endF_stop (fun w => by have : p < nk := w.1; omega))
        rw [hz] at hQ
        refine x_aload_n (q := 483) F dX7_run_482 rfl rfl (by first | exact xref_r | exact xref_n | exact xref_f _ | assumption) ?_
        refine x_iconst (q := 484) (v := -1) F dX7_run_483 rfl (by decide) ?_
        refine x_mput (q := 487) F dX7_run_484 rfl fs_X7_64 (by decide) rfl rfl rfl ?_
        refine x_iconst (q := 488) (v := 0) F dX7_run_487 rfl (by decide) ?_
        refine x_iret F dX7_run_488 (xle rfl) (xle rfl) ?_
        exact hQ _ V1 ⟨fun j q1 q2 => (pk_un q1).trans (s1 j q1 q2), rfl, s2, v1, v2⟩
      · have hlt : pm < nk := by
          rcases Nat.lt_or_ge pm nk with q | q
          · exact q
          · exact absurd ((nI_leI (by omega) (by omega)).mpr q) c53
        have hpp : pm = p := by omega
        subst hpp
        have hz : z = ((mem, no, out, a, i, pm, 4), some pm, d) := hz.trans (if_pos ⟨rfl, hlt⟩)
        rw [hz] at hQ
        refine x_aload_n (q := 57) F dX7_run_56 rfl rfl (by first | exact xref_r | exact xref_n | exact xref_f _ | assumption) ?_
        refine x_iload (q := 59) F dX7_run_57 rfl rfl ?_
        refine x_mput (q := 62) F dX7_run_59 rfl fs_X7_64 (by decide) rfl rfl rfl ?_
        refine x_iload (q := 64) F dX7_run_62 rfl rfl ?_
        refine x_aload_n (q := 65) F dX7_run_64 rfl rfl (by first | exact xref_r | exact xref_n | exact xref_f _ | assumption) ?_
        refine x_mget (q := 68) F dX7_run_65 rfl fs_X7_73 rfl ?_
        refine x_topi (y := nI st) ((s1 1 (by decide) (by decide)).trans e1) ?_
        refine x_icmp_ne (q := 71) F 73 dX7_run_68 (by decide) rfl (fun c68 => ?_) (fun c68 => ?_)
        · exact absurd (by rw [show d = st by omega]) c68
        · refine x_iconst (q := 72) (v := 4) F dX7_run_71 rfl (by decide) ?_
          refine x_iret F dX7_run_72 (xle rfl) (xle rfl) ?_
          exact hQ _ V1 ⟨fun j q1 q2 => (pk_un q1).trans (s1 j q1 q2), rfl, s2, v1, v2⟩
    | succ k ih =>
      intro mem no out a i p pm d S1 V1 hok hpm hpm3 hd s1 s2 v1 v2 v3 hz
      obtain ⟨k1, k2, k3, k4, k5, k6, k7⟩ := hok
      have k1 : a < 256 := k1
      have k2 : i ≤ 1000000 := k2
      have k3 : no ≤ 40 := k3
      have k4 : ∀ j, mem j < 256 := k4
      have k7 : ∀ j, j < no → out j < 256 := k7
      refine x_iload (q := 47) F dX7_run_45 rfl rfl ?_
      refine x_aload_n (q := 48) F dX7_run_47 rfl rfl (by first | exact xref_r | exact xref_n | exact xref_f _ | assumption) ?_
      refine x_mget (q := 51) F dX7_run_48 rfl fs_X7_17 rfl ?_
      refine x_iload_n (q := 52) F dX7_run_51 rfl rfl ?_
      refine x_mild (q := 53) F dX7_run_52 rfl rfl (by decide) (by decide) rfl (by omega) ?_
      refine x_topi (y := nI nk) ((congrFun (v1 52 (by decide) (by decide)) sc).trans eK) ?_
      refine x_icmp_ge (q := 56) F 482 dX7_run_53 (by decide) rfl (fun c53 => ?_) (fun c53 => ?_)
      · have hge := (nI_leI (by omega) (by omega)).mp c53
        have hz : z = ((mem, no, out, a, i, p, 0), none, d) := hz.trans (endF_stop (fun w => by have : p < nk := w.1; omega))
        rw [hz] at hQ
        refine x_aload_n (q := 483) F dX7_run_482 rfl rfl (by first | exact xref_r | exact xref_n | exact xref_f _ | assumption) ?_
        refine x_iconst (q := 484) (v := -1) F dX7_run_483 rfl (by decide) ?_
        refine x_mput (q := 487) F dX7_run_484 rfl fs_X7_64 (by decide) rfl rfl rfl ?_
        refine x_iconst (q := 488) (v := 0) F dX7_run_487 rfl (by decide) ?_
        refine x_iret F dX7_run_488 (xle rfl) (xle rfl) ?_
        exact hQ _ V1 ⟨fun j q1 q2 => (pk_un q1).trans (s1 j q1 q2), rfl, s2, v1, v2⟩
      · have hlt : pm < nk := by
          rcases Nat.lt_or_ge pm nk with q | q
          · exact q
          · exact absurd ((nI_leI (by omega) (by omega)).mpr q) c53
        have hpp : pm = p := by omega
        subst hpp
        obtain ⟨⟨hl1, hl2⟩, hl3, hl4⟩ := hC pm hlt
        have hz : z = endF nk (loopF nc sz f L Vv nk k (stepF nc sz f (L pm) (Vv pm) (mem, no, out, a, i, pm + 1, 0)) (if rF (stepF nc sz f (L pm) (Vv pm) (mem, no, out, a, i, pm + 1, 0)) = 0 then none else some pm) (d + 1)) := by
          rw [hz]
          congr 1
          exact if_pos ⟨hlt, rfl⟩
        have hok1 : RSok (stepF nc sz f (L pm) (Vv pm) (mem, no, out, a, i, pm + 1, 0)) := stepF_ok ⟨k1, k2, k3, k4, (by show pm + 1 ≤ 255; omega), (by show 0 ≤ 4; omega), k7⟩ hl4 (fun j hj => (hB j hj).2)
        refine x_aload_n (q := 57) F dX7_run_56 rfl rfl (by first | exact xref_r | exact xref_n | exact xref_f _ | assumption) ?_
        refine x_iload (q := 59) F dX7_run_57 rfl rfl ?_
        refine x_mput (q := 62) F dX7_run_59 rfl fs_X7_64 (by decide) rfl rfl rfl ?_
        refine x_iload (q := 64) F dX7_run_62 rfl rfl ?_
        refine x_aload_n (q := 65) F dX7_run_64 rfl rfl (by first | exact xref_r | exact xref_n | exact xref_f _ | assumption) ?_
        refine x_mget (q := 68) F dX7_run_65 rfl fs_X7_73 rfl ?_
        refine x_topi (y := nI st) ((s1 1 (by decide) (by decide)).trans e1) ?_
        refine x_icmp_ne (q := 71) F 73 dX7_run_68 (by decide) rfl (fun c68 => ?_) (fun c68 => ?_)
        · refine x_iinc (q := 76) F dX7_run_73 rfl rfl (nI_1 d) (by decide) ?_
          refine x_aload_n (q := 77) F dX7_run_76 rfl rfl (by first | exact xref_r | exact xref_n | exact xref_f _ | assumption) ?_
          refine x_dup (q := 78) F dX7_run_77 rfl rfl ?_
          refine x_mget (q := 81) F dX7_run_78 rfl fs_X7_116 rfl ?_
          refine x_lconst (q := 82) (v := 1) F dX7_run_81 rfl (by decide) ?_
          refine x_ladd (q := 83) F dX7_run_82 rfl ?_
          rw [lN_1]
          refine x_mputL (q := 86) F dX7_run_83 rfl fs_X7_116 ?_
          refine x_aload_n (q := 87) F dX7_run_86 rfl rfl (by first | exact xref_r | exact xref_n | exact xref_f _ | assumption) ?_
          refine x_mget (q := 90) F dX7_run_87 rfl fs_X7_21 rfl ?_
          refine x_bipush (q := 92) (v := 40) F dX7_run_90 rfl (by decide) ?_
          refine x_iload_n (q := 93) F dX7_run_92 rfl rfl ?_
          refine x_imul (q := 94) F dX7_run_93 rfl ?_
          refine x_topi (pk_mul 40 sc) ?_
          refine x_iload (q := 96) F dX7_run_94 rfl rfl ?_
          refine x_iadd (q := 97) F dX7_run_96 rfl ?_
          refine x_topi (nI_add _ _) ?_
          refine x_mild (q := 98) F dX7_run_97 rfl rfl (by decide) (by decide) rfl (by omega) ?_
          refine x_topi (y := nI (L pm)) ((congrFun (v1 53 (by decide) (by decide)) _).trans hl1) ?_
          refine x_istore (q := 100) F dX7_run_98 rfl (by decide) ?_
          refine x_aload_n (q := 101) F dX7_run_100 rfl rfl (by first | exact xref_r | exact xref_n | exact xref_f _ | assumption) ?_
          refine x_mget (q := 104) F dX7_run_101 rfl fs_X7_24 rfl ?_
          refine x_bipush (q := 106) (v := 40) F dX7_run_104 rfl (by decide) ?_
          refine x_iload_n (q := 107) F dX7_run_106 rfl rfl ?_
          refine x_imul (q := 108) F dX7_run_107 rfl ?_
          refine x_topi (pk_mul 40 sc) ?_
          refine x_iload (q := 110) F dX7_run_108 rfl rfl ?_
          refine x_iadd (q := 111) F dX7_run_110 rfl ?_
          refine x_topi (nI_add _ _) ?_
          refine x_mild (q := 112) F dX7_run_111 rfl rfl (by decide) (by decide) rfl (by omega) ?_
          refine x_topi (y := nI (Vv pm)) ((congrFun (v1 54 (by decide) (by decide)) _).trans hl3) ?_
          refine x_istore (q := 114) F dX7_run_112 rfl (by decide) ?_
          refine x_iinc (q := 117) F dX7_run_114 rfl rfl (nI_1 pm) (by decide) ?_
          refine x_iload (q := 119) F dX7_run_117 rfl rfl ?_
          refine x_ls [(0, .ref (ad (50, 0))), (1, .int (nI sc)), (2, .int (nI it)), (3, .int (nI a)), (4, .int (nI i)), (5, .int (nI (pm + 1))), (6, .int (nI (d + 1))), (8, .int (nI (Vv pm)))] rfl ?_
          have t1 : ∀ j, j ≠ 27 → j ≠ 28 → upd S1 27 (nI pm) j = S j := fun j q1 q2 => (pk_un q1).trans (s1 j q1 q2)
          have t2 : upd S1 27 (nI pm) 28 = nI no := s2
          have t27 : upd S1 27 (nI pm) 27 = nI pm := rfl
          show xX p0 l e (xrm 1 0 0) s m args below meth c0 G ad _ _ _ 119 _ _ ad (wM g ad (upd S1 27 (nI pm)) (lN (cn + (d + 1))) V1) 0 0
          generalize upd S1 27 (nI pm) = S2 at t1 t2 t27 ⊢
          generalize Vv pm = v at hz hok1 hl4 ⊢
          generalize L pm = c at hz hok1 hl2 ⊢
          clear hl1 hl3 hC
          simp only [L14, List.mem_cons, List.not_mem_nil, or_false] at hl2
          rcases hl2 with rfl | rfl | rfl | rfl | rfl | rfl | rfl | rfl | rfl | rfl | rfl | rfl | rfl | rfl
          · refine x_tableIn F 236 dX7_run_119 (by decide) (by decide) (off := 117) (by decide) (by decide) ?_
            refine x_iload (q := 238) F dX7_run_236 rfl rfl ?_
            refine x_iload (q := 240) F dX7_run_238 rfl rfl ?_
            refine x_iadd (q := 241) F dX7_run_240 rfl ?_
            refine x_topi (nI_add _ _) ?_
            refine x_aload_n (q := 242) F dX7_run_241 rfl rfl (by first | exact xref_r | exact xref_n | exact xref_f _ | assumption) ?_
            refine x_mget (q := 245) F dX7_run_242 rfl fs_X7_42 rfl ?_
            refine x_iload_n (q := 246) F dX7_run_245 rfl rfl ?_
            refine x_mild (q := 247) F dX7_run_246 rfl rfl (by decide) (by decide) rfl (by omega) ?_
            refine x_topi (y := nI sz) ((congrFun (v1 60 (by decide) (by decide)) it).trans eZ) ?_
            refine x_icmp_lt (q := 250) F 252 dX7_run_247 (by decide) rfl (fun c247 => ?_) (fun c247 => ?_)
            · have hv := (nI_ltI (by omega) (by omega)).mp c247
              rw [show stepF nc sz f 114 v (mem, no, out, a, i, pm + 1, 0) = (mem, no, out, f (i + v), i, pm + 1, 0) from if_pos hv] at hz hok1
              refine x_aload_n (q := 253) F dX7_run_252 rfl rfl (by first | exact xref_r | exact xref_n | exact xref_f _ | assumption) ?_
              refine x_mget (q := 256) F dX7_run_253 rfl fs_X7_45 rfl ?_
              refine x_bipush (q := 258) (v := 40) F dX7_run_256 rfl (by decide) ?_
              refine x_iload_n (q := 259) F dX7_run_258 rfl rfl ?_
              refine x_imul (q := 260) F dX7_run_259 rfl ?_
              refine x_topi (pk_mul 40 it) ?_
              refine x_iload (q := 262) F dX7_run_260 rfl rfl ?_
              refine x_iadd (q := 263) F dX7_run_262 rfl ?_
              refine x_topi (nI_add _ _) ?_
              refine x_iload (q := 265) F dX7_run_263 rfl rfl ?_
              refine x_iadd (q := 266) F dX7_run_265 rfl ?_
              refine x_topi (nI_add _ _) ?_
              refine x_mbld (q := 267) F dX7_run_266 rfl rfl (by decide) (by decide) rfl (by omega) ?_
              refine x_sipush (q := 270) (v := 255) F dX7_run_267 rfl (by decide) ?_
              refine x_iand (q := 271) F dX7_run_270 rfl ?_
              refine x_topi (y := nI (f (i + v))) (by rw [congrFun (v1 61 (by decide) (by decide)) (40 * it + i + v), Nat.add_assoc]; exact (hB (i + v) hv).1) ?_
              refine x_istore_n (q := 272) F dX7_run_271 rfl (by decide) ?_
              refine x_goto F 479 dX7_run_272 (by decide) ?_
              refine x_goto F 45 dX7_run_479 (by decide) ?_
              refine x_ls [(0, .ref (ad (50, 0))), (1, .int (nI sc)), (2, .int (nI it)), (3, .int (nI (f (i + v)))), (4, .int (nI i)), (5, .int (nI (pm + 1))), (6, .int (nI (d + 1)))] rfl ?_
              exact ih mem no out (f (i + v)) i (pm + 1) (pm + 1) (d + 1) _ V1 hok1 (Or.inl rfl) (by omega) (by omega) t1 t2 v1 v2 v3 hz
            · have hv : ¬ i + v < sz := fun w => c247 ((nI_ltI (by omega) (by omega)).mpr w)
              rw [show stepF nc sz f 114 v (mem, no, out, a, i, pm + 1, 0) = (mem, no, out, a, i, pm + 1, 2) from if_neg hv] at hz
              have hz : z = ((mem, no, out, a, i, pm + 1, 2), some pm, d + 1) := hz.trans (endF_stop (fun w => by have : 2 = 0 := w.2; omega))
              rw [hz] at hQ
              refine x_iconst (q := 251) (v := 2) F dX7_run_250 rfl (by decide) ?_
              refine x_iret F dX7_run_251 (xle rfl) (xle rfl) ?_
              exact hQ _ _ ⟨t1, t27, t2, v1, v2⟩
          · refine x_tableIn F 275 dX7_run_119 (by decide) (by decide) (off := 156) (by decide) (by decide) ?_
            rw [show stepF nc sz f 119 v (mem, no, out, a, i, pm + 1, 0) = (mem, min (no + v) 40, pushF no out a v, a, i, pm + 1, if no + v ≤ 40 then 0 else 3) from rfl] at hz hok1
            refine x_aload_n (q := 276) F dX7_run_275 rfl rfl (by first | exact xref_r | exact xref_n | exact xref_f _ | assumption) ?_
            refine x_mget (q := 279) F dX7_run_276 rfl fs_X7_113 rfl ?_
            refine x_topi (y := nI no) t2 ?_
            refine x_iload (q := 281) F dX7_run_279 rfl rfl ?_
            refine x_iadd (q := 282) F dX7_run_281 rfl ?_
            refine x_topi (nI_add _ _) ?_
            refine x_bipush (q := 284) (v := 40) F dX7_run_282 rfl (by decide) ?_
            refine x_icmp_gt (q := 287) F 291 dX7_run_284 (by decide) rfl (fun c284 => ?_) (fun c284 => ?_)
            · have hv := (nI_ltI (a := 40) (by omega) (by omega)).mp c284
              rw [if_neg (show ¬ no + v ≤ 40 by omega)] at hz
              have hz : z = ((mem, min (no + v) 40, pushF no out a v, a, i, pm + 1, 3), some pm, d + 1) := hz.trans (endF_stop (fun w => by have : 3 = 0 := w.2; omega))
              rw [hz] at hQ
              refine x_iconst (q := 292) (v := 0) F dX7_run_291 rfl (by decide) ?_
              refine x_istore (q := 294) F dX7_run_292 rfl (by decide) ?_
              refine x_aload_n (q := 295) F dX7_run_294 rfl rfl (by first | exact xref_r | exact xref_n | exact xref_f _ | assumption) ?_
              refine x_iload_n (q := 296) F dX7_run_295 rfl rfl ?_
              refine x_iload (q := 298) F dX7_run_296 rfl rfl ?_
              refine x_callV2 (q := 301) F (50, 0) c_X7_put dX7_run_298 rfl mv_X7_put ml_X7_120 ⟨⟨xle rfl, xle rfl⟩, xle rfl, xle rfl⟩ rfl (wM_o _ _ _ _ _) (xle rfl) ?_
              refine ⟨g, S2, _, V1, no, a, v, rfl, rfl, t2, k3, k1, hl4, fun V' o1 o2 o3 _ => ?_⟩
              refine x_iload (q := 303) F dX7_run_301 rfl rfl ?_
              refine x_if_ne (q := 306) F 479 dX7_run_303 (by decide) rfl (fun c303 => ?_) (fun c303 => ?_)
              · exact absurd rfl c303
              · refine x_iconst (q := 307) (v := 3) F dX7_run_306 rfl (by decide) ?_
                refine x_iret F dX7_run_307 (xle rfl) (xle rfl) ?_
                refine hQ _ _ ⟨fun j q1 q2 => (pk_un q2).trans (t1 j q1 q2), t27, rfl, fun b q1 q2 => (o1 b q1).trans (v1 b q1 q2), fun j hj => ?_⟩
                exact push_at hj o2 o3 v2
            · have hv : no + v ≤ 40 := by
                rcases Nat.lt_or_ge 40 (no + v) with q | q
                · exact absurd ((nI_ltI (a := 40) (by omega) (by omega)).mpr q) c284
                · exact q
              rw [if_pos hv] at hz hok1
              refine x_iconst (q := 288) (v := 1) F dX7_run_287 rfl (by decide) ?_
              refine x_goto F 292 dX7_run_288 (by decide) ?_
              refine x_istore (q := 294) F dX7_run_292 rfl (by decide) ?_
              refine x_aload_n (q := 295) F dX7_run_294 rfl rfl (by first | exact xref_r | exact xref_n | exact xref_f _ | assumption) ?_
              refine x_iload_n (q := 296) F dX7_run_295 rfl rfl ?_
              refine x_iload (q := 298) F dX7_run_296 rfl rfl ?_
              refine x_callV2 (q := 301) F (50, 0) c_X7_put dX7_run_298 rfl mv_X7_put ml_X7_120 ⟨⟨xle rfl, xle rfl⟩, xle rfl, xle rfl⟩ rfl (wM_o _ _ _ _ _) (xle rfl) ?_
              refine ⟨g, S2, _, V1, no, a, v, rfl, rfl, t2, k3, k1, hl4, fun V' o1 o2 o3 _ => ?_⟩
              refine x_iload (q := 303) F dX7_run_301 rfl rfl ?_
              refine x_if_ne (q := 306) F 479 dX7_run_303 (by decide) rfl (fun c303 => ?_) (fun c303 => ?_)
              · refine x_goto F 45 dX7_run_479 (by decide) ?_
                refine x_ls [(0, .ref (ad (50, 0))), (1, .int (nI sc)), (2, .int (nI it)), (3, .int (nI a)), (4, .int (nI i)), (5, .int (nI (pm + 1))), (6, .int (nI (d + 1)))] rfl ?_
                exact ih mem (min (no + v) 40) (pushF no out a v) a i (pm + 1) (pm + 1) (d + 1) _ V' hok1 (Or.inl rfl) (by omega) (by omega) (fun j q1 q2 => (pk_un q2).trans (t1 j q1 q2)) rfl (fun b q1 q2 => (o1 b q1).trans (v1 b q1 q2)) (fun j hj => push_at hj o2 o3 v2) (fun j hj => (congrFun (o1 68 (by decide)) j).trans (v3 j hj)) hz
              · exact absurd c303 (by decide)
          · refine x_tableIn F 308 dX7_run_119 (by decide) (by decide) (off := 189) (by decide) (by decide) ?_
            refine x_iload_n (q := 309) F dX7_run_308 rfl rfl ?_
            refine x_iload (q := 311) F dX7_run_309 rfl rfl ?_
            refine x_iadd (q := 312) F dX7_run_311 rfl ?_
            refine x_topi (nI_add _ _) ?_
            refine x_sipush (q := 315) (v := 256) F dX7_run_312 rfl (by decide) ?_
            refine x_irem (q := 316) F dX7_run_315 rfl (by decide) ?_
            refine x_topi (y := nI ((a + v) % 256)) (pk_rem (a := a + v) (d := 256) (by omega) (by omega) (by omega)) ?_
            refine x_istore_n (q := 317) F dX7_run_316 rfl (by decide) ?_
            refine x_goto F 479 dX7_run_317 (by decide) ?_
            refine x_goto F 45 dX7_run_479 (by decide) ?_
            refine x_ls [(0, .ref (ad (50, 0))), (1, .int (nI sc)), (2, .int (nI it)), (3, .int (nI ((a + v) % 256))), (4, .int (nI i)), (5, .int (nI (pm + 1))), (6, .int (nI (d + 1)))] rfl ?_
            exact ih mem no out ((a + v) % 256) i (pm + 1) (pm + 1) (d + 1) _ V1 hok1 (Or.inl rfl) (by omega) (by omega) t1 t2 v1 v2 v3 hz
          · refine x_tableIn F 320 dX7_run_119 (by decide) (by decide) (off := 201) (by decide) (by decide) ?_
            refine x_iload_n (q := 321) F dX7_run_320 rfl rfl ?_
            refine x_iload (q := 323) F dX7_run_321 rfl rfl ?_
            refine x_ixor (q := 324) F dX7_run_323 rfl ?_
            refine x_topi (nI_xor a v) ?_
            refine x_istore_n (q := 325) F dX7_run_324 rfl (by decide) ?_
            refine x_goto F 479 dX7_run_325 (by decide) ?_
            refine x_goto F 45 dX7_run_479 (by decide) ?_
            refine x_ls [(0, .ref (ad (50, 0))), (1, .int (nI sc)), (2, .int (nI it)), (3, .int (nI (a ^^^ v))), (4, .int (nI i)), (5, .int (nI (pm + 1))), (6, .int (nI (d + 1)))] rfl ?_
            exact ih mem no out (a ^^^ v) i (pm + 1) (pm + 1) (d + 1) _ V1 hok1 (Or.inl rfl) (by omega) (by omega) t1 t2 v1 v2 v3 hz
          · refine x_tableIn F 328 dX7_run_119 (by decide) (by decide) (off := 209) (by decide) (by decide) ?_
            refine x_iload (q := 330) F dX7_run_328 rfl rfl ?_
            refine x_aload_n (q := 331) F dX7_run_330 rfl rfl (by first | exact xref_r | exact xref_n | exact xref_f _ | assumption) ?_
            refine x_mget (q := 334) F dX7_run_331 rfl fs_X7_76 rfl ?_
            refine x_topi (y := nI nc) ((t1 2 (by decide) (by decide)).trans e2) ?_
            refine x_icmp_lt (q := 337) F 339 dX7_run_334 (by decide) rfl (fun c334 => ?_) (fun c334 => ?_)
            · have hv := (nI_ltI (by omega) (by omega)).mp c334
              rw [show stepF nc sz f 115 v (mem, no, out, a, i, pm + 1, 0) = (updN mem v a, no, out, a, i, pm + 1, 0) from if_pos hv] at hz hok1
              refine x_aload_n (q := 340) F dX7_run_339 rfl rfl (by first | exact xref_r | exact xref_n | exact xref_f _ | assumption) ?_
              refine x_mget (q := 343) F dX7_run_340 rfl fs_X7_70 rfl ?_
              refine x_iload (q := 345) F dX7_run_343 rfl rfl ?_
              refine x_iload_n (q := 346) F dX7_run_345 rfl rfl ?_
              refine x_mist (q := 347) F dX7_run_346 rfl rfl (by decide) (by decide) rfl (by omega) ?_
              refine x_goto F 479 dX7_run_347 (by decide) ?_
              refine x_goto F 45 dX7_run_479 (by decide) ?_
              refine x_ls [(0, .ref (ad (50, 0))), (1, .int (nI sc)), (2, .int (nI it)), (3, .int (nI a)), (4, .int (nI i)), (5, .int (nI (pm + 1))), (6, .int (nI (d + 1)))] rfl ?_
              exact ih (updN mem v a) no out a i (pm + 1) (pm + 1) (d + 1) _ _ hok1 (Or.inl rfl) (by omega) (by omega) t1 t2 (fun b q1 q2 => (upV_n _ _ _ q2).trans (v1 b q1 q2)) v2 (fun j hj => by
                by_cases w : j = v
                · subst w; rw [upV_at, updN_self]
                · rw [upV_ne _ _ _ w, updN_ne _ _ w]; exact v3 j hj) hz
            · have hv : ¬ v < nc := fun w => c334 ((nI_ltI (by omega) (by omega)).mpr w)
              rw [show stepF nc sz f 115 v (mem, no, out, a, i, pm + 1, 0) = (mem, no, out, a, i, pm + 1, 3) from if_neg hv] at hz
              have hz : z = ((mem, no, out, a, i, pm + 1, 3), some pm, d + 1) := hz.trans (endF_stop (fun w => by have : 3 = 0 := w.2; omega))
              rw [hz] at hQ
              refine x_iconst (q := 338) (v := 3) F dX7_run_337 rfl (by decide) ?_
              refine x_iret F dX7_run_338 (xle rfl) (xle rfl) ?_
              exact hQ _ _ ⟨t1, t27, t2, v1, v2⟩
          · refine x_tableIn F 350 dX7_run_119 (by decide) (by decide) (off := 231) (by decide) (by decide) ?_
            refine x_iload (q := 352) F dX7_run_350 rfl rfl ?_
            refine x_aload_n (q := 353) F dX7_run_352 rfl rfl (by first | exact xref_r | exact xref_n | exact xref_f _ | assumption) ?_
            refine x_mget (q := 356) F dX7_run_353 rfl fs_X7_76 rfl ?_
            refine x_topi (y := nI nc) ((t1 2 (by decide) (by decide)).trans e2) ?_
            refine x_icmp_lt (q := 359) F 361 dX7_run_356 (by decide) rfl (fun c356 => ?_) (fun c356 => ?_)
            · have hv := (nI_ltI (by omega) (by omega)).mp c356
              rw [show stepF nc sz f 103 v (mem, no, out, a, i, pm + 1, 0) = (mem, no, out, mem v, i, pm + 1, 0) from if_pos hv] at hz hok1
              refine x_aload_n (q := 362) F dX7_run_361 rfl rfl (by first | exact xref_r | exact xref_n | exact xref_f _ | assumption) ?_
              refine x_mget (q := 365) F dX7_run_362 rfl fs_X7_70 rfl ?_
              refine x_iload (q := 367) F dX7_run_365 rfl rfl ?_
              refine x_mild (q := 368) F dX7_run_367 rfl rfl (by decide) (by decide) rfl (by omega) ?_
              refine x_topi (y := nI (mem v)) (v3 v (by omega)) ?_
              refine x_istore_n (q := 369) F dX7_run_368 rfl (by decide) ?_
              refine x_goto F 479 dX7_run_369 (by decide) ?_
              refine x_goto F 45 dX7_run_479 (by decide) ?_
              refine x_ls [(0, .ref (ad (50, 0))), (1, .int (nI sc)), (2, .int (nI it)), (3, .int (nI (mem v))), (4, .int (nI i)), (5, .int (nI (pm + 1))), (6, .int (nI (d + 1)))] rfl ?_
              exact ih mem no out (mem v) i (pm + 1) (pm + 1) (d + 1) _ V1 hok1 (Or.inl rfl) (by omega) (by omega) t1 t2 v1 v2 v3 hz
            · have hv : ¬ v < nc := fun w => c356 ((nI_ltI (by omega) (by omega)).mpr w)
              rw [show stepF nc sz f 103 v (mem, no, out, a, i, pm + 1, 0) = (mem, no, out, a, i, pm + 1, 3) from if_neg hv] at hz
              have hz : z = ((mem, no, out, a, i, pm + 1, 3), some pm, d + 1) := hz.trans (endF_stop (fun w => by have : 3 = 0 := w.2; omega))
              rw [hz] at hQ
              refine x_iconst (q := 360) (v := 3) F dX7_run_359 rfl (by decide) ?_
              refine x_iret F dX7_run_360 (xle rfl) (xle rfl) ?_
              exact hQ _ _ ⟨t1, t27, t2, v1, v2⟩
          · refine x_tableIn F 372 dX7_run_119 (by decide) (by decide) (off := 253) (by decide) (by decide) ?_
            refine x_iload (q := 374) F dX7_run_372 rfl rfl ?_
            refine x_iload (q := 376) F dX7_run_374 rfl rfl ?_
            refine x_iadd (q := 377) F dX7_run_376 rfl ?_
            refine x_topi (nI_add _ _) ?_
            refine x_ldc (q := 379) F dX7_run_377 rfl ct_X7_124 ?_
            refine x_icmp_le (q := 382) F 387 dX7_run_379 (by decide) rfl (fun c379 => ?_) (fun c379 => ?_)
            · have hv := (nI_leI (a := i + v) (b := 1000000) (by omega) (by omega)).mp c379
              refine x_iload (q := 389) F dX7_run_387 rfl rfl ?_
              refine x_iload (q := 391) F dX7_run_389 rfl rfl ?_
              refine x_iadd (q := 392) F dX7_run_391 rfl ?_
              refine x_topi (y := nI (min (i + v) 1000000)) (by rw [nI_add, Nat.min_eq_left hv]) ?_
              refine x_istore (q := 394) F dX7_run_392 rfl (by decide) ?_
              refine x_goto F 479 dX7_run_394 (by decide) ?_
              refine x_goto F 45 dX7_run_479 (by decide) ?_
              refine x_ls [(0, .ref (ad (50, 0))), (1, .int (nI sc)), (2, .int (nI it)), (3, .int (nI a)), (4, .int (nI (min (i + v) 1000000))), (5, .int (nI (pm + 1))), (6, .int (nI (d + 1)))] rfl ?_
              exact ih mem no out a (min (i + v) 1000000) (pm + 1) (pm + 1) (d + 1) _ V1 hok1 (Or.inl rfl) (by omega) (by omega) t1 t2 v1 v2 v3 hz
            · have hv : 1000000 ≤ i + v := by
                rcases Nat.lt_or_ge (i + v) 1000000 with q | q
                · exact absurd ((nI_leI (a := i + v) (b := 1000000) (by omega) (by omega)).mpr (by omega)) c379
                · exact q
              refine x_ldc (q := 384) F dX7_run_382 rfl ct_X7_124 ?_
              refine x_goto F 392 dX7_run_384 (by decide) ?_
              refine x_topi (y := nI (min (i + v) 1000000)) (by rw [Nat.min_eq_right hv]; rfl) ?_
              refine x_istore (q := 394) F dX7_run_392 rfl (by decide) ?_
              refine x_goto F 479 dX7_run_394 (by decide) ?_
              refine x_goto F 45 dX7_run_479 (by decide) ?_
              refine x_ls [(0, .ref (ad (50, 0))), (1, .int (nI sc)), (2, .int (nI it)), (3, .int (nI a)), (4, .int (nI (min (i + v) 1000000))), (5, .int (nI (pm + 1))), (6, .int (nI (d + 1)))] rfl ?_
              exact ih mem no out a (min (i + v) 1000000) (pm + 1) (pm + 1) (d + 1) _ V1 hok1 (Or.inl rfl) (by omega) (by omega) t1 t2 v1 v2 v3 hz
          · refine x_tableIn F 397 dX7_run_119 (by decide) (by decide) (off := 278) (by decide) (by decide) ?_
            refine x_iload (q := 399) F dX7_run_397 rfl rfl ?_
            refine x_istore (q := 401) F dX7_run_399 rfl (by decide) ?_
            refine x_goto F 479 dX7_run_401 (by decide) ?_
            refine x_goto F 45 dX7_run_479 (by decide) ?_
            refine x_ls [(0, .ref (ad (50, 0))), (1, .int (nI sc)), (2, .int (nI it)), (3, .int (nI a)), (4, .int (nI v)), (5, .int (nI (pm + 1))), (6, .int (nI (d + 1)))] rfl ?_
            exact ih mem no out a v (pm + 1) (pm + 1) (d + 1) _ V1 hok1 (Or.inl rfl) (by omega) (by omega) t1 t2 v1 v2 v3 hz
          · refine x_tableIn F 404 dX7_run_119 (by decide) (by decide) (off := 285) (by decide) (by decide) ?_
            refine x_iload_n (q := 405) F dX7_run_404 rfl rfl ?_
            refine x_if_eq (q := 408) F 413 dX7_run_405 (by decide) rfl (fun c405 => ?_) (fun c405 => ?_)
            · have ha : a = 0 := (nI_eq (a := a) (b := 0) (by omega) (by omega)).mp c405
              rw [show stepF nc sz f 106 v (mem, no, out, a, i, pm + 1, 0) = (mem, no, out, a, i, (if a = 0 then pm + 1 else v), 0) from rfl, if_pos ha] at hz hok1
              refine x_iload (q := 415) F dX7_run_413 rfl rfl ?_
              refine x_istore (q := 417) F dX7_run_415 rfl (by decide) ?_
              refine x_goto F 479 dX7_run_417 (by decide) ?_
              refine x_goto F 45 dX7_run_479 (by decide) ?_
              refine x_ls [(0, .ref (ad (50, 0))), (1, .int (nI sc)), (2, .int (nI it)), (3, .int (nI a)), (4, .int (nI i)), (5, .int (nI (pm + 1))), (6, .int (nI (d + 1)))] rfl ?_
              exact ih mem no out a i (pm + 1) (pm + 1) (d + 1) _ V1 hok1 (Or.inl rfl) (by omega) (by omega) t1 t2 v1 v2 v3 hz
            · have ha : ¬ a = 0 := fun w => c405 (by rw [w]; rfl)
              rw [show stepF nc sz f 106 v (mem, no, out, a, i, pm + 1, 0) = (mem, no, out, a, i, (if a = 0 then pm + 1 else v), 0) from rfl, if_neg ha] at hz hok1
              refine x_iload (q := 410) F dX7_run_408 rfl rfl ?_
              refine x_goto F 415 dX7_run_410 (by decide) ?_
              refine x_istore (q := 417) F dX7_run_415 rfl (by decide) ?_
              refine x_goto F 479 dX7_run_417 (by decide) ?_
              refine x_goto F 45 dX7_run_479 (by decide) ?_
              refine x_ls [(0, .ref (ad (50, 0))), (1, .int (nI sc)), (2, .int (nI it)), (3, .int (nI a)), (4, .int (nI i)), (5, .int (nI v)), (6, .int (nI (d + 1)))] rfl ?_
              exact ih mem no out a i v v (d + 1) _ V1 hok1 (Or.inl rfl) (by omega) (by omega) t1 t2 v1 v2 v3 hz
          · refine x_tableIn F 420 dX7_run_119 (by decide) (by decide) (off := 301) (by decide) (by decide) ?_
            refine x_iload_n (q := 421) F dX7_run_420 rfl rfl ?_
            refine x_if_ne (q := 424) F 429 dX7_run_421 (by decide) rfl (fun c421 => ?_) (fun c421 => ?_)
            · have ha : ¬ a = 0 := fun w => c421 (by rw [w]; rfl)
              rw [show stepF nc sz f 122 v (mem, no, out, a, i, pm + 1, 0) = (mem, no, out, a, i, (if a = 0 then v else pm + 1), 0) from rfl, if_neg ha] at hz hok1
              refine x_iload (q := 431) F dX7_run_429 rfl rfl ?_
              refine x_istore (q := 433) F dX7_run_431 rfl (by decide) ?_
              refine x_goto F 479 dX7_run_433 (by decide) ?_
              refine x_goto F 45 dX7_run_479 (by decide) ?_
              refine x_ls [(0, .ref (ad (50, 0))), (1, .int (nI sc)), (2, .int (nI it)), (3, .int (nI a)), (4, .int (nI i)), (5, .int (nI (pm + 1))), (6, .int (nI (d + 1)))] rfl ?_
              exact ih mem no out a i (pm + 1) (pm + 1) (d + 1) _ V1 hok1 (Or.inl rfl) (by omega) (by omega) t1 t2 v1 v2 v3 hz
            · have ha : a = 0 := (nI_eq (a := a) (b := 0) (by omega) (by omega)).mp c421
              rw [show stepF nc sz f 122 v (mem, no, out, a, i, pm + 1, 0) = (mem, no, out, a, i, (if a = 0 then v else pm + 1), 0) from rfl, if_pos ha] at hz hok1
              refine x_iload (q := 426) F dX7_run_424 rfl rfl ?_
              refine x_goto F 431 dX7_run_426 (by decide) ?_
              refine x_istore (q := 433) F dX7_run_431 rfl (by decide) ?_
              refine x_goto F 479 dX7_run_433 (by decide) ?_
              refine x_goto F 45 dX7_run_479 (by decide) ?_
              refine x_ls [(0, .ref (ad (50, 0))), (1, .int (nI sc)), (2, .int (nI it)), (3, .int (nI a)), (4, .int (nI i)), (5, .int (nI v)), (6, .int (nI (d + 1)))] rfl ?_
              exact ih mem no out a i v v (d + 1) _ V1 hok1 (Or.inl rfl) (by omega) (by omega) t1 t2 v1 v2 v3 hz
          · refine x_tableIn F 436 dX7_run_119 (by decide) (by decide) (off := 317) (by decide) (by decide) ?_
            refine x_iload (q := 438) F dX7_run_436 rfl rfl ?_
            refine x_aload_n (q := 439) F dX7_run_438 rfl rfl (by first | exact xref_r | exact xref_n | exact xref_f _ | assumption) ?_
            refine x_mget (q := 442) F dX7_run_439 rfl fs_X7_42 rfl ?_
            refine x_iload_n (q := 443) F dX7_run_442 rfl rfl ?_
            refine x_mild (q := 444) F dX7_run_443 rfl rfl (by decide) (by decide) rfl (by omega) ?_
            refine x_topi (y := nI sz) ((congrFun (v1 60 (by decide) (by decide)) it).trans eZ) ?_
            refine x_icmp_lt (q := 447) F 452 dX7_run_444 (by decide) rfl (fun c444 => ?_) (fun c444 => ?_)
            · have hv := (nI_ltI (by omega) (by omega)).mp c444
              rw [show stepF nc sz f 101 v (mem, no, out, a, i, pm + 1, 0) = (mem, no, out, a, i, (if sz ≤ i then v else pm + 1), 0) from rfl, if_neg (by omega)] at hz hok1
              refine x_iload (q := 454) F dX7_run_452 rfl rfl ?_
              refine x_istore (q := 456) F dX7_run_454 rfl (by decide) ?_
              refine x_goto F 479 dX7_run_456 (by decide) ?_
              refine x_goto F 45 dX7_run_479 (by decide) ?_
              refine x_ls [(0, .ref (ad (50, 0))), (1, .int (nI sc)), (2, .int (nI it)), (3, .int (nI a)), (4, .int (nI i)), (5, .int (nI (pm + 1))), (6, .int (nI (d + 1)))] rfl ?_
              exact ih mem no out a i (pm + 1) (pm + 1) (d + 1) _ V1 hok1 (Or.inl rfl) (by omega) (by omega) t1 t2 v1 v2 v3 hz
            · have hv : sz ≤ i := by
                rcases Nat.lt_or_ge i sz with q | q
                · exact absurd ((nI_ltI (by omega) (by omega)).mpr q) c444
                · exact q
              rw [show stepF nc sz f 101 v (mem, no, out, a, i, pm + 1, 0) = (mem, no, out, a, i, (if sz ≤ i then v else pm + 1), 0) from rfl, if_pos hv] at hz hok1
              refine x_iload (q := 449) F dX7_run_447 rfl rfl ?_
              refine x_goto F 454 dX7_run_449 (by decide) ?_
              refine x_istore (q := 456) F dX7_run_454 rfl (by decide) ?_
              refine x_goto F 479 dX7_run_456 (by decide) ?_
              refine x_goto F 45 dX7_run_479 (by decide) ?_
              refine x_ls [(0, .ref (ad (50, 0))), (1, .int (nI sc)), (2, .int (nI it)), (3, .int (nI a)), (4, .int (nI i)), (5, .int (nI v)), (6, .int (nI (d + 1)))] rfl ?_
              exact ih mem no out a i v v (d + 1) _ V1 hok1 (Or.inl rfl) (by omega) (by omega) t1 t2 v1 v2 v3 hz
          · refine x_tableIn F 459 dX7_run_119 (by decide) (by decide) (off := 340) (by decide) (by decide) ?_
            refine x_iload (q := 461) F dX7_run_459 rfl rfl ?_
            refine x_istore (q := 463) F dX7_run_461 rfl (by decide) ?_
            refine x_goto F 479 dX7_run_463 (by decide) ?_
            refine x_goto F 45 dX7_run_479 (by decide) ?_
            refine x_ls [(0, .ref (ad (50, 0))), (1, .int (nI sc)), (2, .int (nI it)), (3, .int (nI a)), (4, .int (nI i)), (5, .int (nI v)), (6, .int (nI (d + 1)))] rfl ?_
            exact ih mem no out a i v v (d + 1) _ V1 hok1 (Or.inl rfl) (by omega) (by omega) t1 t2 v1 v2 v3 hz
          · refine x_tableIn F 466 dX7_run_119 (by decide) (by decide) (off := 347) (by decide) (by decide) ?_
            refine x_iload_n (q := 467) F dX7_run_466 rfl rfl ?_
            refine x_iload (q := 469) F dX7_run_467 rfl rfl ?_
            refine x_icmp_eq (q := 472) F 479 dX7_run_469 (by decide) rfl (fun c469 => ?_) (fun c469 => ?_)
            · have ha : a = v := (nI_eq (by omega) (by omega)).mp c469
              rw [show stepF nc sz f 102 v (mem, no, out, a, i, pm + 1, 0) = (mem, no, out, a, i, pm + 1, if a = v then 0 else 1) from rfl, if_pos ha] at hz hok1
              refine x_goto F 45 dX7_run_479 (by decide) ?_
              refine x_ls [(0, .ref (ad (50, 0))), (1, .int (nI sc)), (2, .int (nI it)), (3, .int (nI a)), (4, .int (nI i)), (5, .int (nI (pm + 1))), (6, .int (nI (d + 1)))] rfl ?_
              exact ih mem no out a i (pm + 1) (pm + 1) (d + 1) _ V1 hok1 (Or.inl rfl) (by omega) (by omega) t1 t2 v1 v2 v3 hz
            · have ha : ¬ a = v := fun w => c469 (by rw [w])
              rw [show stepF nc sz f 102 v (mem, no, out, a, i, pm + 1, 0) = (mem, no, out, a, i, pm + 1, if a = v then 0 else 1) from rfl, if_neg ha] at hz
              have hz : z = ((mem, no, out, a, i, pm + 1, 1), some pm, d + 1) := hz.trans (endF_stop (fun w => by have : 1 = 0 := w.2; omega))
              rw [hz] at hQ
              refine x_iconst (q := 473) (v := 1) F dX7_run_472 rfl (by decide) ?_
              refine x_iret F dX7_run_473 (xle rfl) (xle rfl) ?_
              exact hQ _ _ ⟨t1, t27, t2, v1, v2⟩
          · refine x_tableIn F 474 dX7_run_119 (by decide) (by decide) (off := 355) (by decide) (by decide) ?_
            refine x_sipush (q := 477) (v := 255) F dX7_run_474 rfl (by decide) ?_
            refine x_istore (q := 479) F dX7_run_477 rfl (by decide) ?_
            refine x_goto F 45 dX7_run_479 (by decide) ?_
            refine x_ls [(0, .ref (ad (50, 0))), (1, .int (nI sc)), (2, .int (nI it)), (3, .int (nI a)), (4, .int (nI i)), (5, .int (nI 255)), (6, .int (nI (d + 1)))] rfl ?_
            exact ih mem no out a i 40 255 (d + 1) _ V1 hok1 (Or.inr ⟨by omega, hnk⟩) (by omega) (by omega) t1 t2 v1 v2 v3 hz
        · exact absurd (fun w => by have := (nI_eq (a := d) (b := st) (by omega) (by omega)).mp w; omega) (fun w => w c68)
  have zero : ∀ f d V1, d + f = 32 → (∀ b, b ≠ 68 → V1 b = V b) → (∀ j, j < d → V1 68 j = nI 0) → xX p0 l e (xrm 1 0 0) s m args below meth c0 G ad (wM g ad S (lN cn) V) 10 (xZ below G ad (wM g ad S (lN cn) V) Q args s (xrm 1 0 0)) 24 [(0, .ref (ad (50, 0))), (1, .int (nI sc)), (2, .int (nI it)), (3, .int (nI 0)), (4, .int (nI 0)), (5, .int (nI 0)), (6, .int (nI 0)), (7, .int (nI d))] [] ad (wM g ad (upd (upd S 28 0) 27 (-1)) (lN cn) V1) 0 0 := by
    intro f
    induction f with
    | zero =>
      intro d V1 hd o1 o2
      refine x_iload (q := 26) F dX7_run_24 rfl rfl ?_
      refine x_bipush (q := 28) (v := 32) F dX7_run_26 rfl (by decide) ?_
      refine x_icmp_ge (q := 31) F 45 dX7_run_28 (by decide) rfl (fun c28 => ?_) (fun c28 => ?_)
      · refine x_ls [(0, .ref (ad (50, 0))), (1, .int (nI sc)), (2, .int (nI it)), (3, .int (nI 0)), (4, .int (nI 0)), (5, .int (nI 0)), (6, .int (nI 0))] rfl ?_
        exact loop st (fun _ => 0) 0 out0 0 0 0 0 0 _ V1 (rs0_ok out0) (Or.inl rfl) (by omega) (by omega) (fun j q1 q2 => by rw [pk_un q1, pk_un q2]) rfl (fun b q1 q2 => o1 b q2) (fun j hj => absurd hj (Nat.not_lt_zero j)) (fun j hj => o2 j (by omega)) hz0
      · exact absurd ((nI_leI (a := 32) (by omega) (by omega)).mpr (by omega)) c28
    | succ f ih =>
      intro d V1 hd o1 o2
      refine x_iload (q := 26) F dX7_run_24 rfl rfl ?_
      refine x_bipush (q := 28) (v := 32) F dX7_run_26 rfl (by decide) ?_
      refine x_icmp_ge (q := 31) F 45 dX7_run_28 (by decide) rfl (fun c28 => ?_) (fun c28 => ?_)
      · have := (nI_leI (a := 32) (by omega) (by omega)).mp c28; omega
      · refine x_aload_n (q := 32) F dX7_run_31 rfl rfl (by first | exact xref_r | exact xref_n | exact xref_f _ | assumption) ?_
        refine x_mget (q := 35) F dX7_run_32 rfl fs_X7_70 rfl ?_
        refine x_iload (q := 37) F dX7_run_35 rfl rfl ?_
        refine x_iconst (q := 38) (v := 0) F dX7_run_37 rfl (by decide) ?_
        refine x_mist (q := 39) F dX7_run_38 rfl rfl (by decide) (by decide) rfl (by omega) ?_
        refine x_iinc (q := 42) F dX7_run_39 rfl rfl (nI_1 d) (by decide) ?_
        refine x_goto F 24 dX7_run_42 (by decide) ?_
        refine x_ls [(0, .ref (ad (50, 0))), (1, .int (nI sc)), (2, .int (nI it)), (3, .int (nI 0)), (4, .int (nI 0)), (5, .int (nI 0)), (6, .int (nI 0)), (7, .int (nI (d + 1)))] rfl ?_
        refine ih (d + 1) _ (by omega) (fun b q => (upV_n _ _ _ q).trans (o1 b q)) (fun j hj => ?_)
        by_cases w : j = d
        · subst w; exact upV_at _ _ _ _
        · rw [upV_ne _ _ _ w]; exact o2 j (by omega)
  refine x_ls [(0, .ref (ad (50, 0))), (1, .int (nI sc)), (2, .int (nI it)), (3, .int (nI 0)), (4, .int (nI 0)), (5, .int (nI 0)), (6, .int (nI 0)), (7, .int (nI 0))] rfl ?_
  exact zero 32 0 V rfl (fun _ _ => rfl) (fun j hj => absurd hj (Nat.not_lt_zero j))
