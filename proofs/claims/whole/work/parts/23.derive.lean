/-! ===== to migrate ===== -/
theorem pC.move {ad ad' : xAd} {h : xH} {A : AS} (H : pC ad h A) (E : ∀ t, h t ≠ none → ad' t = ad t) : pC ad' h A := by
  obtain ⟨hM, ⟨lt, nu, k, t1, t2, t3, t4⟩, ⟨c1, c2⟩, ⟨s1, s2, s3⟩, ⟨i1, i2, i3⟩, mem, a, i, p, fl, r1, r2, r3, r4⟩ := H
  have lv : ∀ {t : Tg} {e : xE}, h t = some e → ad' t = ad t := fun {t e} q => E t (by rw [q]; exact fun z => by cases z)
  have eS : refN ad' 20 (aS A) = refN ad 20 (aS A) := by
    funext j
    unfold refN
    by_cases q : j < aS A
    · rw [if_pos q, if_pos q, lv (s2 j q).1]
    · rw [if_neg q, if_neg q]
  have eI : refN ad' 30 (aI A) = refN ad 30 (aI A) := by
    funext j
    unfold refN
    by_cases q : j < aI A
    · rw [if_pos q, if_pos q, lv (i2 j q).1]
    · rw [if_neg q, if_neg q]
  refine ⟨?_, ⟨lt, nu, k, ?_, t2, t3, t4⟩, ⟨?_, c2⟩, ⟨?_, fun s hs => ?_, s3⟩, ⟨?_, fun j hj => ?_, i3⟩, mem, a, i, p, fl, r1, r2, ?_, ?_⟩
  · rw [hM]
    unfold cMain
    rw [lv t1, lv c1, lv s1, lv i1, lv r4]
  · rw [t1, lv t2, lv t3, lv t4]
  · rw [c1, lv c2]
  · rw [s1, eS]
  · obtain ⟨a1, a2, a3, a4, a5, a6, a7, a8, a9⟩ := s2 s hs
    exact ⟨by rw [a1, lv a2, lv a3, lv a4, lv a5], a2, a3, by rw [a4, lv a6, lv a7], by rw [a5, lv a8, lv a9], a6, a7, a8, a9⟩
  · rw [i1, eI]
  · obtain ⟨a1, a2, a3⟩ := i2 j hj
    exact ⟨by rw [a1, lv a2], by rw [a2, lv a3], a3⟩
  · rw [r3, lv r2]
  · rw [r4, lv r1, lv r3]
theorem pC.push {ad : xAd} {h h' : xH} {A : AS} (H : pC ad h A) {d : ItmD} (h1 : h' (1, 0) = some (cMain ad (setIt A (aI A + 1, aItm A)))) (h9 : h' (9, 0) = some (cQ 5 60 (refN ad 30 (aI A + 1)))) (hd : pItm ad h' (aI A) d)
    (o : ∀ t : Tg, t ≠ (1, 0) → t ≠ (9, 0) → ¬ (30 ≤ t.1 ∧ t.1 ≤ 32 ∧ t.2 = aI A) → h' t = h t) : pC ad h' (setIt A (aI A + 1, updI (aItm A) (aI A) d)) := by
  obtain ⟨hM, hT, ⟨c1, c2⟩, ⟨s1, s2, s3⟩, ⟨i1, i2, i3⟩, hR⟩ := H
  have o2 : ∀ k i, k ≠ 1 → k ≠ 9 → (k < 30 ∨ 32 < k) → h' (k, i) = h (k, i) := fun k i q1 q2 q3 => o _ (tg_ne q1 _ _) (tg_ne q2 _ _) (fun z => by have := z.1; have := z.2.1; omega)
  refine ⟨h1, hT.congr (fun k _ _ => o2 k 0 (by omega) (by omega) (by omega)), ⟨(o2 6 0 (by omega) (by omega) (by omega)).trans c1, (o2 7 0 (by omega) (by omega) (by omega)).trans c2⟩, ⟨(o2 8 0 (by omega) (by omega) (by omega)).trans s1, fun s hs => (s2 s hs).congr (fun k _ _ => o2 k s (by omega) (by omega) (by omega)), fun k s q1 q2 q3 => (o2 k s (by omega) (by omega) (by omega)).trans (s3 k s q1 q2 q3)⟩, ⟨h9, fun j hj => ?_, fun k j q1 q2 q3 => ?_⟩, hR.congr (fun k _ _ => o2 k 0 (by omega) (by omega) (by omega))⟩
  · have hj : j < aI A + 1 := hj
    by_cases z : j = aI A
    · subst z
      show pItm ad h' (aI A) (updI (aItm A) (aI A) d (aI A))
      rw [show updI (aItm A) (aI A) d (aI A) = d from if_pos rfl]
      exact hd
    · show pItm ad h' j (updI (aItm A) (aI A) d j)
      rw [show updI (aItm A) (aI A) d j = aItm A j from if_neg z]
      exact (i2 j (by omega)).congr (fun k q1 q2 => o _ (tg_ne (by omega) _ _) (tg_ne (by omega) _ _) (fun w => z w.2.2))
  · have q3 : aI A + 1 ≤ j := q3
    rw [o (k, j) (tg_ne (by omega) _ _) (tg_ne (by omega) _ _) (fun w => by have : j = aI A := w.2.2; omega)]
    exact i3 k j q1 q2 (by omega)
/-- the checks before a script hold of these bytes; those behind -/
def chkB (d : ScrD) (n : Nat) (f : Nat → Nat) : Bool := holdA (fun j => nI (sBk d j)) (fun j => nI (sBv d j)) n (fun j => nI (f j)) (sBn d)
def chkH (d : ScrD) (n : Nat) (f : Nat → Nat) : Bool := holdA (fun j => nI (sHk d j)) (fun j => nI (sHv d j)) n (fun j => nI (f j)) (sHn d)
/-- the run of a script over an item -/
def runA (A : AS) (i sc : Nat) : RS × Option Nat × Nat := runF (aNc A) (iN (aItm A i)) (iB (aItm A i)) (sL (aScr A sc)) (sV (aScr A sc)) (sNk (aScr A sc)) (aSt A) (aOut A)
def ranA (A : AS) (i sc : Nat) : AS := setRn A (rNo (runA A i sc).1, rOut (runA A i sc).1) ((runA A i sc).2.1, aCt A + (runA A i sc).2.2)
def newI (A : AS) (i sc : Nat) : ItmD := ((rNo (runA A i sc).1, rOut (runA A i sc).1), (some i, some sc, iRt (aItm A i)), (none, false))
/-- TO MIGRATE: the number that came or what is against it, and the state behind it -/
def deriveF (A : AS) (i sc : Nat) : Int32 × AS :=
  if hasDerBy A i sc = true then (-11, A)
  else if chkB (aScr A sc) (iN (aItm A i)) (iB (aItm A i)) = false then (-12, A)
  else if rF (runA A i sc).1 ≠ 0 then (-12 - nI (rF (runA A i sc).1), ranA A i sc)
  else if chkH (aScr A sc) (rNo (runA A i sc).1) (rOut (runA A i sc).1) = false then (-17, ranA A i sc)
  else if 60 ≤ aI A then (-4, ranA A i sc)
  else (nI (aI A), setIt (ranA A i sc) (aI A + 1, updI (aItm A) (aI A) (newI A i sc)))
theorem runA_ok {A : AS} (hA : aOK A) {i sc : Nat} (hi : i < aI A) (hs : sc < aS A) : RSok (runA A i sc).1 :=
  runF_ok (fun j hj => ((hA.2.2.1.2 sc hs).2.1 j hj).2) (fun j hj => (hA.2.2.2.1.2 i hi).2.1 j hj) (hA.2.2.1.2 sc hs).1
theorem runF_d (nc sz : Nat) (f L V : Nat → Nat) (nk st : Nat) (out : Nat → Nat) : (runF nc sz f L V nk st out).2.2 ≤ st := by
  have := loopF_d (nc := nc) (sz := sz) (f := f) (L := L) (V := V) (nk := nk) st (fun _ => 0, 0, out, 0, 0, 0, 0) none 0
  unfold runF endF
  by_cases q : rF (loopF nc sz f L V nk st (fun _ => 0, 0, out, 0, 0, 0, 0) none 0).1 = 0 ∧ rP (loopF nc sz f L V nk st (fun _ => 0, 0, out, 0, 0, 0, 0) none 0).1 < nk
  · rw [if_pos q]; show (loopF nc sz f L V nk st (fun _ => 0, 0, out, 0, 0, 0, 0) none 0).2.2 ≤ st; omega
  · rw [if_neg q]; omega
def s_derive : xSp := fun ad h av Q => ∃ A i sc, pC ad h A ∧ aOK A ∧ i < aI A ∧ iGn (aItm A i) = false ∧ sc < aS A ∧ av = [.ref (ad (1, 0)), .int (nI i), .int (nI sc)] ∧
  ∀ ad' h', pC ad' h' (deriveF A i sc).2 → fr40 h h' → Q (some (.int (deriveF A i sc).1)) ad' h'
set_option maxRecDepth 100000 in
set_option maxHeartbeats 8000000 in
theorem c_X6_derive : Ct yX6_derive cX6_derive 6 (some .int) (xrm 4 3 48) s_derive := by
  refine Ct.of (by decide) ?_
  intro p l e s m args below meth c0 G ad h av Q F hsp
  obtain ⟨A, i, sc, hC, hA, hi, hg, hs, rfl, hQ⟩ := hsp
  have hnI := hA.2.2.2.1.1
  have hnS := hA.2.2.1.1
  refine ⟨x_ent rfl rfl, ?_⟩
  refine x_ls [(0, .ref (ad (1, 0))), (1, .int (nI i)), (2, .int (nI sc))] rfl ?_
  refine x_aload_n (q := 1) F dX6_derive_0 rfl rfl (by first | exact xref_r | exact xref_n | exact xref_f _ | assumption) ?_
  refine x_iload_n (q := 2) F dX6_derive_1 rfl rfl ?_
  refine x_callV1 (q := 5) F (1, 0) c_X6_liveItem dX6_derive_2 rfl mv_X6_liveItem ml_X6_123 ⟨⟨xle rfl, xle rfl⟩, xle rfl, xle rfl⟩ rfl hC.1 (xle rfl) ?_
  refine ⟨A, nI i, hC, hA, rfl, fun _ => ?_⟩
  rw [show liveV ad A (nI i) = .ref (ad (30, i)) by unfold liveV; rw [liveN_nI hA hi, if_neg (by rw [hg]; decide)]; rfl]
  refine x_astore_n (q := 6) F dX6_derive_5 rfl (by decide) (by first | exact xref_r | exact xref_n | exact xref_f _ | assumption) ?_
  refine x_aload_n (q := 7) F dX6_derive_6 rfl rfl (by first | exact xref_r | exact xref_n | exact xref_f _ | assumption) ?_
  refine x_iload_n (q := 8) F dX6_derive_7 rfl rfl ?_
  refine x_callV1 (q := 11) F (1, 0) c_X6_scriptOf dX6_derive_8 rfl mv_X6_scriptOf ml_X6_108 ⟨⟨xle rfl, xle rfl⟩, xle rfl, xle rfl⟩ rfl hC.1 (xle rfl) ?_
  refine ⟨A, nI sc, hC, hA, rfl, fun _ => ?_⟩
  rw [show scrV ad A (nI sc) = .ref (ad (20, sc)) by unfold scrV; rw [ixN_nI hs (by omega)]; rfl]
  refine x_astore (q := 13) F dX6_derive_11 rfl (by decide) (by first | exact xref_r | exact xref_n | exact xref_f _ | assumption) ?_
  refine x_aload_n (q := 14) F dX6_derive_13 rfl rfl (by first | exact xref_r | exact xref_n | exact xref_f _ | assumption) ?_
  refine x_ifnull (q := 17) F 22 dX6_derive_14 (by decide) rfl (by first | exact xref_r | exact xref_n | exact xref_f _ | assumption) (fun c14 => ?_) (fun a14 c14 => ?_)
  · cases c14
  refine x_aload (q := 19) F dX6_derive_17 rfl rfl (by first | exact xref_r | exact xref_n | exact xref_f _ | assumption) ?_
  refine x_ifnonnull (q := 22) F 24 dX6_derive_19 (by decide) rfl (by first | exact xref_r | exact xref_n | exact xref_f _ | assumption) (fun a19 c19 => ?_) (fun c19 => ?_)
  · clear c19 c14
    refine x_ls [(0, .ref (ad (1, 0))), (1, .int (nI i)), (2, .int (nI sc)), (3, .ref (ad (30, i))), (4, .ref (ad (20, sc)))] rfl ?_
    obtain ⟨I1, I2, I3⟩ := hC.2.2.2.2.1.2.1 i hi
    obtain ⟨S1, S2, S3, S4, S5, S6, S7, S8, S9⟩ := hC.2.2.2.1.2.1 sc hs
    obtain ⟨o1, o2, o3, o4, o5, o6, o7⟩ := hA.2.2.1.2 sc hs
    obtain ⟨q1, q2, q3, q4, q5, q6⟩ := hA.2.2.2.1.2 i hi
    refine x_aload_n (q := 25) F dX6_derive_24 rfl rfl (by first | exact xref_r | exact xref_n | exact xref_f _ | assumption) ?_
    refine x_iload_n (q := 26) F dX6_derive_25 rfl rfl ?_
    refine x_iload_n (q := 27) F dX6_derive_26 rfl rfl ?_
    refine x_callV2 (q := 30) F (1, 0) c_X6_hasDerivedBy dX6_derive_27 rfl mv_X6_hasDerivedBy ml_X6_199 ⟨⟨xle rfl, xle rfl⟩, xle rfl, xle rfl⟩ rfl hC.1 (xle rfl) ?_
    refine ⟨A, i, sc, hC, hA, rfl, by omega, by omega, fun _ => ?_⟩
    by_cases hd : hasDerBy A i sc = true
    · rw [hd]
      have hF : deriveF A i sc = (-11, A) := if_pos hd
      rw [hF] at hQ
      refine x_if_eq (q := 33) F 36 dX6_derive_30 (by decide) rfl (fun c30 => ?_) (fun c30 => ?_)
      · exact absurd c30 (by decide)
      · refine x_bipush (q := 35) (v := -11) F dX6_derive_33 rfl (by decide) ?_
        refine x_iret F dX6_derive_35 (xle rfl) (xle rfl) ?_
        exact hQ ad h hC fr40.rf
    rw [show hasDerBy A i sc = false by simpa using hd]
    refine x_if_eq (q := 33) F 36 dX6_derive_30 (by decide) rfl (fun c30 => ?_) (fun c30 => ?_)
    · clear c30
      refine x_aload (q := 38) F dX6_derive_36 rfl rfl (by first | exact xref_r | exact xref_n | exact xref_f _ | assumption) ?_
      refine x_getN (q := 41) F dX6_derive_38 rfl fn_X6_120 S1 rfl ?_
      refine x_aload_n (q := 42) F dX6_derive_41 rfl rfl (by first | exact xref_r | exact xref_n | exact xref_f _ | assumption) ?_
      refine x_getN (q := 45) F dX6_derive_42 rfl fn_X6_169 I1 rfl ?_
      refine x_callV1 (q := 48) F (23, sc) c_X1_hold dX6_derive_45 rfl mv_X1_hold ml_X6_202 ⟨⟨xle rfl, xle rfl⟩, xle rfl, xle rfl⟩ rfl S4 (xle rfl) ?_
      refine ⟨(23, sc), (25, sc), (26, sc), (31, i), (32, i), sBn (aScr A sc), _, _, iN (aItm A i), iN (aItm A i), _, rfl, S4, S6, S7, o3, fun j hj => ?_, I2, I3, Nat.le_refl _, by omega, fun _ => ?_⟩
      · have := (o4 j hj).1
        exact ⟨nI_pos' (by omega), (nI_leI (b := 3) (by omega) (by omega)).mpr this⟩
      show xX _ _ _ _ _ _ _ _ _ _ _ _ _ _ _ _ _ (((some (Value.int (bI (chkB (aScr A sc) (iN (aItm A i)) (iB (aItm A i)))))).toList) ++ _) _ _ _ _
      by_cases hb : chkB (aScr A sc) (iN (aItm A i)) (iB (aItm A i)) = false
      · rw [hb]
        have hF : deriveF A i sc = (-12, A) := by unfold deriveF; rw [if_neg hd, if_pos hb]
        rw [hF] at hQ
        refine x_if_ne (q := 51) F 54 dX6_derive_48 (by decide) rfl (fun c48 => ?_) (fun c48 => ?_)
        · exact absurd rfl c48
        · refine x_bipush (q := 53) (v := -12) F dX6_derive_51 rfl (by decide) ?_
          refine x_iret F dX6_derive_53 (xle rfl) (xle rfl) ?_
          exact hQ ad h hC fr40.rf
      rw [show chkB (aScr A sc) (iN (aItm A i)) (iB (aItm A i)) = true by simpa using hb]
      refine x_if_ne (q := 51) F 54 dX6_derive_48 (by decide) rfl (fun c48 => ?_) (fun c48 => ?_)
      · clear c48
        refine x_aload_n (q := 55) F dX6_derive_54 rfl rfl (by first | exact xref_r | exact xref_n | exact xref_f _ | assumption) ?_
        refine x_get (q := 58) F dX6_derive_55 rfl fs_X6_67 hC.1 rfl ?_
        refine x_aload (q := 60) F dX6_derive_58 rfl rfl (by first | exact xref_r | exact xref_n | exact xref_f _ | assumption) ?_
        refine x_aload_n (q := 61) F dX6_derive_60 rfl rfl (by first | exact xref_r | exact xref_n | exact xref_f _ | assumption) ?_
        refine x_getN (q := 64) F dX6_derive_61 rfl fn_X6_169 I1 rfl ?_
        obtain ⟨q, hqo, hqn, hview⟩ := hC.2.2.2.2.2.view
        have hrn : h (10, 0) = some (.inr (3, [.int (nI (aSt A)), .ref (ad (11, 0)), .ref (ad (12, 0)), .int (nI (rA q)), .int (nI (rI q)), .int (nI (rP q)), .int (nI (rF q)), .int (optI (aFa A)), .long (lN (aCt A))])) := by
          rw [hview]; obtain ⟨mem, no, out, a, ii, pp, fl⟩ := q; rfl
        refine x_callV2 (q := 67) F (10, 0) c_X3_run dX6_derive_64 rfl mv_X3_run ml_X6_206 ⟨⟨xle rfl, xle rfl⟩, xle rfl, xle rfl⟩ rfl hrn (xle rfl) ?_
        refine ⟨h, aSt A, aNc A, q, optI (aFa A), lN (aCt A), sc, i, iN (aItm A i), iN (aItm A i), iB (aItm A i), sNk (aScr A sc), sL (aScr A sc), sV (aScr A sc), _, _, _, hview, rfl, S1, S2, S3, o1, fun j hj => (o2 j hj).1, fun j hj => (o2 j hj).2, I2, I3, Nat.le_refl _, by omega, q2, hA.2.2.2.2.1.2, hA.2.2.2.2.1.1, fun _ => ?_⟩
        rw [hqo]
        have hok := runA_ok hA hi hs
        have hdd : (runA A i sc).2.2 ≤ 2000 := Nat.le_trans (runF_d _ _ _ _ _ _ _ _) hA.2.2.2.2.1.1
        change xX _ _ _ _ _ _ _ _ _ _ _ _ _ _ _ _ _ ((some (Value.int (nI (rF (runA A i sc).1)))).toList ++ _) _ (wR h ad (aSt A) (aNc A) (runA A i sc).1 (optI (runA A i sc).2.1) (lN (aCt A) + (nI (runA A i sc).2.2).toInt64)) _ _
        rw [nI_l (by omega), lN_add]
        have hC2 : pC ad (wR h ad (aSt A) (aNc A) (runA A i sc).1 (optI (runA A i sc).2.1) (lN (aCt A + (runA A i sc).2.2))) (ranA A i sc) := hC.run _ _ _
        have hfr2 : fr40 h (wR h ad (aSt A) (aNc A) (runA A i sc).1 (optI (runA A i sc).2.1) (lN (aCt A + (runA A i sc).2.2))) := wR_fr40
        generalize wR h ad (aSt A) (aNc A) (runA A i sc).1 (optI (runA A i sc).2.1) (lN (aCt A + (runA A i sc).2.2)) = h2 at hC2 hfr2 ⊢
        have hfl : rF (runA A i sc).1 ≤ 4 := hok.2.2.2.2.2.1
        refine x_istore (q := 69) F dX6_derive_67 rfl (by decide) ?_
        refine x_iload (q := 71) F dX6_derive_69 rfl rfl ?_
        by_cases hz : rF (runA A i sc).1 = 0
        · rw [hz]
          refine x_if_eq (q := 74) F 80 dX6_derive_71 (by decide) rfl (fun c71 => ?_) (fun c71 => ?_)
          · clear c71
            obtain ⟨T1, T2, T3, T4, T5, T6, T7, T8, T9⟩ := hC2.2.2.2.1.2.1 sc hs
            obtain ⟨mem2, a2, i2, p2, fl2, R1, R2, R3, R4⟩ := hC2.2.2.2.2.2
            have hno : rNo (runA A i sc).1 ≤ 40 := hok.2.2.1
            refine x_aload (q := 82) F dX6_derive_80 rfl rfl (by first | exact xref_r | exact xref_n | exact xref_f _ | assumption) ?_
            refine x_getN (q := 85) F dX6_derive_82 rfl fn_X6_112 T1 rfl ?_
            refine x_aload_n (q := 86) F dX6_derive_85 rfl rfl (by first | exact xref_r | exact xref_n | exact xref_f _ | assumption) ?_
            refine x_get (q := 89) F dX6_derive_86 rfl fs_X6_67 hC2.1 rfl ?_
            refine x_getN (q := 92) F dX6_derive_89 rfl fn_X6_196 R4 rfl ?_
            refine x_callV1 (q := 95) F (24, sc) c_X1_hold dX6_derive_92 rfl mv_X1_hold ml_X6_202 ⟨⟨xle rfl, xle rfl⟩, xle rfl, xle rfl⟩ rfl T5 (xle rfl) ?_
            refine ⟨(24, sc), (27, sc), (28, sc), (12, 0), (13, 0), sHn (aScr A sc), _, _, rNo (runA A i sc).1, 40, _, rfl, T5, T8, T9, o5, fun j hj => ?_, R3, R2, hno, by omega, fun _ => ?_⟩
            · have : sHk (aScr (ranA A i sc) sc) j ≤ 3 := (o6 j hj).1
              exact ⟨nI_pos' (by omega), (nI_leI (b := 3) (by omega) (by omega)).mpr this⟩
            show xX _ _ _ _ _ _ _ _ _ _ _ _ _ _ _ _ _ (((some (Value.int (bI (chkH (aScr A sc) (rNo (runA A i sc).1) (rOut (runA A i sc).1))))).toList) ++ _) _ _ _ _
            by_cases hh : chkH (aScr A sc) (rNo (runA A i sc).1) (rOut (runA A i sc).1) = false
            · rw [hh]
              have hF : deriveF A i sc = (-17, ranA A i sc) := by unfold deriveF; rw [if_neg hd, if_neg hb, if_neg (fun z => z hz), if_pos hh]
              rw [hF] at hQ
              refine x_if_ne (q := 98) F 101 dX6_derive_95 (by decide) rfl (fun c95 => ?_) (fun c95 => ?_)
              · exact absurd rfl c95
              · refine x_bipush (q := 100) (v := -17) F dX6_derive_98 rfl (by decide) ?_
                refine x_iret F dX6_derive_100 (xle rfl) (xle rfl) ?_
                exact hQ ad h2 hC2 hfr2
            rw [show chkH (aScr A sc) (rNo (runA A i sc).1) (rOut (runA A i sc).1) = true by simpa using hh]
            refine x_if_ne (q := 98) F 101 dX6_derive_95 (by decide) rfl (fun c95 => ?_) (fun c95 => ?_)
            · clear c95
              refine x_aload_n (q := 102) F dX6_derive_101 rfl rfl (by first | exact xref_r | exact xref_n | exact xref_f _ | assumption) ?_
              refine x_get (q := 105) F dX6_derive_102 rfl fs_X6_41 hC2.1 rfl ?_
              refine x_bipush (q := 107) (v := 60) F dX6_derive_105 rfl (by decide) ?_
              refine x_icmp_lt (q := 110) F 113 dX6_derive_107 (by decide) rfl (fun c107 => ?_) (fun c107 => ?_)
              · have hlt : aI A < 60 := (nI_ltI (a := aI A) (b := 60) (by omega) (by omega)).mp c107
                clear c107
                have hF : deriveF A i sc = (nI (aI A), setIt (ranA A i sc) (aI A + 1, updI (aItm A) (aI A) (newI A i sc))) := by unfold deriveF; rw [if_neg hd, if_neg hb, if_neg (fun z => z hz), if_neg hh, if_neg (by omega)]
                rw [hF] at hQ
                have n30 : h2 (30, aI A) = none := hC2.2.2.2.2.1.2.2 30 (aI A) (by omega) (by omega) (Nat.le_refl _)
                have n31 : h2 (31, aI A) = none := hC2.2.2.2.2.1.2.2 31 (aI A) (by omega) (by omega) (Nat.le_refl _)
                have n32 : h2 (32, aI A) = none := hC2.2.2.2.2.1.2.2 32 (aI A) (by omega) (by omega) (Nat.le_refl _)
                refine x_aload_n (q := 114) F dX6_derive_113 rfl rfl (by first | exact xref_r | exact xref_n | exact xref_f _ | assumption) ?_
                refine x_new (q := 117) F (30, aI A) [.null, .int 0, .int 0, .int 0, .int 0, .int 0] dX6_derive_114 rfl (ci := 2) rfl ⟨cl_X6_31, im_X2, iz_X2⟩ n30 df_X2 (xle rfl) (xle rfl) (fun ad1 E1 => ?_)
                have E1' : ∀ {k j : Nat}, k ≠ 30 → ad1 (k, j) = ad (k, j) := fun q => E1 _ (tg_ne q _ _)
                have E1i : ad1 (30, i) = ad (30, i) := E1 _ (fun z => by have := congrArg Prod.snd z; have h3 : i = aI A := this; omega)
                rw [← E1' (k := 1) (by decide), ← E1' (k := 20) (by decide), ← E1i]
                have hC3 := hC2.move (ad' := ad1) (fun t ht => E1 t (fun z => ht (by rw [z]; exact n30)))
                obtain ⟨mem3, a3, i3, p3, fl3, U1, U2, U3, U4⟩ := hC3.2.2.2.2.2
                have hM3 := hC3.1
                have hI3 := (hC3.2.2.2.2.1.2.1 i hi).1
                refine x_dup (q := 118) F dX6_derive_117 rfl rfl ?_
                refine x_aload_n (q := 119) F dX6_derive_118 rfl rfl (by first | exact xref_r | exact xref_n | exact xref_f _ | assumption) ?_
                refine x_get (q := 122) F dX6_derive_119 rfl fs_X6_67 (xk hM3) rfl ?_
                refine x_getN (q := 125) F dX6_derive_122 rfl fn_X6_196 (xk U4) rfl ?_
                refine x_callV0 (q := 128) F (12, 0) c_X0_copy dX6_derive_125 rfl mv_X0_copy ml_X6_96 ⟨⟨xle rfl, xle rfl⟩, xle rfl, xle rfl⟩ rfl (xk U3) (xle rfl) ?_
                refine ⟨(12, 0), (13, 0), (31, aI A), (32, aI A), rNo (runA A i sc).1, 40, _, rfl, xk U3, xk U2, hno, by omega, xkn n31, xkn n32, tg_ne (by decide) _ _, fun ad2 g E2 hgg _ => ?_⟩
                have E2' : ∀ {k j : Nat}, k ≠ 31 → k ≠ 32 → ad2 (k, j) = ad1 (k, j) := fun q q' => E2 _ (tg_ne q _ _) (tg_ne q' _ _)
                rw [← E2' (k := 1) (by decide) (by decide), ← E2' (k := 20) (by decide) (by decide), ← E2' (k := 30) (by decide) (by decide), ← E2' (k := 30) (by decide) (by decide)]
                have hC4 := hC3.move (ad' := ad2) (fun t ht => E2 t (fun z => ht (by rw [z]; exact n31)) (fun z => ht (by rw [z]; exact n32)))
                refine x_h (xup_comm _ _ _ (tg_ne (a := 32) (b := 31) (by decide) _ _)) ?_
                refine x_cell (g := fun j => nI (rOut (runA A i sc).1 j)) (fun j hj => hgg j hj) ?_
                have hM4 := hC4.1
                have hI4 := (hC4.2.2.2.2.1.2.1 i hi).1
                have hI4' : xup h2 (30, aI A) (.inr (2, [.null, .int 0, .int 0, .int 0, .int 0, .int 0])) (30, i) = h2 (30, i) := xup_ne _ _ (fun z => by have := congrArg Prod.snd z; have h3 : i = aI A := this; omega)
                refine x_iload_n (q := 129) F dX6_derive_128 rfl rfl ?_
                refine x_iload_n (q := 130) F dX6_derive_129 rfl rfl ?_
                refine x_aload_n (q := 131) F dX6_derive_130 rfl rfl (by first | exact xref_r | exact xref_n | exact xref_f _ | assumption) ?_
                refine x_getN (q := 134) F dX6_derive_131 rfl fn_X6_185 (xk (xk (hI4'.trans hI4))) rfl ?_
                refine x_callI4 (q := 137) F (30, aI A) c_X2_init dX6_derive_134 rfl mi_X2_init ml_X6_100 ⟨⟨xle rfl, xle rfl⟩, xle rfl, xle rfl⟩ (xle rfl) ?_
                refine ⟨(30, aI A), (31, aI A), _, _, _, rfl, xk (xk (xup_self _ _ _)), fun _ => ?_⟩
                refine x_callV1 (q := 140) F (1, 0) c_X6_keep dX6_derive_137 rfl mv_X6_keep ml_X6_103 ⟨⟨xle rfl, xle rfl⟩, xle rfl, xle rfl⟩ rfl (xk (xk (xk (xk hM4)))) (xle rfl) ?_
                refine ⟨ranA A i sc, _, xk (xk (xk (xk hM4))), xk (xk (xk (xk hC4.2.2.2.2.1.1))), hlt, xup_self _ _ _, rfl, fun _ => ?_⟩
                refine x_iret F dX6_derive_140 (xle rfl) (xle rfl) ?_
                refine hQ ad2 _ (hC4.push (d := newI A i sc) (xup_self _ _ _) (xk (xup_self _ _ _)) ⟨xk (xk (xup_self _ _ _)), xk (xk (xk (xk (xup_self _ _ _)))), xk (xk (xk (xup_self _ _ _)))⟩ (fun t r1 r2 r3 => ?_)) (hfr2.tr (fun t ht => ?_))
                · have z : ∀ k, 30 ≤ k → k ≤ 32 → t ≠ (k, aI A) := fun k z1 z2 w => r3 (by rw [w]; exact ⟨z1, z2, rfl⟩)
                  rw [xup_ne _ _ r1, xup_ne _ _ r2, xup_ne _ _ (show t ≠ (30, aI A) from z 30 (by omega) (by omega)), xup_ne _ _ (z 32 (by omega) (by omega)), xup_ne _ _ (z 31 (by omega) (by omega)), xup_ne _ _ (z 30 (by omega) (by omega))]
                · rw [up_ne (by omega), up_ne (by omega), up_ne (by omega), up_ne (by omega), up_ne (by omega), up_ne (by omega)]
              · have hge : 60 ≤ aI A := by
                  rcases Nat.lt_or_ge (aI A) 60 with q | q
                  · exact absurd ((nI_ltI (a := aI A) (b := 60) (by omega) (by omega)).mpr q) c107
                  · exact q
                have hF : deriveF A i sc = (-4, ranA A i sc) := by unfold deriveF; rw [if_neg hd, if_neg hb, if_neg (fun z => z hz), if_neg hh, if_pos hge]
                rw [hF] at hQ
                refine x_bipush (q := 112) (v := -4) F dX6_derive_110 rfl (by decide) ?_
                refine x_iret F dX6_derive_112 (xle rfl) (xle rfl) ?_
                exact hQ ad h2 hC2 hfr2
            · exact absurd c95 (by decide)
          · exact absurd rfl c71
        · have hF : deriveF A i sc = (-12 - nI (rF (runA A i sc).1), ranA A i sc) := by unfold deriveF; rw [if_neg hd, if_neg hb, if_pos hz]
          rw [hF] at hQ
          refine x_if_eq (q := 74) F 80 dX6_derive_71 (by decide) rfl (fun c71 => ?_) (fun c71 => ?_)
          · exact absurd ((nI_eq (b := 0) (by omega) (by omega)).mp c71) hz
          · refine x_bipush (q := 76) (v := -12) F dX6_derive_74 rfl (by decide) ?_
            refine x_iload (q := 78) F dX6_derive_76 rfl rfl ?_
            refine x_isub (q := 79) F dX6_derive_78 rfl ?_
            refine x_iret F dX6_derive_79 (xle rfl) (xle rfl) ?_
            exact hQ ad h2 hC2 hfr2
      · exact absurd c48 (by decide)
    · exact absurd rfl c30
  · cases c19
