/-! ===== the reference: derive ===== -/
/-- all but the batches -/
def rN (A : AS) (S : Nat → Int32) (ct : Int64) (V : MV) : Prop := rTx A S V ∧ rCo A S V ∧ rSc A S V ∧ rIt A S V ∧ rRn A S V ct ∧ (S 6 = optI (aWr A) ∧ S 26 = aMl A)
theorem rM.n {A : AS} {S : Nat → Int32} {V : MV} {ct : Int64} (h : rM A S ct V) : rN A S ct V := ⟨h.1, h.2.1, h.2.2.1, h.2.2.2.1, h.2.2.2.2.2.1, h.2.2.2.2.2.2⟩
theorem rN.m {A : AS} {S : Nat → Int32} {V : MV} {ct : Int64} (h : rN A S ct V) (b : rBt A S V) : rM A S ct V := ⟨h.1, h.2.1, h.2.2.1, h.2.2.2.1, b, h.2.2.2.2.1, h.2.2.2.2.2⟩
theorem rN_ran {A : AS} {S S' : Nat → Int32} {V V' : MV} {ct : Int64} (h : rN A S ct V) {i sc : Nat} (hr : runOK S V (runA A i sc) S' V') : rN (ranA A i sc) S' (lN (aCt A + (runA A i sc).2.2)) V' := by
  obtain ⟨h1, h2, h3, h4, ⟨a1, a2, a3, a4, a5⟩, h7, h8⟩ := h
  obtain ⟨r1, r2, r3, r4, r5⟩ := hr
  exact ⟨h1.c (r1 3 (by decide) (by decide)) (r4 51 (by decide) (by decide)), h2.c (r1 15 (by decide) (by decide)) (r4 59 (by decide) (by decide)), h3.c (r1 7 (by decide) (by decide)) (fun a q1 q2 => r4 a (by omega) (by omega)), h4.c (r1 17 (by decide) (by decide)) (fun a q1 q2 => r4 a (by omega) (by omega)), ⟨(r1 1 (by decide) (by decide)).trans a1, (r1 2 (by decide) (by decide)).trans a2, r2, ⟨r3, r5⟩, rfl⟩, (r1 6 (by decide) (by decide)).trans h7, (r1 26 (by decide) (by decide)).trans h8⟩
/-- nothing of V but the item n -/
def frI (n : Nat) (V V' : MV) : Prop := (∀ a, a ≠ 60 → a ≠ 61 → a ≠ 62 → a ≠ 63 → a ≠ 65 → V' a = V a) ∧ (∀ j, j ≠ n → V' 60 j = V 60 j ∧ V' 62 j = V 62 j ∧ V' 63 j = V 63 j ∧ V' 65 j = V 65 j) ∧ ∀ j, j < 40 * n ∨ 40 * n + 40 ≤ j → V' 61 j = V 61 j
theorem rN_push {B : AS} {S S' : Nat → Int32} {V V' : MV} {ct : Int64} (h : rN B S ct V) (hB : aOK B) (hlt : aI B < 60) {d : ItmD} (d2 : iGn d = false) (ev : frI (aI B) V V') (e60 : V' 60 (aI B) = nI (iN d)) (e61 : ∀ j, j < iN d → V' 61 (40 * aI B + j) &&& 255 = nI (iB d j)) (e62 : V' 62 (aI B) = optI (iFr d)) (e63 : V' 63 (aI B) = optI (iBy d)) (e17 : S' 17 = nI (aI B + 1)) (e : ∀ j, j ≠ 0 → j ≠ 17 → S' j = S j) : rN (setIt B (aI B + 1, updI (aItm B) (aI B) d)) S' ct V' := by
  obtain ⟨h1, h2, h3, ⟨i1, i2, i3⟩, h6, h7, h8⟩ := h
  obtain ⟨v1, v2, v3⟩ := ev
  refine ⟨h1.c (e 3 (by decide) (by decide)) (v1 51 (by decide) (by decide) (by decide) (by decide) (by decide)), h2.c (e 15 (by decide) (by decide)) (v1 59 (by decide) (by decide) (by decide) (by decide) (by decide)), h3.c (e 7 (by decide) (by decide)) (fun a q1 q2 => v1 a (by omega) (by omega) (by omega) (by omega) (by omega)), ⟨e17, fun j hj => ?_, fun j q1 q2 => ?_⟩, h6.c (e 1 (by decide) (by decide)) (e 2 (by decide) (by decide)) (e 27 (by decide) (by decide)) (e 28 (by decide) (by decide)) (v1 67 (by decide) (by decide) (by decide) (by decide) (by decide)), (e 6 (by decide) (by decide)).trans h7, (e 26 (by decide) (by decide)).trans h8⟩
  · have hj : j < aI B + 1 := hj
    show rItm V' j (updI (aItm B) (aI B) d j)
    by_cases z : j = aI B
    · subst z
      rw [show updI (aItm B) (aI B) d (aI B) = d from if_pos rfl]
      refine ⟨e60, e61, e62, e63, ?_⟩
      rw [v1 64 (by decide) (by decide) (by decide) (by decide) (by decide), i3 (aI B) (Nat.le_refl _) hlt, d2]
      rfl
    · rw [show updI (aItm B) (aI B) d j = aItm B j from if_neg z]
      obtain ⟨a1, a2, a3, a4, a5⟩ := i2 j (by omega)
      have hn := (hB.2.2.2.1.2 j (by omega)).1
      obtain ⟨w1, w2, w3, w4⟩ := v2 j z
      refine ⟨w1.trans a1, fun k hk => ?_, w2.trans a3, w3.trans a4, ?_⟩
      · rw [v3 (40 * j + k) (Or.inl (by omega))]
        exact a2 k hk
      · rw [v1 64 (by decide) (by decide) (by decide) (by decide) (by decide)]
        exact a5
  · have q1 : aI B + 1 ≤ j := q1
    rw [v1 64 (by decide) (by decide) (by decide) (by decide) (by decide)]
    exact i3 j (by omega) q2
/-- .. and the batches -/
theorem rBt_push {B : AS} {S S' : Nat → Int32} {V V' : MV} (h : rBt B S V) {d : ItmD} (d1 : iBt d = none) (e24 : S' 24 = S 24) (v66 : V' 66 = V 66) (v65 : ∀ j, j ≠ aI B → V' 65 j = V 65 j) (e65 : V' 65 (aI B) = 0) : rBt (setIt B (aI B + 1, updI (aItm B) (aI B) d)) S' V' := by
  obtain ⟨nb, bm, ob, b1, b2, b3, b4, b5, b6, b7, b8⟩ := h
  refine ⟨nb, bm, updN ob (aI B) 0, e24.trans b1, Nat.le_succ_of_le b2, b3, b4, b5, ?_, ?_, fun j hj => ?_⟩
  · rw [v66]; exact b6
  · rw [v66]; exact b7
  · have hj : j < aI B + 1 := hj
    show V' 65 j = nI (updN ob (aI B) 0 j) ∧ updN ob (aI B) 0 j ≤ nb ∧ (∀ k, k < aOb B → (updN ob (aI B) 0 j = bm k + 1 ↔ iBt (updI (aItm B) (aI B) d j) = some k)) ∧ ∀ k, iBt (updI (aItm B) (aI B) d j) = some k → k < aOb B
    by_cases z : j = aI B
    · subst z
      rw [updN_self, show updI (aItm B) (aI B) d (aI B) = d from if_pos rfl, d1]
      exact ⟨e65, Nat.zero_le _, fun k _ => ⟨fun w => by omega, fun w => by cases w⟩, fun k w => by cases w⟩
    · rw [updN_ne _ _ z, show updI (aItm B) (aI B) d j = aItm B j from if_neg z, v65 j z]
      exact b8 j (by omega)
theorem rM_push {B : AS} {S S' : Nat → Int32} {V V' : MV} {ct : Int64} (h : rM B S ct V) (hB : aOK B) (hlt : aI B < 60) {d : ItmD} (d1 : iBt d = none) (d2 : iGn d = false) (ev : frI (aI B) V V') (e60 : V' 60 (aI B) = nI (iN d)) (e61 : ∀ j, j < iN d → V' 61 (40 * aI B + j) &&& 255 = nI (iB d j)) (e62 : V' 62 (aI B) = optI (iFr d)) (e63 : V' 63 (aI B) = optI (iBy d)) (e65 : V' 65 (aI B) = 0) (e17 : S' 17 = nI (aI B + 1)) (e : ∀ j, j ≠ 0 → j ≠ 17 → S' j = S j) : rM (setIt B (aI B + 1, updI (aItm B) (aI B) d)) S' ct V' :=
  (rN_push h.n hB hlt d2 ev e60 e61 e62 e63 e17 e).m (rBt_push h.2.2.2.2.1 d1 (e 24 (by decide) (by decide)) (ev.1 66 (by decide) (by decide) (by decide) (by decide) (by decide)) (fun j q => (ev.2.1 j q).2.2.2) e65)
/-- an item's row of bytes is filled from another -/
def frC (n : Nat) (V V' : MV) : Prop := (∀ a, a ≠ 61 → V' a = V a) ∧ ∀ j, j < 40 * n ∨ 40 * n + 40 ≤ j → V' 61 j = V 61 j
theorem frC.rf (n : Nat) (V : MV) : frC n V V := ⟨fun _ _ => rfl, fun _ _ => rfl⟩
theorem frC.up {n k : Nat} {V V' : MV} (h : frC n V V') (hk : k < 40) (v : Int32) : frC n V (upV V' 61 (40 * n + k) v) := ⟨fun a q => (upV_n _ _ _ q).trans (h.1 a q), fun j q => (upV_ne _ 61 _ (by omega)).trans (h.2 j q)⟩
set_option maxRecDepth 100000 in
set_option maxHeartbeats 2000000 in
theorem c_X7_deriveN : Ct yX7_derive cX7_derive 5 (some .int) (xrm 2 0 0) (fun ad h av Q => ∃ g A S ct V i sc, h = wM g ad S ct V ∧ rN A S ct V ∧ aOK A ∧ av = [.ref (ad (50, 0)), .int (nI i), .int (nI sc)] ∧ i < aI A ∧ sc < aS A ∧ ∀ S' ct' V', rN (deriveF A i sc).2 S' ct' V' → S' 24 = S 24 → V' 66 = V 66 → (∀ j, j ≠ aI A → V' 65 j = V 65 j) → (¬ (deriveF A i sc).1 < 0 → V' 65 (aI A) = 0) → Q (some (.int (deriveF A i sc).1)) ad (wM g ad S' ct' V')) := by
  refine Ct.of (by decide) ?_
  intro p l e s m args below meth c0 G ad h av Q F hsp
  obtain ⟨g, A, S, ct, V, i, sc, rfl, hR, hA, rfl, hi, hs, hQ⟩ := hsp
  have hR0 := hR
  obtain ⟨r1, r2, r3, r4, ⟨r61, r62, r63, r64, r65⟩, r7⟩ := hR0
  subst r65
  have hnI := hA.2.2.2.1.1
  have hnS := hA.2.2.1.1
  have hi5 := hA.2.2.2.2.1
  have oS := hA.2.2.1.2 sc hs
  have oI := hA.2.2.2.1.2 i hi
  obtain ⟨⟨sk1, sk2⟩, sx, ⟨sb1, sb2⟩, ⟨sh1, sh2⟩⟩ := r3.2.1 sc hs
  obtain ⟨im1, im2, im3, im4, im5⟩ := r4.2.1 i hi
  refine ⟨x_ent rfl rfl, ?_⟩
  refine x_ls [(0, .ref (ad (50, 0))), (1, .int (nI i)), (2, .int (nI sc))] rfl ?_
  unfold deriveF at hQ
  refine x_aload_n (q := 1) F dX7_derive_0 rfl rfl (by first | exact xref_r | exact xref_n | exact xref_f _ | assumption) ?_
  refine x_iload_n (q := 2) F dX7_derive_1 rfl rfl ?_
  refine x_iload_n (q := 3) F dX7_derive_2 rfl rfl ?_
  refine x_callV2 (q := 6) F (50, 0) c_X7_hasDerived dX7_derive_3 rfl mv_X7_hasDerived ml_X7_135 ⟨⟨xle rfl, xle rfl⟩, xle rfl, xle rfl⟩ rfl (wM_o _ _ _ _ _) (xle rfl) ?_
  refine ⟨g, A, S, _, V, i, some sc, rfl, r4, hA, rfl, by omega, fun x hx => by cases hx; omega, fun _ => ?_⟩
  show xX p l e _ s m args below meth c0 G ad _ _ _ 6 _ [.int (bI (hasDerBy A i sc))] ad _ _ _
  refine x_if_eq (q := 9) F 12 dX7_derive_6 (by decide) rfl (fun c6 => ?_) (fun c6 => ?_)
  · have a1 := bI_1 c6
    rw [if_neg (by rw [a1]; decide)] at hQ
    refine x_aload_n (q := 13) F dX7_derive_12 rfl rfl (by first | exact xref_r | exact xref_n | exact xref_f _ | assumption) ?_
    refine x_iconst (q := 14) (v := 2) F dX7_derive_13 rfl (by decide) ?_
    refine x_iload_n (q := 15) F dX7_derive_14 rfl rfl ?_
    refine x_imul (q := 16) F dX7_derive_15 rfl ?_
    refine x_topi (pk_mul 2 sc) ?_
    refine x_iload_n (q := 17) F dX7_derive_16 rfl rfl ?_
    refine x_callV2 (q := 20) F (50, 0) c_X7_allHold dX7_derive_17 rfl mv_X7_allHold ml_X7_139 ⟨⟨xle rfl, xle rfl⟩, xle rfl, xle rfl⟩ rfl (wM_o _ _ _ _ _) (xle rfl) ?_
    refine ⟨g, S, _, V, 2 * sc, nI i, iN (aItm A i), iB (aItm A i), sBn (aScr A sc), sBk (aScr A sc), sBv (aScr A sc), rfl, rfl, Or.inr ⟨i, rfl, by omega, im1, im2⟩, oI.1, oI.2.1, by omega, sb1, oS.2.2.1, fun j hj => ⟨⟨(sb2 j hj).1, (oS.2.2.2.1 j hj).1⟩, (sb2 j hj).2, (oS.2.2.2.1 j hj).2⟩, fun _ => ?_⟩
    show xX p l e _ s m args below meth c0 G ad _ _ _ 20 _ [.int (bI (chkB (aScr A sc) (iN (aItm A i)) (iB (aItm A i))))] ad _ _ _
    refine x_if_ne (q := 23) F 26 dX7_derive_20 (by decide) rfl (fun c20 => ?_) (fun c20 => ?_)
    · have a2 := bI_0 c20
      rw [if_neg (by rw [a2]; decide)] at hQ
      refine x_aload_n (q := 27) F dX7_derive_26 rfl rfl (by first | exact xref_r | exact xref_n | exact xref_f _ | assumption) ?_
      refine x_iload_n (q := 28) F dX7_derive_27 rfl rfl ?_
      refine x_iload_n (q := 29) F dX7_derive_28 rfl rfl ?_
      refine x_callV2 (q := 32) F (50, 0) c_X7_run dX7_derive_29 rfl mv_X7_run ml_X7_142 ⟨⟨xle rfl, xle rfl⟩, xle rfl, xle rfl⟩ rfl (wM_o _ _ _ _ _) (xle rfl) ?_
      refine ⟨g, S, aCt A, V, aSt A, aNc A, sNk (aScr A sc), sL (aScr A sc), sV (aScr A sc), iN (aItm A i), iB (aItm A i), i, sc, aOut A, rfl, rfl, r61, r62, hi5.2, hi5.1, by omega, by omega, sk1, oS.1, fun j hj => ⟨⟨(sk2 j hj).1, (oS.2.1 j hj).1⟩, (sk2 j hj).2, (oS.2.1 j hj).2⟩, im1, oI.1, fun j hj => ⟨im2 j hj, oI.2.1 j hj⟩, fun S1 V1 hrun _ => ?_⟩
      have hrun : runOK S V (runA A i sc) S1 V1 := hrun
      have hR1 := rN_ran hR hrun
      have w24 : S1 24 = S 24 := hrun.1 24 (by decide) (by decide)
      have w65 : V1 65 = V 65 := hrun.2.2.2.1 65 (by decide) (by decide)
      have w66 : V1 66 = V 66 := hrun.2.2.2.1 66 (by decide) (by decide)
      have hok := runA_ok hA hi hs
      have hA1 := ranA_ok hA hi hs
      show xX p l e _ s m args below meth c0 G ad _ _ _ 32 _ [.int (nI (rF (runA A i sc).1))] ad (wM g ad S1 (lN (aCt A + (runA A i sc).2.2)) V1) _ _
      have hfl : rF (runA A i sc).1 ≤ 4 := hok.2.2.2.2.2.1
      refine x_istore_n (q := 33) F dX7_derive_32 rfl (by decide) ?_
      refine x_iload_n (q := 34) F dX7_derive_33 rfl rfl ?_
      refine x_if_le (q := 37) F 42 dX7_derive_34 (by decide) rfl (fun c34 => ?_) (fun c34 => ?_)
      · have hf0 : rF (runA A i sc).1 = 0 := by have := (nI_leI (a := rF (runA A i sc).1) (b := 0) (by omega) (by omega)).mp c34; omega
        rw [if_neg (fun z => z hf0)] at hQ
        obtain ⟨u1, u2, u3, u4, u5⟩ := hrun
        have hno : rNo (runA A i sc).1 ≤ 40 := hok.2.2.1
        have w56 := u4 56 (by decide) (by decide)
        have w57 := u4 57 (by decide) (by decide)
        have w58 := u4 58 (by decide) (by decide)
        refine x_aload_n (q := 43) F dX7_derive_42 rfl rfl (by first | exact xref_r | exact xref_n | exact xref_f _ | assumption) ?_
        refine x_iconst (q := 44) (v := 2) F dX7_derive_43 rfl (by decide) ?_
        refine x_iload_n (q := 45) F dX7_derive_44 rfl rfl ?_
        refine x_imul (q := 46) F dX7_derive_45 rfl ?_
        refine x_topi (pk_mul 2 sc) ?_
        refine x_iconst (q := 47) (v := 1) F dX7_derive_46 rfl (by decide) ?_
        refine x_iadd (q := 48) F dX7_derive_47 rfl ?_
        refine x_topi (nI_1 _) ?_
        refine x_iconst (q := 49) (v := -1) F dX7_derive_48 rfl (by decide) ?_
        refine x_callV2 (q := 52) F (50, 0) c_X7_allHold dX7_derive_49 rfl mv_X7_allHold ml_X7_139 ⟨⟨xle rfl, xle rfl⟩, xle rfl, xle rfl⟩ rfl (wM_o _ _ _ _ _) (xle rfl) ?_
        refine ⟨g, S1, _, V1, 2 * sc + 1, -1, rNo (runA A i sc).1, rOut (runA A i sc).1, sHn (aScr A sc), sHk (aScr A sc), sHv (aScr A sc), rfl, rfl, Or.inl ⟨rfl, u3, u5⟩, hno, hok.2.2.2.2.2.2, by omega, by rw [w56]; exact sh1, oS.2.2.2.2.1, fun j hj => (by rw [w57, w58]; exact ⟨⟨(sh2 j hj).1, (oS.2.2.2.2.2.1 j hj).1⟩, (sh2 j hj).2, (oS.2.2.2.2.2.1 j hj).2⟩), fun _ => ?_⟩
        show xX p l e _ s m args below meth c0 G ad _ _ _ 52 _ [.int (bI (chkH (aScr A sc) (rNo (runA A i sc).1) (rOut (runA A i sc).1)))] ad _ _ _
        refine x_if_ne (q := 55) F 58 dX7_derive_52 (by decide) rfl (fun c52 => ?_) (fun c52 => ?_)
        · have a4 := bI_0 c52
          rw [if_neg (by rw [a4]; decide)] at hQ
          have s17 : S1 17 = nI (aI A) := (u1 17 (by decide) (by decide)).trans r4.1
          refine x_aload_n (q := 59) F dX7_derive_58 rfl rfl (by first | exact xref_r | exact xref_n | exact xref_f _ | assumption) ?_
          refine x_mget (q := 62) F dX7_derive_59 rfl fs_X7_89 rfl ?_
          refine x_topi s17 ?_
          refine x_bipush (q := 64) (v := 60) F dX7_derive_62 rfl (by decide) ?_
          refine x_icmp_ne (q := 67) F 70 dX7_derive_64 (by decide) rfl (fun c64 => ?_) (fun c64 => ?_)
          · have hlt : aI A < 60 := by
              rcases Nat.lt_or_ge (aI A) 60 with q | q
              · exact q
              · exact absurd (show nI (aI A) = 60 by rw [show aI A = 60 by omega]; rfl) c64
            rw [if_neg (by omega)] at hQ
            have hno2 : S1 28 = nI (rNo (runA A i sc).1) := u3
            refine x_aload_n (q := 71) F dX7_derive_70 rfl rfl (by first | exact xref_r | exact xref_n | exact xref_f _ | assumption) ?_
            refine x_mget (q := 74) F dX7_derive_71 rfl fs_X7_42 rfl ?_
            refine x_aload_n (q := 75) F dX7_derive_74 rfl rfl (by first | exact xref_r | exact xref_n | exact xref_f _ | assumption) ?_
            refine x_mget (q := 78) F dX7_derive_75 rfl fs_X7_89 rfl ?_
            refine x_aload_n (q := 79) F dX7_derive_78 rfl rfl (by first | exact xref_r | exact xref_n | exact xref_f _ | assumption) ?_
            refine x_mget (q := 82) F dX7_derive_79 rfl fs_X7_113 rfl ?_
            refine x_mist (q := 83) F dX7_derive_82 rfl rfl (by decide) (by decide) s17 hlt ?_
            refine x_iconst (q := 84) (v := 0) F dX7_derive_83 rfl (by decide) ?_
            refine x_istore (q := 86) F dX7_derive_84 rfl (by decide) ?_
            refine x_ls [(0, .ref (ad (50, 0))), (1, .int (nI i)), (2, .int (nI sc)), (4, .int (nI 0))] rfl ?_
            have loop : ∀ k d V2, d + k = rNo (runA A i sc).1 → frC (aI A) (upV V1 60 (aI A) (S1 28)) V2 → (∀ j, j < d → V2 61 (40 * aI A + j) &&& 255 = nI (rOut (runA A i sc).1 j)) → xX p l e (xrm 2 0 0) s m args below meth c0 G ad (wM g ad S (lN (aCt A)) V) 5 (xZ below G ad (wM g ad S (lN (aCt A)) V) Q args s (xrm 2 0 0)) 86 [(0, .ref (ad (50, 0))), (1, .int (nI i)), (2, .int (nI sc)), (4, .int (nI d))] [] ad (wM g ad S1 (lN (aCt A + (runA A i sc).2.2)) V2) 0 0 := by
              intro k
              induction k with
              | zero =>
                intro d V2 hd hfr hV
                refine x_iload (q := 88) F dX7_derive_86 rfl rfl ?_
                refine x_aload_n (q := 89) F dX7_derive_88 rfl rfl (by first | exact xref_r | exact xref_n | exact xref_f _ | assumption) ?_
                refine x_mget (q := 92) F dX7_derive_89 rfl fs_X7_113 rfl ?_
                refine x_topi hno2 ?_
                refine x_icmp_ge (q := 95) F 123 dX7_derive_92 (by decide) rfl (fun c92 => ?_) (fun c92 => ?_)
                · refine x_aload_n (q := 124) F dX7_derive_123 rfl rfl (by first | exact xref_r | exact xref_n | exact xref_f _ | assumption) ?_
                  refine x_mget (q := 127) F dX7_derive_124 rfl fs_X7_48 rfl ?_
                  refine x_aload_n (q := 128) F dX7_derive_127 rfl rfl (by first | exact xref_r | exact xref_n | exact xref_f _ | assumption) ?_
                  refine x_mget (q := 131) F dX7_derive_128 rfl fs_X7_89 rfl ?_
                  refine x_iload_n (q := 132) F dX7_derive_131 rfl rfl ?_
                  refine x_mist (q := 133) F dX7_derive_132 rfl rfl (by decide) (by decide) s17 hlt ?_
                  refine x_aload_n (q := 134) F dX7_derive_133 rfl rfl (by first | exact xref_r | exact xref_n | exact xref_f _ | assumption) ?_
                  refine x_mget (q := 137) F dX7_derive_134 rfl fs_X7_51 rfl ?_
                  refine x_aload_n (q := 138) F dX7_derive_137 rfl rfl (by first | exact xref_r | exact xref_n | exact xref_f _ | assumption) ?_
                  refine x_mget (q := 141) F dX7_derive_138 rfl fs_X7_89 rfl ?_
                  refine x_iload_n (q := 142) F dX7_derive_141 rfl rfl ?_
                  refine x_mist (q := 143) F dX7_derive_142 rfl rfl (by decide) (by decide) s17 hlt ?_
                  refine x_aload_n (q := 144) F dX7_derive_143 rfl rfl (by first | exact xref_r | exact xref_n | exact xref_f _ | assumption) ?_
                  refine x_mget (q := 147) F dX7_derive_144 rfl fs_X7_58 rfl ?_
                  refine x_aload_n (q := 148) F dX7_derive_147 rfl rfl (by first | exact xref_r | exact xref_n | exact xref_f _ | assumption) ?_
                  refine x_mget (q := 151) F dX7_derive_148 rfl fs_X7_89 rfl ?_
                  refine x_iconst (q := 152) (v := 0) F dX7_derive_151 rfl (by decide) ?_
                  refine x_mist (q := 153) F dX7_derive_152 rfl rfl (by decide) (by decide) s17 hlt ?_
                  refine x_aload_n (q := 154) F dX7_derive_153 rfl rfl (by first | exact xref_r | exact xref_n | exact xref_f _ | assumption) ?_
                  refine x_dup (q := 155) F dX7_derive_154 rfl rfl ?_
                  refine x_mget (q := 158) F dX7_derive_155 rfl fs_X7_89 rfl ?_
                  refine x_topi s17 ?_
                  refine x_iconst (q := 159) (v := 1) F dX7_derive_158 rfl (by decide) ?_
                  refine x_iadd (q := 160) F dX7_derive_159 rfl ?_
                  refine x_topi (nI_1 _) ?_
                  refine x_mput (q := 163) F dX7_derive_160 rfl fs_X7_89 (by decide) rfl rfl rfl ?_
                  refine x_aload_n (q := 164) F dX7_derive_163 rfl rfl (by first | exact xref_r | exact xref_n | exact xref_f _ | assumption) ?_
                  refine x_mget (q := 167) F dX7_derive_164 rfl fs_X7_89 rfl ?_
                  refine x_topi (y := nI (aI A + 1)) rfl ?_
                  refine x_iconst (q := 168) (v := 1) F dX7_derive_167 rfl (by decide) ?_
                  refine x_isub (q := 169) F dX7_derive_168 rfl ?_
                  refine x_topi (nI_pred _) ?_
                  refine x_iret F dX7_derive_169 (xle rfl) (xle rfl) ?_
                  refine hQ _ _ _ (rN_push (B := ranA A i sc) (d := newI A i sc) hR1 hA1 hlt rfl ?_ ?_ ?_ ?_ ?_ rfl (fun j q1 q2 => pk_un q2)) w24 ?_ (fun j q => ?_) (fun _ => upV_at _ 65 (aI A) 0)
                  · refine ⟨fun a q1 q2 q3 q4 q5 => ?_, fun j (q : j ≠ aI A) => ⟨?_, ?_, ?_, ?_⟩, fun j (q : j < 40 * aI A ∨ 40 * aI A + 40 ≤ j) => ?_⟩
                    · rw [upV_n _ _ _ q5, upV_n _ _ _ q4, upV_n _ _ _ q3, hfr.1 a q2, upV_n _ _ _ q1]
                    · show V2 60 j = V1 60 j
                      rw [hfr.1 60 (by decide)]
                      exact upV_ne _ _ _ q
                    · show upV V2 62 (aI A) (nI i) 62 j = V1 62 j
                      rw [upV_ne _ _ _ q, hfr.1 62 (by decide)]
                      rfl
                    · show upV _ 63 (aI A) (nI sc) 63 j = V1 63 j
                      rw [upV_ne _ _ _ q]
                      show V2 63 j = V1 63 j
                      rw [hfr.1 63 (by decide)]
                      rfl
                    · show upV _ 65 (aI A) 0 65 j = V1 65 j
                      rw [upV_ne _ _ _ q]
                      show V2 65 j = V1 65 j
                      rw [hfr.1 65 (by decide)]
                      rfl
                    · show V2 61 j = V1 61 j
                      rw [hfr.2 j q]
                      rfl
                  · show V2 60 (aI A) = nI (rNo (runA A i sc).1)
                    rw [hfr.1 60 (by decide), upV_at]
                    exact hno2
                  · intro j hj
                    exact hV j (by have hj : j < rNo (runA A i sc).1 := hj; omega)
                  · exact upV_at V2 62 (aI A) (nI i)
                  · exact upV_at (upV V2 62 (aI A) (nI i)) 63 (aI A) (nI sc)
                  · show V2 66 = V 66
                    rw [hfr.1 66 (by decide)]
                    exact w66
                  · rw [upV_ne _ _ _ q]
                    show V2 65 j = V 65 j
                    rw [hfr.1 65 (by decide)]
                    exact congrFun w65 j
                · exact absurd ((nI_leI (by omega) (by omega)).mpr (by omega)) c92
              | succ k ih =>
                intro d V2 hd hfr hV
                refine x_iload (q := 88) F dX7_derive_86 rfl rfl ?_
                refine x_aload_n (q := 89) F dX7_derive_88 rfl rfl (by first | exact xref_r | exact xref_n | exact xref_f _ | assumption) ?_
                refine x_mget (q := 92) F dX7_derive_89 rfl fs_X7_113 rfl ?_
                refine x_topi hno2 ?_
                refine x_icmp_ge (q := 95) F 123 dX7_derive_92 (by decide) rfl (fun c92 => ?_) (fun c92 => ?_)
                · have := (nI_leI (by omega) (by omega)).mp c92; omega
                · refine x_aload_n (q := 96) F dX7_derive_95 rfl rfl (by first | exact xref_r | exact xref_n | exact xref_f _ | assumption) ?_
                  refine x_mget (q := 99) F dX7_derive_96 rfl fs_X7_45 rfl ?_
                  refine x_bipush (q := 101) (v := 40) F dX7_derive_99 rfl (by decide) ?_
                  refine x_aload_n (q := 102) F dX7_derive_101 rfl rfl (by first | exact xref_r | exact xref_n | exact xref_f _ | assumption) ?_
                  refine x_mget (q := 105) F dX7_derive_102 rfl fs_X7_89 rfl ?_
                  refine x_topi s17 ?_
                  refine x_imul (q := 106) F dX7_derive_105 rfl ?_
                  refine x_topi (pk_mul 40 _) ?_
                  refine x_iload (q := 108) F dX7_derive_106 rfl rfl ?_
                  refine x_iadd (q := 109) F dX7_derive_108 rfl ?_
                  refine x_topi (nI_add _ _) ?_
                  refine x_aload_n (q := 110) F dX7_derive_109 rfl rfl (by first | exact xref_r | exact xref_n | exact xref_f _ | assumption) ?_
                  refine x_mget (q := 113) F dX7_derive_110 rfl fs_X7_67 rfl ?_
                  refine x_iload (q := 115) F dX7_derive_113 rfl rfl ?_
                  refine x_mbld (q := 116) F dX7_derive_115 rfl rfl (by decide) (by decide) rfl (by omega) ?_
                  refine x_mbst (q := 117) F dX7_derive_116 rfl rfl (by decide) (by decide) rfl (by omega) ?_
                  refine x_iinc (q := 120) F dX7_derive_117 rfl rfl (nI_1 d) (by decide) ?_
                  refine x_goto F 86 dX7_derive_120 (by decide) ?_
                  refine x_ls [(0, .ref (ad (50, 0))), (1, .int (nI i)), (2, .int (nI sc)), (4, .int (nI (d + 1)))] rfl ?_
                  refine ih (d + 1) _ (by omega) (hfr.up (by omega) _) (fun j hj => ?_)
                  by_cases z : j = d
                  · subst z
                    rw [upV_at, mb_nar, hfr.1 67 (by decide)]
                    exact u5 j (by omega)
                  · rw [upV_ne _ _ _ (by omega)]
                    exact hV j (by omega)
            exact loop (rNo (runA A i sc).1) 0 _ (by omega) (frC.rf _ _) (fun j hj => absurd hj (Nat.not_lt_zero j))
          · have h60 : aI A = 60 := (nI_eq (a := aI A) (b := 60) (by omega) (by omega)).mp c64
            rw [if_pos (by omega)] at hQ
            refine x_bipush (q := 69) (v := -4) F dX7_derive_67 rfl (by decide) ?_
            refine x_iret F dX7_derive_69 (xle rfl) (xle rfl) ?_
            exact hQ _ _ _ hR1 w24 w66 (fun j _ => congrFun w65 j) (fun z => absurd (show (-4 : Int32) < 0 by decide) z)
        · rw [if_pos (bI_1 c52)] at hQ
          refine x_bipush (q := 57) (v := -17) F dX7_derive_55 rfl (by decide) ?_
          refine x_iret F dX7_derive_57 (xle rfl) (xle rfl) ?_
          exact hQ _ _ _ hR1 w24 w66 (fun j _ => congrFun w65 j) (fun z => absurd (show (-17 : Int32) < 0 by decide) z)
      · have hf0 : rF (runA A i sc).1 ≠ 0 := fun z => c34 (by rw [z]; decide)
        rw [if_pos hf0] at hQ
        refine x_bipush (q := 39) (v := -12) F dX7_derive_37 rfl (by decide) ?_
        refine x_iload_n (q := 40) F dX7_derive_39 rfl rfl ?_
        refine x_isub (q := 41) F dX7_derive_40 rfl ?_
        refine x_iret F dX7_derive_41 (xle rfl) (xle rfl) ?_
        have hneg : -12 - nI (rF (runA A i sc).1) < 0 := by
          rcases (show rF (runA A i sc).1 = 0 ∨ rF (runA A i sc).1 = 1 ∨ rF (runA A i sc).1 = 2 ∨ rF (runA A i sc).1 = 3 ∨ rF (runA A i sc).1 = 4 by omega) with z | z | z | z | z <;> rw [z] <;> decide
        exact hQ _ _ _ hR1 w24 w66 (fun j _ => congrFun w65 j) (fun z => absurd hneg z)
    · rw [if_pos (bI_1 c20)] at hQ
      refine x_bipush (q := 25) (v := -12) F dX7_derive_23 rfl (by decide) ?_
      refine x_iret F dX7_derive_25 (xle rfl) (xle rfl) ?_
      exact hQ _ _ _ hR rfl rfl (fun _ _ => rfl) (fun z => absurd (show (-12 : Int32) < 0 by decide) z)
  · rw [if_pos (bI_0 c6)] at hQ
    refine x_bipush (q := 11) (v := -11) F dX7_derive_9 rfl (by decide) ?_
    refine x_iret F dX7_derive_11 (xle rfl) (xle rfl) ?_
    exact hQ _ _ _ hR rfl rfl (fun _ _ => rfl) (fun z => absurd (show (-11 : Int32) < 0 by decide) z)
theorem rBt_derive {A : AS} {S S' : Nat → Int32} {V V' : MV} (hA : aOK A) (h : rBt A S V) {i sc : Nat} (hi : i < aI A) (hs : sc < aS A) (e24 : S' 24 = S 24) (v66 : V' 66 = V 66) (v65 : ∀ j, j ≠ aI A → V' 65 j = V 65 j) (e65 : ¬ (deriveF A i sc).1 < 0 → V' 65 (aI A) = 0) : rBt (deriveF A i sc).2 S' V' := by
  have hsame := deriveF_same A i sc
  rcases deriveF_cases hA hi hs with ⟨d1, d2, d3, d4⟩ | ⟨d1, d2, d3, d4⟩
  · obtain ⟨nb, bm, ob, b1, b2, b3, b4, b5, b6, b7, b8⟩ := h
    unfold rBt
    rw [d3, d4, hsame.2.2.1, v66]
    exact ⟨nb, bm, ob, e24.trans b1, b2, b3, b4, b5, b6, b7, fun j hj => by rw [v65 j (by omega)]; exact b8 j hj⟩
  · rw [d3]
    exact rBt_push (B := ranA A i sc) h rfl e24 v66 v65 (e65 (by rw [d2]; exact nI_pos (by omega)))
theorem Ct.mono {y : MethodName} {b : ByteArray} {n : Nat} {r : Option FieldType} {rm : Room} {sp sp' : xSp} (C : Ct y b n r rm sp) (h : ∀ ad h av Q, sp' ad h av Q → sp ad h av Q) : Ct y b n r rm sp' := fun l G ad g av Q sz q => C l G ad g av Q sz (h ad g av Q q)
theorem c_X7_derive : Ct yX7_derive cX7_derive 5 (some .int) (xrm 2 0 0) (fun ad h av Q => ∃ g A S ct V i sc, h = wM g ad S ct V ∧ rM A S ct V ∧ aOK A ∧ av = [.ref (ad (50, 0)), .int (nI i), .int (nI sc)] ∧ i < aI A ∧ sc < aS A ∧ ∀ S' ct' V', rM (deriveF A i sc).2 S' ct' V' → Q (some (.int (deriveF A i sc).1)) ad (wM g ad S' ct' V')) := by
  refine c_X7_deriveN.mono (fun ad h av Q z => ?_)
  obtain ⟨g, A, S, ct, V, i, sc, z1, z2, z3, z4, z5, z6, z7⟩ := z
  exact ⟨g, A, S, ct, V, i, sc, z1, z2.n, z3, z4, z5, z6, fun S' ct' V' y1 y2 y3 y4 y5 => z7 S' ct' V' (y1.m (rBt_derive z3 z2.2.2.2.2.1 z5 z6 y2 y3 y4 y5))⟩
