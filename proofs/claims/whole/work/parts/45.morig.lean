/-! ===== the reference: original, check ===== -/
set_option maxRecDepth 100000 in
set_option maxHeartbeats 1000000 in
theorem c_X7_original : Ct yX7_original cX7_original 2 (some .int) (xrm 0 0 0) (fun ad h av Q => ∃ g A S ct V, h = wM g ad S ct V ∧ rM A S ct V ∧ aOK A ∧ av = [.ref (ad (50, 0))] ∧ ∀ S' V', rM (originalF A).2 S' ct V' → Q (some (.int (originalF A).1)) ad (wM g ad S' ct V')) := by
  refine Ct.of (by decide) ?_
  intro p l e s m args below meth c0 G ad h av Q F hsp
  obtain ⟨g, A, S, ct, V, rfl, hR, hA, rfl, hQ⟩ := hsp
  have hnI := hA.2.2.2.1.1
  have hcn := hA.2.1.1
  have hR0 : rM A (upd S 0 0) ct V := hR
  have r2 := hR.2.1
  have r4 := hR.2.2.2.1
  have s17 : upd S 0 0 17 = nI (aI A) := r4.1
  have s15 : upd S 0 0 15 = nI (aCn A) := r2.1
  refine ⟨x_ent rfl rfl, ?_⟩
  refine x_ls [(0, .ref (ad (50, 0)))] rfl ?_
  unfold originalF at hQ
  refine x_aload_n (q := 1) F dX7_original_0 rfl rfl (by first | exact xref_r | exact xref_n | exact xref_f _ | assumption) ?_
  refine x_iconst (q := 2) (v := 0) F dX7_original_1 rfl (by decide) ?_
  refine x_mput (q := 5) F dX7_original_2 rfl fs_X7_79 (by decide) rfl rfl rfl ?_
  refine x_aload_n (q := 6) F dX7_original_5 rfl rfl (by first | exact xref_r | exact xref_n | exact xref_f _ | assumption) ?_
  refine x_mget (q := 9) F dX7_original_6 rfl fs_X7_89 rfl ?_
  refine x_topi s17 ?_
  refine x_bipush (q := 11) (v := 60) F dX7_original_9 rfl (by decide) ?_
  refine x_icmp_ne (q := 14) F 17 dX7_original_11 (by decide) rfl (fun c11 => ?_) (fun c11 => ?_)
  · have hlt : aI A < 60 := by
      rcases Nat.lt_or_ge (aI A) 60 with q | q
      · exact q
      · exact absurd (show nI (aI A) = 60 by rw [show aI A = 60 by omega]; rfl) c11
    rw [if_neg (by omega)] at hQ
    refine x_aload_n (q := 18) F dX7_original_17 rfl rfl (by first | exact xref_r | exact xref_n | exact xref_f _ | assumption) ?_
    refine x_mget (q := 21) F dX7_original_18 rfl fs_X7_42 rfl ?_
    refine x_aload_n (q := 22) F dX7_original_21 rfl rfl (by first | exact xref_r | exact xref_n | exact xref_f _ | assumption) ?_
    refine x_mget (q := 25) F dX7_original_22 rfl fs_X7_89 rfl ?_
    refine x_aload_n (q := 26) F dX7_original_25 rfl rfl (by first | exact xref_r | exact xref_n | exact xref_f _ | assumption) ?_
    refine x_mget (q := 29) F dX7_original_26 rfl fs_X7_125 rfl ?_
    refine x_mist (q := 30) F dX7_original_29 rfl rfl (by decide) (by decide) s17 hlt ?_
    refine x_iconst (q := 31) (v := 0) F dX7_original_30 rfl (by decide) ?_
    refine x_istore_n (q := 32) F dX7_original_31 rfl (by decide) ?_
    refine x_ls [(0, .ref (ad (50, 0))), (1, .int (nI 0))] rfl ?_
    have loop : ∀ k d V2, d + k = aCn A → frC (aI A) (upV V 60 (aI A) (upd S 0 0 15)) V2 → (∀ j, j < d → V2 61 (40 * aI A + j) &&& 255 = nI (aCb A j)) → xX p l e (xrm 0 0 0) s m args below meth c0 G ad (wM g ad S ct V) 2 (xZ below G ad (wM g ad S ct V) Q args s (xrm 0 0 0)) 32 [(0, .ref (ad (50, 0))), (1, .int (nI d))] [] ad (wM g ad (upd S 0 0) ct V2) 0 0 := by
      intro k
      induction k with
      | zero =>
        intro d V2 hd hfr hV
        refine x_iload_n (q := 33) F dX7_original_32 rfl rfl ?_
        refine x_aload_n (q := 34) F dX7_original_33 rfl rfl (by first | exact xref_r | exact xref_n | exact xref_f _ | assumption) ?_
        refine x_mget (q := 37) F dX7_original_34 rfl fs_X7_125 rfl ?_
        refine x_topi s15 ?_
        refine x_icmp_ge (q := 40) F 66 dX7_original_37 (by decide) rfl (fun c37 => ?_) (fun c37 => ?_)
        · refine x_aload_n (q := 67) F dX7_original_66 rfl rfl (by first | exact xref_r | exact xref_n | exact xref_f _ | assumption) ?_
          refine x_mget (q := 70) F dX7_original_67 rfl fs_X7_48 rfl ?_
          refine x_aload_n (q := 71) F dX7_original_70 rfl rfl (by first | exact xref_r | exact xref_n | exact xref_f _ | assumption) ?_
          refine x_mget (q := 74) F dX7_original_71 rfl fs_X7_89 rfl ?_
          refine x_iconst (q := 75) (v := -1) F dX7_original_74 rfl (by decide) ?_
          refine x_mist (q := 76) F dX7_original_75 rfl rfl (by decide) (by decide) s17 hlt ?_
          refine x_aload_n (q := 77) F dX7_original_76 rfl rfl (by first | exact xref_r | exact xref_n | exact xref_f _ | assumption) ?_
          refine x_mget (q := 80) F dX7_original_77 rfl fs_X7_51 rfl ?_
          refine x_aload_n (q := 81) F dX7_original_80 rfl rfl (by first | exact xref_r | exact xref_n | exact xref_f _ | assumption) ?_
          refine x_mget (q := 84) F dX7_original_81 rfl fs_X7_89 rfl ?_
          refine x_iconst (q := 85) (v := -1) F dX7_original_84 rfl (by decide) ?_
          refine x_mist (q := 86) F dX7_original_85 rfl rfl (by decide) (by decide) s17 hlt ?_
          refine x_aload_n (q := 87) F dX7_original_86 rfl rfl (by first | exact xref_r | exact xref_n | exact xref_f _ | assumption) ?_
          refine x_mget (q := 90) F dX7_original_87 rfl fs_X7_58 rfl ?_
          refine x_aload_n (q := 91) F dX7_original_90 rfl rfl (by first | exact xref_r | exact xref_n | exact xref_f _ | assumption) ?_
          refine x_mget (q := 94) F dX7_original_91 rfl fs_X7_89 rfl ?_
          refine x_iconst (q := 95) (v := 0) F dX7_original_94 rfl (by decide) ?_
          refine x_mist (q := 96) F dX7_original_95 rfl rfl (by decide) (by decide) s17 hlt ?_
          refine x_aload_n (q := 97) F dX7_original_96 rfl rfl (by first | exact xref_r | exact xref_n | exact xref_f _ | assumption) ?_
          refine x_iconst (q := 98) (v := 0) F dX7_original_97 rfl (by decide) ?_
          refine x_mput (q := 101) F dX7_original_98 rfl fs_X7_125 (by decide) rfl rfl rfl ?_
          refine x_aload_n (q := 102) F dX7_original_101 rfl rfl (by first | exact xref_r | exact xref_n | exact xref_f _ | assumption) ?_
          refine x_dup (q := 103) F dX7_original_102 rfl rfl ?_
          refine x_mget (q := 106) F dX7_original_103 rfl fs_X7_89 rfl ?_
          refine x_topi (y := nI (aI A)) s17 ?_
          refine x_iconst (q := 107) (v := 1) F dX7_original_106 rfl (by decide) ?_
          refine x_iadd (q := 108) F dX7_original_107 rfl ?_
          refine x_topi (nI_1 _) ?_
          refine x_mput (q := 111) F dX7_original_108 rfl fs_X7_89 (by decide) rfl rfl rfl ?_
          refine x_aload_n (q := 112) F dX7_original_111 rfl rfl (by first | exact xref_r | exact xref_n | exact xref_f _ | assumption) ?_
          refine x_mget (q := 115) F dX7_original_112 rfl fs_X7_89 rfl ?_
          refine x_topi (y := nI (aI A + 1)) rfl ?_
          refine x_iconst (q := 116) (v := 1) F dX7_original_115 rfl (by decide) ?_
          refine x_isub (q := 117) F dX7_original_116 rfl ?_
          refine x_topi (nI_pred _) ?_
          refine x_iret F dX7_original_117 (xle rfl) (xle rfl) ?_
          have hp := rM_push (B := A) (d := origI A) (S' := upd (upd S 0 0) 17 (nI (aI A + 1))) (V' := upV (upV (upV V2 62 (aI A) (-1)) 63 (aI A) (-1)) 65 (aI A) 0) hR0 hA hlt rfl rfl ?_ ?_ ?_ ?_ ?_ ?_ rfl (fun j q1 q2 => pk_un q2)
          · obtain ⟨h1, h2, h3, h4, h5, h6, h7⟩ := hp
            exact hQ _ _ ⟨h1, ⟨rfl, fun j hj => absurd hj (Nat.not_lt_zero j)⟩, h3, h4, h5, h6, h7⟩
          · refine ⟨fun a q1 q2 q3 q4 q5 => ?_, fun j (q : j ≠ aI A) => ⟨?_, ?_, ?_, ?_⟩, fun j (q : j < 40 * aI A ∨ 40 * aI A + 40 ≤ j) => ?_⟩
            · rw [upV_n _ _ _ q5, upV_n _ _ _ q4, upV_n _ _ _ q3, hfr.1 a q2, upV_n _ _ _ q1]
            · show V2 60 j = V 60 j
              rw [hfr.1 60 (by decide)]
              exact upV_ne _ _ _ q
            · show upV V2 62 (aI A) (-1) 62 j = V 62 j
              rw [upV_ne _ _ _ q, hfr.1 62 (by decide)]
              rfl
            · show upV _ 63 (aI A) (-1) 63 j = V 63 j
              rw [upV_ne _ _ _ q]
              show V2 63 j = V 63 j
              rw [hfr.1 63 (by decide)]
              rfl
            · show upV _ 65 (aI A) 0 65 j = V 65 j
              rw [upV_ne _ _ _ q]
              show V2 65 j = V 65 j
              rw [hfr.1 65 (by decide)]
              rfl
            · show V2 61 j = V 61 j
              rw [hfr.2 j q]
              rfl
          · show V2 60 (aI A) = nI (aCn A)
            rw [hfr.1 60 (by decide), upV_at]
            exact s15
          · intro j hj
            exact hV j (by have hj : j < aCn A := hj; omega)
          · exact upV_at V2 62 (aI A) (-1)
          · exact upV_at (upV V2 62 (aI A) (-1)) 63 (aI A) (-1)
          · exact upV_at _ 65 (aI A) 0
        · exact absurd ((nI_leI (by omega) (by omega)).mpr (by omega)) c37
      | succ k ih =>
        intro d V2 hd hfr hV
        refine x_iload_n (q := 33) F dX7_original_32 rfl rfl ?_
        refine x_aload_n (q := 34) F dX7_original_33 rfl rfl (by first | exact xref_r | exact xref_n | exact xref_f _ | assumption) ?_
        refine x_mget (q := 37) F dX7_original_34 rfl fs_X7_125 rfl ?_
        refine x_topi s15 ?_
        refine x_icmp_ge (q := 40) F 66 dX7_original_37 (by decide) rfl (fun c37 => ?_) (fun c37 => ?_)
        · have := (nI_leI (by omega) (by omega)).mp c37; omega
        · refine x_aload_n (q := 41) F dX7_original_40 rfl rfl (by first | exact xref_r | exact xref_n | exact xref_f _ | assumption) ?_
          refine x_mget (q := 44) F dX7_original_41 rfl fs_X7_45 rfl ?_
          refine x_bipush (q := 46) (v := 40) F dX7_original_44 rfl (by decide) ?_
          refine x_aload_n (q := 47) F dX7_original_46 rfl rfl (by first | exact xref_r | exact xref_n | exact xref_f _ | assumption) ?_
          refine x_mget (q := 50) F dX7_original_47 rfl fs_X7_89 rfl ?_
          refine x_topi s17 ?_
          refine x_imul (q := 51) F dX7_original_50 rfl ?_
          refine x_topi (pk_mul 40 _) ?_
          refine x_iload_n (q := 52) F dX7_original_51 rfl rfl ?_
          refine x_iadd (q := 53) F dX7_original_52 rfl ?_
          refine x_topi (nI_add _ _) ?_
          refine x_aload_n (q := 54) F dX7_original_53 rfl rfl (by first | exact xref_r | exact xref_n | exact xref_f _ | assumption) ?_
          refine x_mget (q := 57) F dX7_original_54 rfl fs_X7_39 rfl ?_
          refine x_iload_n (q := 58) F dX7_original_57 rfl rfl ?_
          refine x_mbld (q := 59) F dX7_original_58 rfl rfl (by decide) (by decide) rfl (by omega) ?_
          refine x_mbst (q := 60) F dX7_original_59 rfl rfl (by decide) (by decide) rfl (by omega) ?_
          refine x_iinc (q := 63) F dX7_original_60 rfl rfl (nI_1 d) (by decide) ?_
          refine x_goto F 32 dX7_original_63 (by decide) ?_
          refine x_ls [(0, .ref (ad (50, 0))), (1, .int (nI (d + 1)))] rfl ?_
          refine ih (d + 1) _ (by omega) (hfr.up (by omega) _) (fun j hj => ?_)
          by_cases z : j = d
          · subst z
            rw [upV_at, mb_nar, hfr.1 59 (by decide)]
            exact r2.2 j (by omega)
          · rw [upV_ne _ _ _ (by omega)]
            exact hV j (by omega)
    exact loop (aCn A) 0 _ (by omega) (frC.rf _ _) (fun j hj => absurd hj (Nat.not_lt_zero j))
  · have h60 : aI A = 60 := (nI_eq (a := aI A) (b := 60) (by omega) (by omega)).mp c11
    rw [if_pos (by omega)] at hQ
    refine x_bipush (q := 16) (v := -4) F dX7_original_14 rfl (by decide) ?_
    refine x_iret F dX7_original_16 (xle rfl) (xle rfl) ?_
    exact hQ _ _ hR0
/-- the rows of checks but the row r are as they were -/
theorem rM_chk {A : AS} {S : Nat → Int32} {V : MV} {ct : Int64} (h : rM A S ct V) (hA : aOK A) {s n : Nat} (hs : s < aS A) (bh : Bool) (k w : Nat) (hn : n = if bh = true then sHn (aScr A s) else sBn (aScr A s)) (hn4 : n < 4) : rM (setSc A (aS A, updS (aScr A) s (if bh = true then addH (aScr A s) k w else addB (aScr A s) k w))) S ct (upV (upV (upV V 57 (4 * (2 * s + if bh = true then 1 else 0) + n) (nI k)) 58 (4 * (2 * s + if bh = true then 1 else 0) + n) (nI w)) 56 (2 * s + if bh = true then 1 else 0) (nI (n + 1))) := by
  obtain ⟨h1, h2, ⟨s1, s2, s3⟩, h4, h5, h6, h7⟩ := h
  obtain ⟨r, hr⟩ : ∃ r, r = 2 * s + if bh = true then 1 else 0 := ⟨_, rfl⟩
  rw [← hr]
  have v57 : ∀ i, i ≠ 4 * r + n → upV (upV (upV V 57 (4 * r + n) (nI k)) 58 (4 * r + n) (nI w)) 56 r (nI (n + 1)) 57 i = V 57 i := fun i q => upV_ne V 57 _ q
  have v58 : ∀ i, i ≠ 4 * r + n → upV (upV (upV V 57 (4 * r + n) (nI k)) 58 (4 * r + n) (nI w)) 56 r (nI (n + 1)) 58 i = V 58 i := fun i q => upV_ne (upV V 57 (4 * r + n) (nI k)) 58 _ q
  have v56 : ∀ i, i ≠ r → upV (upV (upV V 57 (4 * r + n) (nI k)) 58 (4 * r + n) (nI w)) 56 r (nI (n + 1)) 56 i = V 56 i := fun i q => upV_ne (upV (upV V 57 (4 * r + n) (nI k)) 58 (4 * r + n) (nI w)) 56 _ q
  have a57 : upV (upV (upV V 57 (4 * r + n) (nI k)) 58 (4 * r + n) (nI w)) 56 r (nI (n + 1)) 57 (4 * r + n) = nI k := upV_at V 57 _ _
  have a58 : upV (upV (upV V 57 (4 * r + n) (nI k)) 58 (4 * r + n) (nI w)) 56 r (nI (n + 1)) 58 (4 * r + n) = nI w := upV_at (upV V 57 (4 * r + n) (nI k)) 58 _ _
  have a56 : upV (upV (upV V 57 (4 * r + n) (nI k)) 58 (4 * r + n) (nI w)) 56 r (nI (n + 1)) 56 r = nI (n + 1) := upV_at (upV (upV V 57 (4 * r + n) (nI k)) 58 (4 * r + n) (nI w)) 56 _ _
  have o : ∀ a, a ≠ 56 → a ≠ 57 → a ≠ 58 → upV (upV (upV V 57 (4 * r + n) (nI k)) 58 (4 * r + n) (nI w)) 56 r (nI (n + 1)) a = V a := fun a q1 q2 q3 => by rw [upV_n _ _ _ q1, upV_n _ _ _ q3, upV_n _ _ _ q2]
  generalize upV (upV (upV V 57 (4 * r + n) (nI k)) 58 (4 * r + n) (nI w)) 56 r (nI (n + 1)) = V' at v57 v58 v56 a57 a58 a56 o ⊢
  have rb : r = 2 * s ∨ r = 2 * s + 1 := by
    cases bh with
    | true => exact Or.inr hr
    | false => exact Or.inl hr
  refine ⟨h1.c rfl (o 51 (by decide) (by decide) (by decide)), h2.c rfl (o 59 (by decide) (by decide) (by decide)), ⟨s1, fun j hj => ?_, fun j q1 q2 => ?_⟩, h4.c rfl (fun a q1 q2 => o a (by omega) (by omega) (by omega)), h5.c rfl (o 65 (by decide) (by decide) (by decide)) (o 66 (by decide) (by decide) (by decide)), h6.c rfl rfl rfl rfl (o 67 (by decide) (by decide) (by decide)), h7⟩
  · have hj : j < aS A := hj
    have oj := hA.2.2.1.2 j hj
    have b4 := oj.2.2.1
    have h4' := oj.2.2.2.2.1
    obtain ⟨⟨c1, c2⟩, c3, ⟨c4, c5⟩, ⟨c6, c7⟩⟩ := s2 j hj
    have keepK : V' 52 j = nI (sNk (aScr A j)) ∧ ∀ i, i < sNk (aScr A j) → V' 53 (40 * j + i) = nI (sL (aScr A j) i) ∧ V' 54 (40 * j + i) = nI (sV (aScr A j) i) := by
      rw [o 52 (by decide) (by decide) (by decide), o 53 (by decide) (by decide) (by decide), o 54 (by decide) (by decide) (by decide)]
      exact ⟨c1, c2⟩
    have keepN : V' 55 j = optI (sNx (aScr A j)) := by rw [o 55 (by decide) (by decide) (by decide)]; exact c3
    have keepB : r ≠ 2 * j → V' 56 (2 * j) = nI (sBn (aScr A j)) ∧ ∀ i, i < sBn (aScr A j) → V' 57 (4 * (2 * j) + i) = nI (sBk (aScr A j) i) ∧ V' 58 (4 * (2 * j) + i) = nI (sBv (aScr A j) i) := by
      intro q
      refine ⟨(v56 _ (fun z => q z.symm)).trans c4, fun i hi => ?_⟩
      rw [v57 _ (by omega), v58 _ (by omega)]
      exact c5 i hi
    have keepH : r ≠ 2 * j + 1 → V' 56 (2 * j + 1) = nI (sHn (aScr A j)) ∧ ∀ i, i < sHn (aScr A j) → V' 57 (4 * (2 * j + 1) + i) = nI (sHk (aScr A j) i) ∧ V' 58 (4 * (2 * j + 1) + i) = nI (sHv (aScr A j) i) := by
      intro q
      refine ⟨(v56 _ (fun z => q z.symm)).trans c6, fun i hi => ?_⟩
      rw [v57 _ (by omega), v58 _ (by omega)]
      exact c7 i hi
    show rScr V' j (updS (aScr A) s (if bh = true then addH (aScr A s) k w else addB (aScr A s) k w) j)
    by_cases z : j = s
    · subst z
      rw [show updS (aScr A) j (if bh = true then addH (aScr A j) k w else addB (aScr A j) k w) j = (if bh = true then addH (aScr A j) k w else addB (aScr A j) k w) from if_pos rfl]
      cases bh with
      | true =>
        have hn : n = sHn (aScr A j) := hn
        have hr : r = 2 * j + 1 := hr
        rw [if_pos rfl]
        refine ⟨keepK, keepN, keepB (by omega), ⟨?_, fun i hi => ?_⟩⟩
        · rw [← hr, a56, hn]; rfl
        · have hi : i < sHn (aScr A j) + 1 := hi
          show V' 57 (4 * (2 * j + 1) + i) = nI (updN (sHk (aScr A j)) (sHn (aScr A j)) k i) ∧ V' 58 (4 * (2 * j + 1) + i) = nI (updN (sHv (aScr A j)) (sHn (aScr A j)) w i)
          by_cases y : i = sHn (aScr A j)
          · rw [y, updN_self, updN_self, ← hr, ← hn, a57, a58]
            exact ⟨rfl, rfl⟩
          · rw [updN_ne _ _ y, updN_ne _ _ y, v57 _ (by omega), v58 _ (by omega)]
            exact c7 i (by omega)
      | false =>
        have hn : n = sBn (aScr A j) := hn
        have hr : r = 2 * j := hr
        rw [if_neg (by decide)]
        refine ⟨keepK, keepN, ⟨?_, fun i hi => ?_⟩, keepH (by omega)⟩
        · rw [← hr, a56, hn]; rfl
        · have hi : i < sBn (aScr A j) + 1 := hi
          show V' 57 (4 * (2 * j) + i) = nI (updN (sBk (aScr A j)) (sBn (aScr A j)) k i) ∧ V' 58 (4 * (2 * j) + i) = nI (updN (sBv (aScr A j)) (sBn (aScr A j)) w i)
          by_cases y : i = sBn (aScr A j)
          · rw [y, updN_self, updN_self, ← hr, ← hn, a57, a58]
            exact ⟨rfl, rfl⟩
          · rw [updN_ne _ _ y, updN_ne _ _ y, v57 _ (by omega), v58 _ (by omega)]
            exact c5 i (by omega)
    · rw [show updS (aScr A) s (if bh = true then addH (aScr A s) k w else addB (aScr A s) k w) j = aScr A j from if_neg z]
      exact ⟨keepK, keepN, keepB (by omega), keepH (by omega)⟩
  · have q1 : aS A ≤ j := q1
    rw [o 55 (by decide) (by decide) (by decide), v56 _ (by omega), v56 _ (by omega)]
    exact s3 j q1 q2
theorem inB_n (n : Nat) (hn : n < 1000) (x : Int32) (hi : Int32) (e : hi = nI n) : inB x 0 hi = (ixN (n + 1) x).isSome := by
  rw [e, show nI n = nI (n + 1) - 1 from (nI_pred n).symm]
  exact inB_ix (n := n + 1) (by omega) x
set_option maxRecDepth 100000 in
set_option maxHeartbeats 1000000 in
theorem c_X7_check : Ct yX7_check cX7_check 6 (some .int) (xrm 2 0 0) (fun ad h av Q => ∃ g A S ct V x bh kd v, h = wM g ad S ct V ∧ rM A S ct V ∧ aOK A ∧ av = [.ref (ad (50, 0)), .int x, .int (bI bh), .int kd, .int v] ∧ ∀ S' V', rM (checkF A x bh kd v).2 S' ct V' → Q (some (.int (checkF A x bh kd v).1)) ad (wM g ad S' ct V')) := by
  refine Ct.of (by decide) ?_
  intro p l e s m args below meth c0 G ad h av Q F hsp
  obtain ⟨g, A, S, ct, V, x, bh, kd, v, rfl, hR, hA, rfl, hQ⟩ := hsp
  have hnS := hA.2.2.1.1
  have r3 := hR.2.2.1
  have hR0 : rM A (upd S 0 0) ct V := hR
  refine ⟨x_ent rfl rfl, ?_⟩
  refine x_ls [(0, .ref (ad (50, 0))), (1, .int x), (2, .int (bI bh)), (3, .int kd), (4, .int v)] rfl ?_
  refine x_aload_n (q := 1) F dX7_check_0 rfl rfl (by first | exact xref_r | exact xref_n | exact xref_f _ | assumption) ?_
  refine x_iconst (q := 2) (v := 0) F dX7_check_1 rfl (by decide) ?_
  refine x_mput (q := 5) F dX7_check_2 rfl fs_X7_79 (by decide) rfl rfl rfl ?_
  refine x_aload_n (q := 6) F dX7_check_5 rfl rfl (by first | exact xref_r | exact xref_n | exact xref_f _ | assumption) ?_
  refine x_iload_n (q := 7) F dX7_check_6 rfl rfl ?_
  refine x_callV1 (q := 10) F (50, 0) c_X7_isScript dX7_check_7 rfl mv_X7_isScript ml_X7_128 ⟨⟨xle rfl, xle rfl⟩, xle rfl, xle rfl⟩ rfl (wM_o _ _ _ _ _) (xle rfl) ?_
  refine ⟨g, upd S 0 0, ct, V, aS A, x, rfl, rfl, r3.1, by omega, fun _ => ?_⟩
  unfold checkF at hQ
  cases hx : ixN (aS A) x with
  | none =>
    rw [hx] at hQ
    refine x_if_ne (q := 13) F 15 dX7_check_10 (by decide) rfl (fun c10 => ?_) (fun c10 => ?_)
    · exact absurd rfl c10
    · refine x_iconst (q := 14) (v := -1) F dX7_check_13 rfl (by decide) ?_
      refine x_iret F dX7_check_14 (xle rfl) (xle rfl) ?_
      exact hQ _ _ hR0
  | some sc =>
    rw [hx] at hQ
    obtain ⟨hs, rfl⟩ := ixN_some (by omega) hx
    refine x_if_ne (q := 13) F 15 dX7_check_10 (by decide) rfl (fun c10 => ?_) (fun c10 => ?_)
    · refine x_iload_n (q := 16) F dX7_check_15 rfl rfl ?_
      refine x_iconst (q := 17) (v := 0) F dX7_check_16 rfl (by decide) ?_
      refine x_iconst (q := 18) (v := 3) F dX7_check_17 rfl (by decide) ?_
      refine x_callS3 (q := 21) F c_X7_in dX7_check_18 rfl ms_X7_in ml_X7_85 ⟨⟨xle rfl, xle rfl⟩, xle rfl, xle rfl⟩ (xle rfl) ?_
      refine ⟨kd, 0, 3, rfl, fun _ => ?_⟩
      rw [inB_n 3 (by omega) kd 3 rfl]
      cases hk : ixN 4 kd with
      | none =>
        rw [hk] at hQ
        refine x_if_eq (q := 24) F 36 dX7_check_21 (by decide) rfl (fun c21 => ?_) (fun c21 => ?_)
        · refine x_bipush (q := 38) (v := -2) F dX7_check_36 rfl (by decide) ?_
          refine x_iret F dX7_check_38 (xle rfl) (xle rfl) ?_
          exact hQ _ _ hR0
        · exact absurd rfl c21
      | some k =>
        rw [hk] at hQ
        obtain ⟨hk4, rfl⟩ := ixN_some (by omega) hk
        refine x_if_eq (q := 24) F 36 dX7_check_21 (by decide) rfl (fun c21 => ?_) (fun c21 => ?_)
        · exact absurd (show (1 : Int32) = 0 from c21) (by decide)
        · refine x_iload (q := 26) F dX7_check_24 rfl rfl ?_
          refine x_iconst (q := 27) (v := 0) F dX7_check_26 rfl (by decide) ?_
          refine x_sipush (q := 30) (v := 255) F dX7_check_27 rfl (by decide) ?_
          refine x_callS3 (q := 33) F c_X7_in dX7_check_30 rfl ms_X7_in ml_X7_85 ⟨⟨xle rfl, xle rfl⟩, xle rfl, xle rfl⟩ (xle rfl) ?_
          refine ⟨v, 0, 255, rfl, fun _ => ?_⟩
          rw [inB_n 255 (by omega) v 255 rfl]
          cases hv : ixN 256 v with
          | none =>
            rw [hv] at hQ
            refine x_if_ne (q := 36) F 39 dX7_check_33 (by decide) rfl (fun c33 => ?_) (fun c33 => ?_)
            · exact absurd rfl c33
            · refine x_bipush (q := 38) (v := -2) F dX7_check_36 rfl (by decide) ?_
              refine x_iret F dX7_check_38 (xle rfl) (xle rfl) ?_
              exact hQ _ _ hR0
          | some w =>
            rw [hv] at hQ
            obtain ⟨hw, rfl⟩ := ixN_some (by omega) hv
            refine x_if_ne (q := 36) F 39 dX7_check_33 (by decide) rfl (fun c33 => ?_) (fun c33 => ?_)
            · obtain ⟨_, _, ⟨b1, _⟩, ⟨d1, _⟩⟩ := r3.2.1 sc hs
              have oS := hA.2.2.1.2 sc hs
              have b4 := oS.2.2.1
              have h4' := oS.2.2.2.2.1
              have tail : ∀ n, n ≤ 4 → (n = if bh = true then sHn (aScr A sc) else sBn (aScr A sc)) → V 56 (2 * sc + if bh = true then 1 else 0) = nI n → (n = 4 → Q (some (.int (-4))) ad (wM g ad (upd S 0 0) ct V)) → (n < 4 → ∀ S' V', rM (setSc A (aS A, updS (aScr A) sc (if bh = true then addH (aScr A sc) k w else addB (aScr A sc) k w))) S' ct V' → Q (some (.int (nI (n + 1)))) ad (wM g ad S' ct V')) → xX p l e (xrm 2 0 0) s m args below meth c0 G ad (wM g ad S ct V) 6 (xZ below G ad (wM g ad S ct V) Q args s (xrm 2 0 0)) 54 [(0, .ref (ad (50, 0))), (1, .int (nI sc)), (2, .int (bI bh)), (3, .int (nI k)), (4, .int (nI w)), (5, .int (nI (2 * sc + if bh = true then 1 else 0)))] [] ad (wM g ad (upd S 0 0) ct V) 0 0 := by
                intro n hn hnb e56 hq4 hq
                have hr20 : (2 * sc + if bh = true then 1 else 0) < 20 := by
                  cases bh with
                  | true => show 2 * sc + 1 < 20; omega
                  | false => show 2 * sc + 0 < 20; omega
                have hlem := rM_chk hR0 hA hs bh k w (n := n) hnb
                generalize (2 * sc + if bh = true then 1 else 0) = r at e56 hr20 hlem ⊢
                refine x_aload_n (q := 55) F dX7_check_54 rfl rfl (by first | exact xref_r | exact xref_n | exact xref_f _ | assumption) ?_
                refine x_mget (q := 58) F dX7_check_55 rfl fs_X7_30 rfl ?_
                refine x_iload (q := 60) F dX7_check_58 rfl rfl ?_
                refine x_mild (q := 61) F dX7_check_60 rfl rfl (by decide) (by decide) rfl hr20 ?_
                refine x_topi e56 ?_
                refine x_iconst (q := 62) (v := 4) F dX7_check_61 rfl (by decide) ?_
                refine x_icmp_ne (q := 65) F 68 dX7_check_62 (by decide) rfl (fun c62 => ?_) (fun c62 => ?_)
                · have hlt : n < 4 := by
                    rcases Nat.lt_or_ge n 4 with q | q
                    · exact q
                    · exact absurd (show nI n = 4 by rw [show n = 4 by omega]; rfl) c62
                  refine x_aload_n (q := 69) F dX7_check_68 rfl rfl (by first | exact xref_r | exact xref_n | exact xref_f _ | assumption) ?_
                  refine x_mget (q := 72) F dX7_check_69 rfl fs_X7_33 rfl ?_
                  refine x_iconst (q := 73) (v := 4) F dX7_check_72 rfl (by decide) ?_
                  refine x_iload (q := 75) F dX7_check_73 rfl rfl ?_
                  refine x_imul (q := 76) F dX7_check_75 rfl ?_
                  refine x_topi (pk_mul 4 r) ?_
                  refine x_aload_n (q := 77) F dX7_check_76 rfl rfl (by first | exact xref_r | exact xref_n | exact xref_f _ | assumption) ?_
                  refine x_mget (q := 80) F dX7_check_77 rfl fs_X7_30 rfl ?_
                  refine x_iload (q := 82) F dX7_check_80 rfl rfl ?_
                  refine x_mild (q := 83) F dX7_check_82 rfl rfl (by decide) (by decide) rfl hr20 ?_
                  refine x_topi e56 ?_
                  refine x_iadd (q := 84) F dX7_check_83 rfl ?_
                  refine x_topi (nI_add _ _) ?_
                  refine x_iload_n (q := 85) F dX7_check_84 rfl rfl ?_
                  refine x_mist (q := 86) F dX7_check_85 rfl rfl (by decide) (by decide) rfl (by omega) ?_
                  refine x_aload_n (q := 87) F dX7_check_86 rfl rfl (by first | exact xref_r | exact xref_n | exact xref_f _ | assumption) ?_
                  refine x_mget (q := 90) F dX7_check_87 rfl fs_X7_36 rfl ?_
                  refine x_iconst (q := 91) (v := 4) F dX7_check_90 rfl (by decide) ?_
                  refine x_iload (q := 93) F dX7_check_91 rfl rfl ?_
                  refine x_imul (q := 94) F dX7_check_93 rfl ?_
                  refine x_topi (pk_mul 4 r) ?_
                  refine x_aload_n (q := 95) F dX7_check_94 rfl rfl (by first | exact xref_r | exact xref_n | exact xref_f _ | assumption) ?_
                  refine x_mget (q := 98) F dX7_check_95 rfl fs_X7_30 rfl ?_
                  refine x_iload (q := 100) F dX7_check_98 rfl rfl ?_
                  refine x_mild (q := 101) F dX7_check_100 rfl rfl (by decide) (by decide) rfl hr20 ?_
                  refine x_topi (y := nI n) e56 ?_
                  refine x_iadd (q := 102) F dX7_check_101 rfl ?_
                  refine x_topi (nI_add _ _) ?_
                  refine x_iload (q := 104) F dX7_check_102 rfl rfl ?_
                  refine x_mist (q := 105) F dX7_check_104 rfl rfl (by decide) (by decide) rfl (by omega) ?_
                  refine x_aload_n (q := 106) F dX7_check_105 rfl rfl (by first | exact xref_r | exact xref_n | exact xref_f _ | assumption) ?_
                  refine x_mget (q := 109) F dX7_check_106 rfl fs_X7_30 rfl ?_
                  refine x_iload (q := 111) F dX7_check_109 rfl rfl ?_
                  refine x_dup2 (q := 112) F dX7_check_111 rfl rfl rfl ?_
                  refine x_mild (q := 113) F dX7_check_112 rfl rfl (by decide) (by decide) rfl hr20 ?_
                  refine x_topi (y := nI n) e56 ?_
                  refine x_iconst (q := 114) (v := 1) F dX7_check_113 rfl (by decide) ?_
                  refine x_iadd (q := 115) F dX7_check_114 rfl ?_
                  refine x_topi (nI_1 n) ?_
                  refine x_mist (q := 116) F dX7_check_115 rfl rfl (by decide) (by decide) rfl hr20 ?_
                  refine x_aload_n (q := 117) F dX7_check_116 rfl rfl (by first | exact xref_r | exact xref_n | exact xref_f _ | assumption) ?_
                  refine x_mget (q := 120) F dX7_check_117 rfl fs_X7_30 rfl ?_
                  refine x_iload (q := 122) F dX7_check_120 rfl rfl ?_
                  refine x_mild (q := 123) F dX7_check_122 rfl rfl (by decide) (by decide) rfl hr20 ?_
                  refine x_topi (y := nI (n + 1)) (upV_at _ 56 r _) ?_
                  refine x_iret F dX7_check_123 (xle rfl) (xle rfl) ?_
                  exact hq hlt _ _ (hlem hlt)
                · refine x_bipush (q := 67) (v := -4) F dX7_check_65 rfl (by decide) ?_
                  refine x_iret F dX7_check_67 (xle rfl) (xle rfl) ?_
                  exact hq4 ((nI_eq (a := n) (b := 4) (by omega) (by omega)).mp c62)
              refine x_iconst (q := 40) (v := 2) F dX7_check_39 rfl (by decide) ?_
              refine x_iload_n (q := 41) F dX7_check_40 rfl rfl ?_
              refine x_imul (q := 42) F dX7_check_41 rfl ?_
              refine x_topi (pk_mul 2 sc) ?_
              refine x_iload_n (q := 43) F dX7_check_42 rfl rfl ?_
              cases bh with
              | true =>
                replace hQ : ∀ S' V', rM (if sHn (aScr A sc) < 4 then (nI (sHn (aScr A sc) + 1), setSc A (aS A, updS (aScr A) sc (addH (aScr A sc) k w))) else (-4, A)).2 S' ct V' → Q (some (.int (if sHn (aScr A sc) < 4 then (nI (sHn (aScr A sc) + 1), setSc A (aS A, updS (aScr A) sc (addH (aScr A sc) k w))) else (-4, A)).1)) ad (wM g ad S' ct V') := hQ
                refine x_if_eq (q := 46) F 50 dX7_check_43 (by decide) rfl (fun c43 => ?_) (fun c43 => ?_)
                · exact absurd (show (1 : Int32) = 0 from c43) (by decide)
                · refine x_iconst (q := 47) (v := 1) F dX7_check_46 rfl (by decide) ?_
                  refine x_goto F 51 dX7_check_47 (by decide) ?_
                  refine x_iadd (q := 52) F dX7_check_51 rfl ?_
                  refine x_topi (nI_1 _) ?_
                  refine x_istore (q := 54) F dX7_check_52 rfl (by decide) ?_
                  refine x_ls [(0, .ref (ad (50, 0))), (1, .int (nI sc)), (2, .int (bI true)), (3, .int (nI k)), (4, .int (nI w)), (5, .int (nI (2 * sc + 1)))] rfl ?_
                  refine tail (sHn (aScr A sc)) h4' rfl d1 (fun z => ?_) (fun z => ?_)
                  · rw [if_neg (by omega)] at hQ
                    exact hQ _ _ hR0
                  · rw [if_pos z] at hQ
                    exact hQ
              | false =>
                replace hQ : ∀ S' V', rM (if sBn (aScr A sc) < 4 then (nI (sBn (aScr A sc) + 1), setSc A (aS A, updS (aScr A) sc (addB (aScr A sc) k w))) else (-4, A)).2 S' ct V' → Q (some (.int (if sBn (aScr A sc) < 4 then (nI (sBn (aScr A sc) + 1), setSc A (aS A, updS (aScr A) sc (addB (aScr A sc) k w))) else (-4, A)).1)) ad (wM g ad S' ct V') := hQ
                refine x_if_eq (q := 46) F 50 dX7_check_43 (by decide) rfl (fun c43 => ?_) (fun c43 => ?_)
                · refine x_iconst (q := 51) (v := 0) F dX7_check_50 rfl (by decide) ?_
                  refine x_iadd (q := 52) F dX7_check_51 rfl ?_
                  refine x_topi (y := nI (2 * sc + 0)) (nI_add _ 0) ?_
                  refine x_istore (q := 54) F dX7_check_52 rfl (by decide) ?_
                  refine x_ls [(0, .ref (ad (50, 0))), (1, .int (nI sc)), (2, .int (bI false)), (3, .int (nI k)), (4, .int (nI w)), (5, .int (nI (2 * sc + 0)))] rfl ?_
                  refine tail (sBn (aScr A sc)) b4 rfl b1 (fun z => ?_) (fun z => ?_)
                  · rw [if_neg (by omega)] at hQ
                    exact hQ _ _ hR0
                  · rw [if_pos z] at hQ
                    exact hQ
                · exact absurd rfl c43
            · exact absurd (show (1 : Int32) = 0 from c33) (by decide)
    · exact absurd (show (1 : Int32) = 0 from c10) (by decide)
