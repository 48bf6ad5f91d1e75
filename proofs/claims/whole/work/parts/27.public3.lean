/-! ===== goesOn, batch, undo, drop, about ===== -/
theorem pC_live1 {ad : xAd} {h : xH} {A : AS} (H : pC ad h A) : h (1, 0) ≠ none := by rw [H.1]; exact fun z => by cases z
theorem aOK.ml {A : AS} (h : aOK A) (v : Int32) : aOK (setMl A v) := h
set_option maxRecDepth 100000 in
set_option maxHeartbeats 4000000 in
theorem c_X6_goesOn : Ct yX6_goesOn cX6_goesOn 7 (some .int) (xrm 5 30 480) (fun ad h av Q => ∃ A x y, pC ad h A ∧ aOK A ∧ av = [.ref (ad (1, 0)), .int x, .int y] ∧ ∀ ad' h', pC ad' h' (goesOnF A x y).2 → fr40 h h' → Q (some (.int (goesOnF A x y).1)) ad' h') := by
  refine Ct.of (by decide) ?_
  intro p l e s m args below meth c0 G ad h av Q F hsp
  obtain ⟨A, x, y, hC, hA, rfl, hQ⟩ := hsp
  have hnS := hA.2.2.1.1
  refine ⟨x_ent rfl rfl, ?_⟩
  refine x_ls [(0, .ref (ad (1, 0))), (1, .int x), (2, .int y)] rfl ?_
  have bad : (liveN A x = none ∨ ixN (aS A) y = none) → xX p l e (xrm 5 30 480) s m args below meth c0 G ad h 7 (xZ below G ad h Q args s (xrm 5 30 480)) 16 [(0, .ref (ad (1, 0))), (1, .int x), (2, .int y)] [] ad h 0 0 := by
    intro hz
    have hF : goesOnF A x y = (-1, A) := by
      unfold goesOnF
      rcases hz with hz | hz
      · rw [hz]
      · rw [hz]; cases liveN A x <;> rfl
    rw [hF] at hQ
    refine x_iconst (q := 17) (v := -1) F dX6_goesOn_16 rfl (by decide) ?_
    refine x_iret F dX6_goesOn_17 (xle rfl) (xle rfl) ?_
    exact hQ ad h hC fr40.rf
  have fin : ∀ (A' : AS) (ad' : xAd) (h' : xH) (came : Nat) (vs : List (Nat × Value)) (k n : Nat), k ≤ 30 → n ≤ 480 → pC ad' h' A' → fr40 h h' → (∀ ad'' h'', pC ad'' h'' A' → fr40 h h'' → Q (some (.int (nI came))) ad'' h'') → vs.lookup 3 = some (.int (nI came)) → xX p l e (xrm 5 30 480) s m args below meth c0 G ad h 7 (xZ below G ad h Q args s (xrm 5 30 480)) 86 vs [] ad' h' k n := by
    intro A' ad' h' came vs k n hk hn hC' hfr hq hl
    refine x_widen hk hn ?_
    refine x_iload_n (q := 87) F dX6_goesOn_86 rfl hl ?_
    refine x_iret F dX6_goesOn_87 (xle rfl) (xle rfl) ?_
    exact hq ad' h' hC' hfr
  have loop : ∀ (f n came : Nat) (A' : AS) (i : Nat) (o : Option Nat) (ad' : xAd) (h' : xH), n + f = 10 → pC ad' h' A' → aOK A' → fr40 h h' → (o ≠ none → i < aI A' ∧ iGn (aItm A' i) = false) → (∀ v, o = some v → v < aS A') →
      (∀ ad'' h'', pC ad'' h'' (goesF f A' i o).2 → fr40 h h'' → Q (some (.int (nI (came + (goesF f A' i o).1)))) ad'' h'') →
      xX p l e (xrm 5 30 480) s m args below meth c0 G ad h 7 (xZ below G ad h Q args s (xrm 5 30 480)) 29 [(0, .ref (ad' (1, 0))), (3, .int (nI came)), (4, .int (nI i)), (5, .int (optI o)), (6, .int (nI n))] [] ad' h' (3 * n) (48 * n) := by
    intro f
    induction f with
    | zero =>
      intro n came A' i o ad' h' hn hC' hA' hfr hi ho hq
      refine x_iload (q := 31) F dX6_goesOn_29 rfl rfl ?_
      refine x_bipush (q := 33) (v := 10) F dX6_goesOn_31 rfl (by decide) ?_
      refine x_icmp_ge (q := 36) F 86 dX6_goesOn_33 (by decide) rfl (fun c33 => ?_) (fun c33 => ?_)
      · exact fin A' ad' h' came _ _ _ (by omega) (by omega) hC' hfr hq rfl
      · exact absurd ((nI_leI (a := 10) (b := n) (by omega) (by omega)).mpr (by omega)) c33
    | succ f ih =>
      intro n came A' i o ad' h' hn hC' hA' hfr hi ho hq
      refine x_iload (q := 31) F dX6_goesOn_29 rfl rfl ?_
      refine x_bipush (q := 33) (v := 10) F dX6_goesOn_31 rfl (by decide) ?_
      refine x_icmp_ge (q := 36) F 86 dX6_goesOn_33 (by decide) rfl (fun c33 => ?_) (fun c33 => ?_)
      · exact absurd ((nI_leI (a := 10) (b := n) (by omega) (by omega)).mp c33) (by omega)
      · refine x_iload (q := 38) F dX6_goesOn_36 rfl rfl ?_
        refine x_iconst (q := 39) (v := -1) F dX6_goesOn_38 rfl (by decide) ?_
        cases o with
        | none =>
          refine x_icmp_eq (q := 42) F 86 dX6_goesOn_39 (by decide) rfl (fun c39 => ?_) (fun c39 => ?_)
          · exact fin A' ad' h' came _ _ _ (by omega) (by omega) hC' hfr hq rfl
          · exact absurd rfl c39
        | some sc =>
          have hs := ho sc rfl
          have hS' := hA'.2.2.1.1
          obtain ⟨hi1, hi2⟩ := hi (fun z => by cases z)
          refine x_icmp_eq (q := 42) F 86 dX6_goesOn_39 (by decide) rfl (fun c39 => ?_) (fun c39 => ?_)
          · exact absurd c39 (nI_neg1 (by omega))
          · refine x_aload_n (q := 43) F dX6_goesOn_42 rfl rfl (by first | exact xref_r | exact xref_n | exact xref_f _ | assumption) ?_
            refine x_iload (q := 45) F dX6_goesOn_43 rfl rfl ?_
            refine x_iload (q := 47) F dX6_goesOn_45 rfl rfl ?_
            refine x_callV2 (q := 50) F (1, 0) c_X6_derive dX6_goesOn_47 rfl mv_X6_derive ml_X6_127 ⟨⟨xle rfl, xle rfl⟩, by show 3 * n + 3 ≤ 30; omega, by show 48 * n + 48 ≤ 480; omega⟩ rfl hC'.1 (xle rfl) ?_
            refine ⟨A', i, sc, hC', hA', hi1, hi2, hs, rfl, fun ad2 h2 hC2 hfr2 hE => ?_⟩
            have e1 : ad2 (1, 0) = ad' (1, 0) := (hE (1, 0) (pC_live1 hC')).2
            rw [← e1]
            refine x_widen (k2 := 3 * (n + 1)) (n2 := 48 * (n + 1)) (by show 3 * n + 3 ≤ _; omega) (by show 48 * n + 48 ≤ _; omega) ?_
            refine x_istore (q := 52) F dX6_goesOn_50 rfl (by decide) ?_
            refine x_aload_n (q := 53) F dX6_goesOn_52 rfl rfl (by first | exact xref_r | exact xref_n | exact xref_f _ | assumption) ?_
            refine x_iload (q := 55) F dX6_goesOn_53 rfl rfl ?_
            refine x_callS1 (q := 58) F c_X6_against dX6_goesOn_55 rfl ms_X6_against ml_X6_130 ⟨⟨xle rfl, xle rfl⟩, by show 3 * (n + 1) + 0 ≤ 30; omega, by show 48 * (n + 1) + 0 ≤ 480; omega⟩ (xle rfl) ?_
            refine ⟨_, rfl, fun _ => ?_⟩
            refine x_put (q := 61) F dX6_goesOn_58 rfl fs_X6_50 hC2.1 (xle rfl) rfl rfl ?_
            have hC3 : pC ad2 _ (setMl (deriveF A' i sc).2 (ag (deriveF A' i sc).1)) := hC2.ml (ag (deriveF A' i sc).1)
            have hfr3 : fr40 h _ := (hfr.tr hfr2).tr (fr40.up (h := h2) (k := 1) (i := 0) (e := cMain ad2 (setMl (deriveF A' i sc).2 (ag (deriveF A' i sc).1))) (by decide))
            refine x_h (h2 := xup h2 (1, 0) (cMain ad2 (setMl (deriveF A' i sc).2 (ag (deriveF A' i sc).1)))) rfl ?_
            generalize xup h2 (1, 0) (cMain ad2 (setMl (deriveF A' i sc).2 (ag (deriveF A' i sc).1))) = h3 at hC3 hfr3 ⊢
            refine x_iload (q := 63) F dX6_goesOn_61 rfl rfl ?_
            rcases deriveF_cases hA' hi1 hs with ⟨hneg, -, -, -⟩ | ⟨hlt, hres, hst, hok⟩
            · have hF : goesF (f + 1) A' i (some sc) = (0, setMl (deriveF A' i sc).2 (ag (deriveF A' i sc).1)) := by rw [goesF, if_pos hneg]
              rw [hF] at hq
              refine x_if_ge (q := 66) F 69 dX6_goesOn_63 (by decide) rfl (fun c63 => ?_) (fun c63 => ?_)
              · exact absurd hneg (Int32.not_lt.mpr c63)
              · refine x_goto F 86 dX6_goesOn_66 (by decide) ?_
                exact fin _ ad2 h3 came _ _ _ (by show 3 * (n + 1) + 0 ≤ 30; omega) (by show 48 * (n + 1) + 0 ≤ 480; omega) hC3 hfr3 hq rfl
            · have hnn : ¬ (deriveF A' i sc).1 < 0 := by rw [hres]; exact nI_pos (by omega)
              have hF : goesF (f + 1) A' i (some sc) = ((goesF f (setMl (deriveF A' i sc).2 (ag (deriveF A' i sc).1)) (aI A') (sNx (aScr A' sc))).1 + 1, (goesF f (setMl (deriveF A' i sc).2 (ag (deriveF A' i sc).1)) (aI A') (sNx (aScr A' sc))).2) := by rw [goesF, if_neg hnn]
              rw [hF] at hq
              have hsm := deriveF_same A' i sc
              refine x_if_ge (q := 66) F 69 dX6_goesOn_63 (by decide) rfl (fun c63 => ?_) (fun c63 => ?_)
              · refine x_iinc (q := 72) F dX6_goesOn_69 rfl rfl (nI_1 came) (by decide) ?_
                refine x_aload_n (q := 73) F dX6_goesOn_72 rfl rfl (by first | exact xref_r | exact xref_n | exact xref_f _ | assumption) ?_
                refine x_iload (q := 75) F dX6_goesOn_73 rfl rfl ?_
                refine x_callV1 (q := 78) F (1, 0) c_X6_nextOf dX6_goesOn_75 rfl mv_X6_nextOf ml_X6_141 ⟨⟨xle rfl, xle rfl⟩, by show 3 * (n + 1) + 0 + 0 ≤ 30; omega, by show 48 * (n + 1) + 0 + 0 ≤ 480; omega⟩ rfl hC3.1 (xle rfl) ?_
                have hs3 : sc < aS (setMl (deriveF A' i sc).2 (ag (deriveF A' i sc).1)) := by show sc < aS (deriveF A' i sc).2; rw [hsm.1]; exact hs
                refine ⟨_, _, hC3, hok, rfl, fun _ => ?_⟩
                rw [optI_some, nextN_nI (A := setMl (deriveF A' i sc).2 (ag (deriveF A' i sc).1)) hok hs3]
                rw [show aScr (setMl (deriveF A' i sc).2 (ag (deriveF A' i sc).1)) sc = aScr A' sc from congrFun hsm.2.1 sc]
                refine x_istore (q := 80) F dX6_goesOn_78 rfl (by decide) ?_
                refine x_iinc (q := 83) F dX6_goesOn_80 rfl rfl (nI_1 n) (by decide) ?_
                refine x_goto F 29 dX6_goesOn_83 (by decide) ?_
                rw [hres]
                refine x_ls [(0, .ref (ad2 (1, 0))), (3, .int (nI (came + 1))), (4, .int (nI (aI A'))), (5, .int (optI (sNx (aScr A' sc)))), (6, .int (nI (n + 1)))] rfl ?_
                refine ih (n + 1) (came + 1) _ (aI A') (sNx (aScr A' sc)) ad2 h3 (by omega) hC3 hok hfr3 (fun _ => ?_) (fun v hv => ?_) (fun ad4 h4 hC4 hfr4 => ?_)
                · show aI A' < aI (deriveF A' i sc).2 ∧ iGn (aItm (deriveF A' i sc).2 (aI A')) = false
                  rw [hst]
                  refine ⟨Nat.lt_succ_self _, ?_⟩
                  show iGn (updI (aItm A') (aI A') (newI A' i sc) (aI A')) = false
                  rw [show updI (aItm A') (aI A') (newI A' i sc) (aI A') = newI A' i sc from if_pos rfl]
                  rfl
                · show v < aS (deriveF A' i sc).2
                  rw [hsm.1]
                  exact (hA'.2.2.1.2 sc hs).2.2.2.2.2.2 v hv
                · have := hq ad4 h4 hC4 hfr4
                  rw [show came + 1 + (goesF f (setMl (deriveF A' i sc).2 (ag (deriveF A' i sc).1)) (aI A') (sNx (aScr A' sc))).1 = came + ((goesF f (setMl (deriveF A' i sc).2 (ag (deriveF A' i sc).1)) (aI A') (sNx (aScr A' sc))).1 + 1) by omega]
                  exact this
              · exact absurd (by rw [hres]; exact nI_pos' (by omega)) c63
  refine x_aload_n (q := 1) F dX6_goesOn_0 rfl rfl (by first | exact xref_r | exact xref_n | exact xref_f _ | assumption) ?_
  refine x_iload_n (q := 2) F dX6_goesOn_1 rfl rfl ?_
  refine x_callV1 (q := 5) F (1, 0) c_X6_liveItem dX6_goesOn_2 rfl mv_X6_liveItem ml_X6_123 ⟨⟨xle rfl, xle rfl⟩, xle rfl, xle rfl⟩ rfl hC.1 (xle rfl) ?_
  refine ⟨A, x, hC, hA, rfl, fun _ => ?_⟩
  cases hx : liveN A x with
  | none =>
    rw [liveV_none hx]
    refine x_ifnull (q := 8) F 16 dX6_goesOn_5 (by decide) rfl (by first | exact xref_r | exact xref_n | exact xref_f _ | assumption) (fun c5 => ?_) (fun a5 c5 => ?_)
    · exact bad (Or.inl hx)
    · cases c5
  | some i =>
    rw [liveV_some hx]
    obtain ⟨hi, rfl, hg⟩ := liveN_some hA hx
    refine x_ifnull (q := 8) F 16 dX6_goesOn_5 (by decide) rfl (by first | exact xref_r | exact xref_n | exact xref_f _ | assumption) (fun c5 => ?_) (fun a5 c5 => ?_)
    · cases c5
    · refine x_aload_n (q := 9) F dX6_goesOn_8 rfl rfl (by first | exact xref_r | exact xref_n | exact xref_f _ | assumption) ?_
      refine x_iload_n (q := 10) F dX6_goesOn_9 rfl rfl ?_
      refine x_callV1 (q := 13) F (1, 0) c_X6_scriptOf dX6_goesOn_10 rfl mv_X6_scriptOf ml_X6_108 ⟨⟨xle rfl, xle rfl⟩, xle rfl, xle rfl⟩ rfl hC.1 (xle rfl) ?_
      refine ⟨A, y, hC, hA, rfl, fun _ => ?_⟩
      cases hy : ixN (aS A) y with
      | none =>
        rw [scrV_none hy]
        refine x_ifnonnull (q := 16) F 18 dX6_goesOn_13 (by decide) rfl (by first | exact xref_r | exact xref_n | exact xref_f _ | assumption) (fun a13 c13 => ?_) (fun c13 => ?_)
        · cases c13
        · exact bad (Or.inr hy)
      | some sc =>
        rw [scrV_some hy]
        obtain ⟨hs, rfl⟩ := ixN_some (by omega) hy
        have hF : goesOnF A (nI i) (nI sc) = (nI (goesF 10 A i (some sc)).1, (goesF 10 A i (some sc)).2) := by unfold goesOnF; rw [hx, hy]
        rw [hF] at hQ
        refine x_ifnonnull (q := 16) F 18 dX6_goesOn_13 (by decide) rfl (by first | exact xref_r | exact xref_n | exact xref_f _ | assumption) (fun a13 c13 => ?_) (fun c13 => ?_)
        · refine x_iconst (q := 19) (v := 0) F dX6_goesOn_18 rfl (by decide) ?_
          refine x_istore_n (q := 20) F dX6_goesOn_19 rfl (by decide) ?_
          refine x_iload_n (q := 21) F dX6_goesOn_20 rfl rfl ?_
          refine x_istore (q := 23) F dX6_goesOn_21 rfl (by decide) ?_
          refine x_iload_n (q := 24) F dX6_goesOn_23 rfl rfl ?_
          refine x_istore (q := 26) F dX6_goesOn_24 rfl (by decide) ?_
          refine x_iconst (q := 27) (v := 0) F dX6_goesOn_26 rfl (by decide) ?_
          refine x_istore (q := 29) F dX6_goesOn_27 rfl (by decide) ?_
          refine x_ls [(0, .ref (ad (1, 0))), (3, .int (nI 0)), (4, .int (nI i)), (5, .int (optI (some sc))), (6, .int (nI 0))] rfl ?_
          exact loop 10 0 0 A i (some sc) ad h rfl hC hA fr40.rf (fun _ => ⟨hi, hg⟩) (fun v z => by cases z; exact hs) (fun ad2 h2 h3 h4 => by rw [Nat.zero_add]; exact hQ ad2 h2 h3 h4)
        · cases c13
theorem itmOK.gn {n i : Nat} {d : ItmD} (h : itmOK n i d) (hf : iFr d ≠ none) : itmOK n i (setGn d true) := ⟨h.1, h.2.1, h.2.2.1, h.2.2.2.1, h.2.2.2.2.1, h.2.2.2.2.2.1, fun z => absurd z hf⟩
theorem itmOK.bt {n i : Nat} {d : ItmD} (h : itmOK n i d) (o : Option Nat) (ho : ∀ x, o = some x → x < 1000) : itmOK n i (setBt d o) := ⟨h.1, h.2.1, h.2.2.1, h.2.2.2.1, h.2.2.2.2.1, ho, h.2.2.2.2.2.2⟩
set_option maxRecDepth 100000 in
set_option maxHeartbeats 2000000 in
theorem c_X6_drop : Ct yX6_drop cX6_drop 2 (some .int) (xrm 3 0 0) (fun ad h av Q => ∃ A x, pC ad h A ∧ aOK A ∧ av = [.ref (ad (1, 0)), .int x] ∧ ∀ ad' h', pC ad' h' (dropF A x).2 → fr40 h h' → Q (some (.int (dropF A x).1)) ad' h') := by
  refine Ct.of (by decide) ?_
  intro p l e s m args below meth c0 G ad h av Q F hsp
  obtain ⟨A, x, hC, hA, rfl, hQ⟩ := hsp
  have hnI := hA.2.2.2.1.1
  refine ⟨x_ent rfl rfl, ?_⟩
  refine x_ls [(0, .ref (ad (1, 0))), (1, .int x)] rfl ?_
  refine x_aload_n (q := 1) F dX6_drop_0 rfl rfl (by first | exact xref_r | exact xref_n | exact xref_f _ | assumption) ?_
  refine x_iload_n (q := 2) F dX6_drop_1 rfl rfl ?_
  refine x_callV1 (q := 5) F (1, 0) c_X6_liveItem dX6_drop_2 rfl mv_X6_liveItem ml_X6_123 ⟨⟨xle rfl, xle rfl⟩, xle rfl, xle rfl⟩ rfl hC.1 (xle rfl) ?_
  refine ⟨A, x, hC, hA, rfl, fun _ => ?_⟩
  cases hx : liveN A x with
  | none =>
    rw [liveV_none hx]
    have hF : dropF A x = (-1, A) := by unfold dropF; rw [hx]
    rw [hF] at hQ
    refine x_ifnonnull (q := 8) F 10 dX6_drop_5 (by decide) rfl (by first | exact xref_r | exact xref_n | exact xref_f _ | assumption) (fun a5 c5 => ?_) (fun c5 => ?_)
    · cases c5
    · refine x_iconst (q := 9) (v := -1) F dX6_drop_8 rfl (by decide) ?_
      refine x_iret F dX6_drop_9 (xle rfl) (xle rfl) ?_
      exact hQ ad h hC fr40.rf
  | some i =>
    rw [liveV_some hx]
    obtain ⟨hi, rfl, hg⟩ := liveN_some hA hx
    have hF : dropF A (nI i) = if iFr (aItm A i) = none ∨ hasDer A i = true then (-3, A) else (1, goneA A i) := by unfold dropF; rw [hx]
    rw [hF] at hQ
    have stt : (iFr (aItm A i) = none ∨ hasDer A i = true) → xX p l e (xrm 3 0 0) s m args below meth c0 G ad h 2 (xZ below G ad h Q args s (xrm 3 0 0)) 26 [(0, .ref (ad (1, 0))), (1, .int (nI i))] [] ad h 0 0 := by
      intro hz
      rw [if_pos hz] at hQ
      refine x_bipush (q := 28) (v := -3) F dX6_drop_26 rfl (by decide) ?_
      refine x_iret F dX6_drop_28 (xle rfl) (xle rfl) ?_
      exact hQ ad h hC fr40.rf
    refine x_ifnonnull (q := 8) F 10 dX6_drop_5 (by decide) rfl (by first | exact xref_r | exact xref_n | exact xref_f _ | assumption) (fun a5 c5 => ?_) (fun c5 => ?_)
    · refine x_aload_n (q := 11) F dX6_drop_10 rfl rfl (by first | exact xref_r | exact xref_n | exact xref_f _ | assumption) ?_
      refine x_iload_n (q := 12) F dX6_drop_11 rfl rfl ?_
      refine x_callV1 (q := 15) F (1, 0) c_X6_isOriginal dX6_drop_12 rfl mv_X6_isOriginal ml_X6_151 ⟨⟨xle rfl, xle rfl⟩, xle rfl, xle rfl⟩ rfl hC.1 (xle rfl) ?_
      refine ⟨A, nI i, hC, hA, rfl, fun _ => ?_⟩
      have hO : isOrig A (nI i) = decide (iFr (aItm A i) = none) := by unfold isOrig; rw [ixN_nI hi (by omega)]
      rw [hO]
      by_cases hf : iFr (aItm A i) = none
      · rw [decide_eq_true hf]
        refine x_if_ne (q := 18) F 26 dX6_drop_15 (by decide) rfl (fun c15 => ?_) (fun c15 => ?_)
        · exact stt (Or.inl hf)
        · exact absurd c15 (by decide)
      · rw [decide_eq_false hf]
        refine x_if_ne (q := 18) F 26 dX6_drop_15 (by decide) rfl (fun c15 => ?_) (fun c15 => ?_)
        · exact absurd rfl c15
        · refine x_aload_n (q := 19) F dX6_drop_18 rfl rfl (by first | exact xref_r | exact xref_n | exact xref_f _ | assumption) ?_
          refine x_iload_n (q := 20) F dX6_drop_19 rfl rfl ?_
          refine x_callV1 (q := 23) F (1, 0) c_X6_hasDerived dX6_drop_20 rfl mv_X6_hasDerived ml_X6_160 ⟨⟨xle rfl, xle rfl⟩, xle rfl, xle rfl⟩ rfl hC.1 (xle rfl) ?_
          refine ⟨A, i, hC, hA, rfl, by omega, fun _ => ?_⟩
          cases hd : hasDer A i with
          | true =>
            refine x_if_eq (q := 26) F 29 dX6_drop_23 (by decide) rfl (fun c23 => ?_) (fun c23 => ?_)
            · exact absurd c23 (by decide)
            · exact stt (Or.inr hd)
          | false =>
            rw [if_neg (fun z => by rcases z with z | z; exact hf z; rw [hd] at z; cases z)] at hQ
            refine x_if_eq (q := 26) F 29 dX6_drop_23 (by decide) rfl (fun c23 => ?_) (fun c23 => ?_)
            · refine x_aload_n (q := 30) F dX6_drop_29 rfl rfl (by first | exact xref_r | exact xref_n | exact xref_f _ | assumption) ?_
              refine x_iload_n (q := 31) F dX6_drop_30 rfl rfl ?_
              refine x_callV1 (q := 34) F (1, 0) c_X6_dismiss dX6_drop_31 rfl mv_X6_dismiss ml_X6_163 ⟨⟨xle rfl, xle rfl⟩, xle rfl, xle rfl⟩ rfl hC.1 (xle rfl) ?_
              refine ⟨A, i, hC, hA, hi, rfl, fun z => ?_, fun z h' hC' hfr _ => ?_⟩
              · rw [hg] at z; cases z
              · refine x_iret F dX6_drop_34 (xle rfl) (xle rfl) ?_
                exact hQ ad h' hC' hfr
            · exact absurd rfl c23
    · cases c5
set_option maxRecDepth 100000 in
theorem c_X6_about : Ct yX6_about cX6_about 4 (some .int) (xrm 1 0 0) (fun ad h av Q => ∃ A x y, pC ad h A ∧ aOK A ∧ av = [.ref (ad (1, 0)), .int x, .int y] ∧ Q (some (.int (aboutF A x y))) ad h) := by
  refine Ct.of (by decide) ?_
  intro p l e s m args below meth c0 G ad h av Q F hsp
  obtain ⟨A, x, y, hC, hA, rfl, hQ⟩ := hsp
  have hnI := hA.2.2.2.1.1
  refine ⟨x_ent rfl rfl, ?_⟩
  refine x_ls [(0, .ref (ad (1, 0))), (1, .int x), (2, .int y)] rfl ?_
  refine x_aload_n (q := 1) F dX6_about_0 rfl rfl (by first | exact xref_r | exact xref_n | exact xref_f _ | assumption) ?_
  refine x_iload_n (q := 2) F dX6_about_1 rfl rfl ?_
  refine x_callV1 (q := 5) F (1, 0) c_X6_itemOf dX6_about_2 rfl mv_X6_itemOf ml_X6_166 ⟨⟨xle rfl, xle rfl⟩, xle rfl, xle rfl⟩ rfl hC.1 (xle rfl) ?_
  refine ⟨A, x, hC, hA, rfl, fun _ => ?_⟩
  unfold aboutF at hQ
  cases hx : ixN (aI A) x with
  | none =>
    rw [itmV_none hx]
    rw [hx] at hQ
    refine x_astore_n (q := 6) F dX6_about_5 rfl (by decide) (by first | exact xref_r | exact xref_n | exact xref_f _ | assumption) ?_
    refine x_aload_n (q := 7) F dX6_about_6 rfl rfl (by first | exact xref_r | exact xref_n | exact xref_f _ | assumption) ?_
    refine x_ifnonnull (q := 10) F 12 dX6_about_7 (by decide) rfl (by first | exact xref_r | exact xref_n | exact xref_f _ | assumption) (fun a7 c7 => ?_) (fun c7 => ?_)
    · cases c7
    · refine x_iconst (q := 11) (v := -1) F dX6_about_10 rfl (by decide) ?_
      refine x_iret F dX6_about_11 (xle rfl) (xle rfl) ?_
      exact hQ
  | some i =>
    rw [itmV_some hx]
    rw [hx] at hQ
    obtain ⟨hi, rfl⟩ := ixN_some (by omega) hx
    obtain ⟨I1, I2, I3⟩ := hC.2.2.2.2.1.2.1 i hi
    have hQ : Q (some (.int (if y = 0 then nI (iN (aItm A i)) else if y = 1 then optI (iFr (aItm A i)) else if y = 2 then optI (iBy (aItm A i)) else if y = 3 then bI (iGn (aItm A i)) else if y = 4 then nI (iRt (aItm A i)) else -1))) ad h := hQ
    refine x_astore_n (q := 6) F dX6_about_5 rfl (by decide) (by first | exact xref_r | exact xref_n | exact xref_f _ | assumption) ?_
    refine x_aload_n (q := 7) F dX6_about_6 rfl rfl (by first | exact xref_r | exact xref_n | exact xref_f _ | assumption) ?_
    refine x_ifnonnull (q := 10) F 12 dX6_about_7 (by decide) rfl (by first | exact xref_r | exact xref_n | exact xref_f _ | assumption) (fun a7 c7 => ?_) (fun c7 => ?_)
    · refine x_iload_n (q := 13) F dX6_about_12 rfl rfl ?_
      rcases pk_ix y (n := 5) (by omega) with zy | zy | ⟨j, hj, rfl⟩
      · refine x_tableOut F 84 dX6_about_13 (Or.inl ?_) (by decide) ?_
        · have := Int32.lt_iff_toInt_lt.mp zy; simpa using this
        have hne : ∀ k : Nat, k < 5 → y ≠ nI k := fun k hk z => absurd zy (by rw [z]; exact nI_pos (by omega))
        rw [if_neg (show ¬ y = 0 from hne 0 (by omega)), if_neg (show ¬ y = 1 from hne 1 (by omega)), if_neg (show ¬ y = 2 from hne 2 (by omega)), if_neg (show ¬ y = 3 from hne 3 (by omega)), if_neg (show ¬ y = 4 from hne 4 (by omega))] at hQ
        refine x_iconst (q := 85) (v := -1) F dX6_about_84 rfl (by decide) ?_
        refine x_iret F dX6_about_85 (xle rfl) (xle rfl) ?_
        exact hQ
      · have h5 := Int32.le_iff_toInt_le.mp zy
        rw [nI_toInt (by omega)] at h5
        refine x_tableOut F 84 dX6_about_13 (Or.inr (by omega)) (by decide) ?_
        have hne : ∀ k : Nat, k < 5 → y ≠ nI k := fun k hk z => by rw [z, nI_toInt (by omega)] at h5; omega
        rw [if_neg (show ¬ y = 0 from hne 0 (by omega)), if_neg (show ¬ y = 1 from hne 1 (by omega)), if_neg (show ¬ y = 2 from hne 2 (by omega)), if_neg (show ¬ y = 3 from hne 3 (by omega)), if_neg (show ¬ y = 4 from hne 4 (by omega))] at hQ
        refine x_iconst (q := 85) (v := -1) F dX6_about_84 rfl (by decide) ?_
        refine x_iret F dX6_about_85 (xle rfl) (xle rfl) ?_
        exact hQ
      · rcases (show j = 0 ∨ j = 1 ∨ j = 2 ∨ j = 3 ∨ j = 4 by omega) with rfl | rfl | rfl | rfl | rfl
        · refine x_tableIn F 48 dX6_about_13 (by decide) (by decide) (off := 35) (by decide) (by decide) ?_
          refine x_aload_n (q := 49) F dX6_about_48 rfl rfl (by first | exact xref_r | exact xref_n | exact xref_f _ | assumption) ?_
          refine x_getN (q := 52) F dX6_about_49 rfl fn_X6_169 I1 rfl ?_
          refine x_getN (q := 55) F dX6_about_52 rfl fn_X6_172 I2 rfl ?_
          refine x_iret F dX6_about_55 (xle rfl) (xle rfl) ?_
          exact hQ
        · refine x_tableIn F 56 dX6_about_13 (by decide) (by decide) (off := 43) (by decide) (by decide) ?_
          refine x_aload_n (q := 57) F dX6_about_56 rfl rfl (by first | exact xref_r | exact xref_n | exact xref_f _ | assumption) ?_
          refine x_getN (q := 60) F dX6_about_57 rfl fn_X6_175 I1 rfl ?_
          refine x_iret F dX6_about_60 (xle rfl) (xle rfl) ?_
          exact hQ
        · refine x_tableIn F 61 dX6_about_13 (by decide) (by decide) (off := 48) (by decide) (by decide) ?_
          refine x_aload_n (q := 62) F dX6_about_61 rfl rfl (by first | exact xref_r | exact xref_n | exact xref_f _ | assumption) ?_
          refine x_getN (q := 65) F dX6_about_62 rfl fn_X6_178 I1 rfl ?_
          refine x_iret F dX6_about_65 (xle rfl) (xle rfl) ?_
          exact hQ
        · refine x_tableIn F 66 dX6_about_13 (by decide) (by decide) (off := 53) (by decide) (by decide) ?_
          refine x_aload_n (q := 67) F dX6_about_66 rfl rfl (by first | exact xref_r | exact xref_n | exact xref_f _ | assumption) ?_
          refine x_getN (q := 70) F dX6_about_67 rfl fn_X6_181 I1 rfl ?_
          have hQ : Q (some (.int (bI (iGn (aItm A i))))) ad h := hQ
          cases hg : iGn (aItm A i) with
          | true =>
            rw [hg] at hQ
            refine x_if_eq (q := 73) F 77 dX6_about_70 (by decide) rfl (fun c70 => ?_) (fun c70 => ?_)
            · exact absurd c70 (by decide)
            · refine x_iconst (q := 74) (v := 1) F dX6_about_73 rfl (by decide) ?_
              refine x_goto F 78 dX6_about_74 (by decide) ?_
              refine x_iret F dX6_about_78 (xle rfl) (xle rfl) ?_
              exact hQ
          | false =>
            rw [hg] at hQ
            refine x_if_eq (q := 73) F 77 dX6_about_70 (by decide) rfl (fun c70 => ?_) (fun c70 => ?_)
            · refine x_iconst (q := 78) (v := 0) F dX6_about_77 rfl (by decide) ?_
              refine x_iret F dX6_about_78 (xle rfl) (xle rfl) ?_
              exact hQ
            · exact absurd rfl c70
        · refine x_tableIn F 79 dX6_about_13 (by decide) (by decide) (off := 66) (by decide) (by decide) ?_
          refine x_aload_n (q := 80) F dX6_about_79 rfl rfl (by first | exact xref_r | exact xref_n | exact xref_f _ | assumption) ?_
          refine x_getN (q := 83) F dX6_about_80 rfl fn_X6_185 I1 rfl ?_
          refine x_iret F dX6_about_83 (xle rfl) (xle rfl) ?_
          exact hQ
    · cases c7
