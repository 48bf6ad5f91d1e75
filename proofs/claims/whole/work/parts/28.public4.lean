/-! ===== batch, undo ===== -/
theorem aOK.ob {A : AS} (h : aOK A) {v : Nat} (hv : v ≤ 600) : aOK (setOb A v) := by
  obtain ⟨h1, h2, h3, h4, h5, h6, h7, h8⟩ := h
  exact ⟨h1, h2, h3, h4, h5, h6, h7, hv, h8.2⟩
theorem joinA_ok {A : AS} (hA : aOK A) {n : Nat} (hn : n < aI A) : aOK (joinA A n) := by
  have hob := hA.2.2.2.2.2.2.2.1
  exact hA.item ((hA.2.2.2.1.2 n hn).bt _ (fun x z => by cases z; omega))
theorem batF_le (sc : Nat) : ∀ (f n : Nat) (A : AS), (batF sc f n A).1 ≤ f := by
  intro f
  induction f with
  | zero => intro n A; exact Nat.le_refl _
  | succ f ih =>
    intro n A
    unfold batF
    by_cases z : iFr (aItm A n) = none
    · rw [if_pos z]
      by_cases y : (deriveF A n sc).1 < 0
      · rw [if_pos y]; have := ih (n + 1) (deriveF A n sc).2; omega
      · rw [if_neg y]
        show (batF sc f (n + 1) (joinA (deriveF A n sc).2 (aI A))).1 + 1 ≤ f + 1
        have := ih (n + 1) (joinA (deriveF A n sc).2 (aI A)); omega
    · rw [if_neg z]; have := ih (n + 1) A; omega
set_option maxRecDepth 100000 in
set_option maxHeartbeats 4000000 in
theorem c_X6_batch : Ct yX6_batch cX6_batch 5 (some .int) (xrm 5 180 2880) (fun ad h av Q => ∃ A x, pC ad h A ∧ aOK A ∧ av = [.ref (ad (1, 0)), .int x] ∧ ∀ ad' h', pC ad' h' (batchF A x).2 → fr40 h h' → Q (some (.int (batchF A x).1)) ad' h') := by
  refine Ct.of (by decide) ?_
  intro p l e s m args below meth c0 G ad h av Q F hsp
  obtain ⟨A, x, hC, hA, rfl, hQ⟩ := hsp
  have hnS := hA.2.2.1.1
  have hnI := hA.2.2.2.1.1
  refine ⟨x_ent rfl rfl, ?_⟩
  refine x_ls [(0, .ref (ad (1, 0))), (1, .int x)] rfl ?_
  refine x_aload_n (q := 1) F dX6_batch_0 rfl rfl (by first | exact xref_r | exact xref_n | exact xref_f _ | assumption) ?_
  refine x_iload_n (q := 2) F dX6_batch_1 rfl rfl ?_
  refine x_callV1 (q := 5) F (1, 0) c_X6_scriptOf dX6_batch_2 rfl mv_X6_scriptOf ml_X6_108 ⟨⟨xle rfl, xle rfl⟩, xle rfl, xle rfl⟩ rfl hC.1 (xle rfl) ?_
  refine ⟨A, x, hC, hA, rfl, fun _ => ?_⟩
  cases hx : ixN (aS A) x with
  | none =>
    rw [scrV_none hx]
    have hF : batchF A x = (-1, A) := by unfold batchF; rw [hx]
    rw [hF] at hQ
    refine x_ifnonnull (q := 8) F 10 dX6_batch_5 (by decide) rfl (by first | exact xref_r | exact xref_n | exact xref_f _ | assumption) (fun a5 c5 => ?_) (fun c5 => ?_)
    · cases c5
    · refine x_iconst (q := 9) (v := -1) F dX6_batch_8 rfl (by decide) ?_
      refine x_iret F dX6_batch_9 (xle rfl) (xle rfl) ?_
      exact hQ ad h hC fr40.rf
  | some sc =>
    rw [scrV_some hx]
    obtain ⟨hs, rfl⟩ := ixN_some (by omega) hx
    have hF : batchF A (nI sc) = (nI (batF sc (aI A) 0 A).1, if 0 < (batF sc (aI A) 0 A).1 then setOb (batF sc (aI A) 0 A).2 (aOb (batF sc (aI A) 0 A).2 + 1) else (batF sc (aI A) 0 A).2) := by unfold batchF; rw [hx]
    rw [hF] at hQ
    have loop : ∀ (f n came : Nat) (A' : AS) (ad' : xAd) (h' : xH), n + f = aI A → came ≤ n → pC ad' h' A' → aOK A' → fr40 h h' → aI A ≤ aI A' → aS A' = aS A →
        (∀ ad'' h'', pC ad'' h'' (if 0 < came + (batF sc f n A').1 then setOb (batF sc f n A').2 (aOb (batF sc f n A').2 + 1) else (batF sc f n A').2) → fr40 h h'' → Q (some (.int (nI (came + (batF sc f n A').1)))) ad'' h'') →
        xX p l e (xrm 5 180 2880) s m args below meth c0 G ad h 5 (xZ below G ad h Q args s (xrm 5 180 2880)) 20 [(0, .ref (ad' (1, 0))), (1, .int (nI sc)), (2, .int (nI came)), (3, .int (nI (aI A))), (4, .int (nI n))] [] ad' h' (3 * n) (48 * n) := by
      intro f
      induction f with
      | zero =>
        intro n came A' ad' h' hn hcm hC' hA' hfr hle hsS hq
        refine x_iload (q := 22) F dX6_batch_20 rfl rfl ?_
        refine x_iload_n (q := 23) F dX6_batch_22 rfl rfl ?_
        refine x_icmp_ge (q := 26) F 58 dX6_batch_23 (by decide) rfl (fun c23 => ?_) (fun c23 => ?_)
        · have hq : ∀ ad'' h'', pC ad'' h'' (if 0 < came then setOb A' (aOb A' + 1) else A') → fr40 h h'' → Q (some (.int (nI came))) ad'' h'' := hq
          refine x_widen (k2 := 180) (n2 := 2880) (by omega) (by omega) ?_
          refine x_iload_n (q := 59) F dX6_batch_58 rfl rfl ?_
          by_cases z : came = 0
          · subst z
            rw [if_neg (by omega)] at hq
            refine x_if_le (q := 62) F 72 dX6_batch_59 (by decide) rfl (fun c59 => ?_) (fun c59 => ?_)
            · refine x_iload_n (q := 73) F dX6_batch_72 rfl rfl ?_
              refine x_iret F dX6_batch_73 (xle rfl) (xle rfl) ?_
              exact hq ad' h' hC' hfr
            · exact absurd (by decide) c59
          · rw [if_pos (by omega)] at hq
            refine x_if_le (q := 62) F 72 dX6_batch_59 (by decide) rfl (fun c59 => ?_) (fun c59 => ?_)
            · exact absurd ((nI_leI (a := came) (b := 0) (by omega) (by omega)).mp c59) (by omega)
            · refine x_aload_n (q := 63) F dX6_batch_62 rfl rfl (by first | exact xref_r | exact xref_n | exact xref_f _ | assumption) ?_
              refine x_dup (q := 64) F dX6_batch_63 rfl rfl ?_
              refine x_get (q := 67) F dX6_batch_64 rfl fs_X6_44 hC'.1 rfl ?_
              refine x_iconst (q := 68) (v := 1) F dX6_batch_67 rfl (by decide) ?_
              refine x_iadd (q := 69) F dX6_batch_68 rfl ?_
              refine x_topi (nI_1 _) ?_
              refine x_put (q := 72) F dX6_batch_69 rfl fs_X6_44 hC'.1 (xle rfl) rfl rfl ?_
              refine x_iload_n (q := 73) F dX6_batch_72 rfl rfl ?_
              refine x_iret F dX6_batch_73 (xle rfl) (xle rfl) ?_
              exact hq ad' _ (hC'.main (B := setOb A' (aOb A' + 1)) ⟨rfl, rfl, rfl, rfl, rfl, rfl, rfl⟩) (hfr.tr (fr40.up (by decide)))
        · exact absurd ((nI_leI (by omega) (by omega)).mpr (by omega)) c23
      | succ f ih =>
        intro n came A' ad' h' hn hcm hC' hA' hfr hle hsS hq
        have hnI' := hA'.2.2.2.1.1
        have hnA : n < aI A' := by omega
        refine x_iload (q := 22) F dX6_batch_20 rfl rfl ?_
        refine x_iload_n (q := 23) F dX6_batch_22 rfl rfl ?_
        refine x_icmp_ge (q := 26) F 58 dX6_batch_23 (by decide) rfl (fun c23 => ?_) (fun c23 => ?_)
        · exact absurd ((nI_leI (by omega) (by omega)).mp c23) (by omega)
        · refine x_aload_n (q := 27) F dX6_batch_26 rfl rfl (by first | exact xref_r | exact xref_n | exact xref_f _ | assumption) ?_
          refine x_iload (q := 29) F dX6_batch_27 rfl rfl ?_
          refine x_callV1 (q := 32) F (1, 0) c_X6_isOriginal dX6_batch_29 rfl mv_X6_isOriginal ml_X6_151 ⟨⟨xle rfl, xle rfl⟩, by show 3 * n + 0 ≤ 180; omega, by show 48 * n + 0 ≤ 2880; omega⟩ rfl hC'.1 (xle rfl) ?_
          refine ⟨A', nI n, hC', hA', rfl, fun _ => ?_⟩
          rw [show isOrig A' (nI n) = decide (iFr (aItm A' n) = none) by unfold isOrig; rw [ixN_nI hnA (by omega)]]
          have next : ∀ (came' : Nat) (B : AS) (ad2 : xAd) (h2 : xH), came' ≤ n + 1 → pC ad2 h2 B → aOK B → fr40 h h2 → aI A ≤ aI B → aS B = aS A →
              (∀ ad'' h'', pC ad'' h'' (if 0 < came' + (batF sc f (n + 1) B).1 then setOb (batF sc f (n + 1) B).2 (aOb (batF sc f (n + 1) B).2 + 1) else (batF sc f (n + 1) B).2) → fr40 h h'' → Q (some (.int (nI (came' + (batF sc f (n + 1) B).1)))) ad'' h'') →
              xX p l e (xrm 5 180 2880) s m args below meth c0 G ad h 5 (xZ below G ad h Q args s (xrm 5 180 2880)) 52 [(0, .ref (ad2 (1, 0))), (1, .int (nI sc)), (2, .int (nI came')), (3, .int (nI (aI A))), (4, .int (nI n))] [] ad2 h2 (3 * (n + 1)) (48 * (n + 1)) := by
            intro came' B ad2 h2 k1 k2 k3 k4 k5 k6 k7
            refine x_iinc (q := 55) F dX6_batch_52 rfl rfl (nI_1 n) (by decide) ?_
            refine x_goto F 20 dX6_batch_55 (by decide) ?_
            refine x_ls [(0, .ref (ad2 (1, 0))), (1, .int (nI sc)), (2, .int (nI came')), (3, .int (nI (aI A))), (4, .int (nI (n + 1)))] rfl ?_
            exact ih (n + 1) came' B ad2 h2 (by omega) k1 k2 k3 k4 k5 k6 k7
          by_cases hf : iFr (aItm A' n) = none
          · rw [decide_eq_true hf]
            refine x_if_eq (q := 35) F 52 dX6_batch_32 (by decide) rfl (fun c32 => ?_) (fun c32 => ?_)
            · exact absurd c32 (by decide)
            · refine x_aload_n (q := 36) F dX6_batch_35 rfl rfl (by first | exact xref_r | exact xref_n | exact xref_f _ | assumption) ?_
              refine x_aload_n (q := 37) F dX6_batch_36 rfl rfl (by first | exact xref_r | exact xref_n | exact xref_f _ | assumption) ?_
              refine x_iload (q := 39) F dX6_batch_37 rfl rfl ?_
              refine x_iload_n (q := 40) F dX6_batch_39 rfl rfl ?_
              refine x_callV2 (q := 43) F (1, 0) c_X6_derive dX6_batch_40 rfl mv_X6_derive ml_X6_127 ⟨⟨xle rfl, xle rfl⟩, by show 3 * n + 0 + 3 ≤ 180; omega, by show 48 * n + 0 + 48 ≤ 2880; omega⟩ rfl hC'.1 (xle rfl) ?_
              refine ⟨A', n, sc, hC', hA', hnA, (hA'.2.2.2.1.2 n hnA).2.2.2.2.2.2 hf, by omega, rfl, fun ad2 h2 hC2 hfr2 hE => ?_⟩
              have e1 : ad2 (1, 0) = ad' (1, 0) := (hE (1, 0) (pC_live1 hC')).2
              rw [← e1]
              refine x_widen (k2 := 3 * (n + 1)) (n2 := 48 * (n + 1)) (by show 3 * n + 0 + 3 ≤ _; omega) (by show 48 * n + 0 + 48 ≤ _; omega) ?_
              refine x_callV1 (q := 46) F (1, 0) c_X6_joinBatch dX6_batch_43 rfl mv_X6_joinBatch ml_X6_154 ⟨⟨xle rfl, xle rfl⟩, by show 3 * (n + 1) + 0 ≤ 180; omega, by show 48 * (n + 1) + 0 ≤ 2880; omega⟩ rfl hC2.1 (xle rfl) ?_
              have hsm := deriveF_same A' n sc
              rcases deriveF_cases hA' hnA (show sc < aS A' by omega) with ⟨hneg, hok, hI, hIt⟩ | ⟨hlt, hres, hst, hok⟩
              · have hB : batF sc (f + 1) n A' = batF sc f (n + 1) (deriveF A' n sc).2 := by rw [batF, if_pos hf, if_pos hneg]
                rw [hB] at hq
                refine ⟨_, _, hC2, hok, rfl, fun _ _ => ?_, fun i hi => ?_⟩
                · refine x_if_eq (q := 49) F 52 dX6_batch_46 (by decide) rfl (fun c46 => ?_) (fun c46 => ?_)
                  · refine x_ls [(0, .ref (ad2 (1, 0))), (1, .int (nI sc)), (2, .int (nI came)), (3, .int (nI (aI A))), (4, .int (nI n))] rfl ?_
                    exact next came _ ad2 h2 (by omega) hC2 hok (hfr.tr hfr2) (by omega) (hsm.1.trans hsS) hq
                  · exact absurd rfl c46
                · rw [ixN_neg hneg] at hi; cases hi
              · have hnn : ¬ (deriveF A' n sc).1 < 0 := by rw [hres]; exact nI_pos (by omega)
                have hB : batF sc (f + 1) n A' = ((batF sc f (n + 1) (joinA (deriveF A' n sc).2 (aI A'))).1 + 1, (batF sc f (n + 1) (joinA (deriveF A' n sc).2 (aI A'))).2) := by rw [batF, if_pos hf, if_neg hnn]
                rw [hB] at hq
                have hI2 : aI (deriveF A' n sc).2 = aI A' + 1 := by rw [hst]; rfl
                refine ⟨_, _, hC2, hok, rfl, fun z _ => ?_, fun i hi h3 hC3 hfr3 _ => ?_⟩
                · rw [hres, hI2, ixN_nI (by omega) (by omega)] at z; cases z
                · rw [hres, hI2, ixN_nI (by omega) (by omega)] at hi
                  cases hi
                  refine x_if_eq (q := 49) F 52 dX6_batch_46 (by decide) rfl (fun c46 => ?_) (fun c46 => ?_)
                  · exact absurd c46 (by decide)
                  · refine x_iinc (q := 52) F dX6_batch_49 rfl rfl (nI_1 came) (by decide) ?_
                    refine x_ls [(0, .ref (ad2 (1, 0))), (1, .int (nI sc)), (2, .int (nI (came + 1))), (3, .int (nI (aI A))), (4, .int (nI n))] rfl ?_
                    refine next (came + 1) (joinA (deriveF A' n sc).2 (aI A')) ad2 h3 (by omega) hC3 (joinA_ok hok (by omega)) ((hfr.tr hfr2).tr hfr3) (by show aI A ≤ aI (deriveF A' n sc).2; omega) (hsm.1.trans hsS) (fun ad4 h4 k1 k2 => ?_)
                    have e9 : came + 1 + (batF sc f (n + 1) (joinA (deriveF A' n sc).2 (aI A'))).1 = came + ((batF sc f (n + 1) (joinA (deriveF A' n sc).2 (aI A'))).1 + 1) := by omega
                    rw [e9] at k1 ⊢
                    exact hq ad4 h4 k1 k2
          · rw [decide_eq_false hf]
            have hB : batF sc (f + 1) n A' = batF sc f (n + 1) A' := by rw [batF, if_neg hf]
            rw [hB] at hq
            refine x_if_eq (q := 35) F 52 dX6_batch_32 (by decide) rfl (fun c32 => ?_) (fun c32 => ?_)
            · refine x_widen (k2 := 3 * (n + 1)) (n2 := 48 * (n + 1)) (by show 3 * n + 0 ≤ _; omega) (by show 48 * n + 0 ≤ _; omega) ?_
              exact next came A' ad' h' (by omega) hC' hA' hfr hle hsS hq
            · exact absurd rfl c32
    refine x_ifnonnull (q := 8) F 10 dX6_batch_5 (by decide) rfl (by first | exact xref_r | exact xref_n | exact xref_f _ | assumption) (fun a5 c5 => ?_) (fun c5 => ?_)
    · refine x_iconst (q := 11) (v := 0) F dX6_batch_10 rfl (by decide) ?_
      refine x_istore_n (q := 12) F dX6_batch_11 rfl (by decide) ?_
      refine x_aload_n (q := 13) F dX6_batch_12 rfl rfl (by first | exact xref_r | exact xref_n | exact xref_f _ | assumption) ?_
      refine x_get (q := 16) F dX6_batch_13 rfl fs_X6_41 hC.1 rfl ?_
      refine x_istore_n (q := 17) F dX6_batch_16 rfl (by decide) ?_
      refine x_iconst (q := 18) (v := 0) F dX6_batch_17 rfl (by decide) ?_
      refine x_istore (q := 20) F dX6_batch_18 rfl (by decide) ?_
      refine x_ls [(0, .ref (ad (1, 0))), (1, .int (nI sc)), (2, .int (nI 0)), (3, .int (nI (aI A))), (4, .int (nI 0))] rfl ?_
      exact loop (aI A) 0 0 A ad h (by omega) (by omega) hC hA fr40.rf (Nat.le_refl _) rfl (fun ad2 h2 k1 k2 => by rw [Nat.zero_add] at k1 ⊢; exact hQ ad2 h2 k1 k2)
    · cases c5
theorem leftA_ok {A : AS} (hA : aOK A) {n : Nat} (hn : n < aI A) : aOK (leftA A n) := hA.item ((hA.2.2.2.1.2 n hn).bt _ (fun x z => by cases z))
theorem undF_le : ∀ (n : Nat) (A : AS), (undF n A).1 ≤ n := by
  intro n
  induction n with
  | zero => intro A; exact Nat.le_refl _
  | succ n ih =>
    intro A
    unfold undF
    by_cases z : iBt (aItm A n) = some (aOb A)
    · rw [if_pos z]
      by_cases y : hasDer (leftA A n) n = true ∨ iGn (aItm (leftA A n) n) = true
      · rw [if_pos y]; have := ih (leftA A n); omega
      · rw [if_neg y]
        show (undF n (goneA (leftA A n) n)).1 + 1 ≤ n + 1
        have := ih (goneA (leftA A n) n); omega
    · rw [if_neg z]; have := ih A; omega
/-- an item of a batch is derived -/
def btFr (A : AS) : Prop := ∀ i, i < aI A → iBt (aItm A i) ≠ none → iFr (aItm A i) ≠ none
theorem btFr.upd {A : AS} (h : btFr A) {n : Nat} {d : ItmD} (hd : iBt d ≠ none → iFr d ≠ none) : btFr (setIt A (aI A, updI (aItm A) n d)) := by
  intro i hi
  have hi : i < aI A := hi
  show iBt (updI (aItm A) n d i) ≠ none → iFr (updI (aItm A) n d i) ≠ none
  by_cases z : i = n
  · rw [show updI (aItm A) n d i = d from if_pos z]; exact hd
  · rw [show updI (aItm A) n d i = aItm A i from if_neg z]; exact h i hi
set_option maxRecDepth 100000 in
set_option maxHeartbeats 4000000 in
theorem c_X6_undo : Ct yX6_undo cX6_undo 3 (some .int) (xrm 3 0 0) (fun ad h av Q => ∃ A, pC ad h A ∧ aOK A ∧ btFr A ∧ av = [.ref (ad (1, 0))] ∧ ∀ ad' h', pC ad' h' (undoF A).2 → fr40 h h' → Q (some (.int (undoF A).1)) ad' h') := by
  refine Ct.of (by decide) ?_
  intro p l e s m args below meth c0 G ad h av Q F hsp
  obtain ⟨A, hC, hA, hbf, rfl, hQ⟩ := hsp
  have hnI := hA.2.2.2.1.1
  have hob := hA.2.2.2.2.2.2.2.1
  refine ⟨x_ent rfl rfl, ?_⟩
  refine x_ls [(0, .ref (ad (1, 0)))] rfl ?_
  refine x_aload_n (q := 1) F dX6_undo_0 rfl rfl (by first | exact xref_r | exact xref_n | exact xref_f _ | assumption) ?_
  refine x_get (q := 4) F dX6_undo_1 rfl fs_X6_44 hC.1 rfl ?_
  by_cases hz : aOb A = 0
  · have hF : undoF A = (-1, A) := if_pos hz
    rw [hF] at hQ
    refine x_if_ne (q := 7) F 9 dX6_undo_4 (by decide) rfl (fun c4 => ?_) (fun c4 => ?_)
    · exact absurd (by rw [hz]; rfl) c4
    · refine x_iconst (q := 8) (v := -1) F dX6_undo_7 rfl (by decide) ?_
      refine x_iret F dX6_undo_8 (xle rfl) (xle rfl) ?_
      exact hQ ad h hC fr40.rf
  · have hF : undoF A = (nI (undF (aI A) (setOb A (aOb A - 1))).1, (undF (aI A) (setOb A (aOb A - 1))).2) := if_neg hz
    rw [hF] at hQ
    have loop : ∀ (n went : Nat) (A' : AS) (h' : xH), n ≤ aI A' → went + n ≤ 60 → pC ad h' A' → aOK A' → btFr A' → fr40 h h' →
        (∀ ad'' h'', pC ad'' h'' (undF n A').2 → fr40 h h'' → Q (some (.int (nI (went + (undF n A').1)))) ad'' h'') →
        xX p l e (xrm 3 0 0) s m args below meth c0 G ad h 3 (xZ below G ad h Q args s (xrm 3 0 0)) 28 [(0, .ref (ad (1, 0))), (1, .int (nI went)), (2, .int (nI n - 1))] [] ad h' 0 0 := by
      intro n
      induction n with
      | zero =>
        intro went A' h' hn hw hC' hA' hb' hfr hq
        refine x_iload_n (q := 29) F dX6_undo_28 rfl rfl ?_
        refine x_if_lt (q := 32) F 62 dX6_undo_29 (by decide) rfl (fun c29 => ?_) (fun c29 => ?_)
        · refine x_iload_n (q := 63) F dX6_undo_62 rfl rfl ?_
          refine x_iret F dX6_undo_63 (xle rfl) (xle rfl) ?_
          exact hq ad h' hC' hfr
        · exact absurd (by decide) c29
      | succ n ih =>
        intro went A' h' hn hw hC' hA' hb' hfr hq
        have hnI' := hA'.2.2.2.1.1
        have next : ∀ (w' : Nat) (B : AS) (h2 : xH), n ≤ aI B → w' + n ≤ 60 → pC ad h2 B → aOK B → btFr B → fr40 h h2 → (∀ ad'' h'', pC ad'' h'' (undF n B).2 → fr40 h h'' → Q (some (.int (nI (w' + (undF n B).1)))) ad'' h'') → xX p l e (xrm 3 0 0) s m args below meth c0 G ad h 3 (xZ below G ad h Q args s (xrm 3 0 0)) 56 [(0, .ref (ad (1, 0))), (1, .int (nI w')), (2, .int (nI n))] [] ad h2 0 0 := by
          intro w' B h2 k1 k2 k3 k4 k5 k6 k7
          refine x_iinc (q := 59) F dX6_undo_56 rfl rfl (show nI n + Int32.ofInt (-1) = nI n - 1 by rw [Int32.sub_eq_add_neg]; rfl) (by decide) ?_
          refine x_goto F 28 dX6_undo_59 (by decide) ?_
          refine x_ls [(0, .ref (ad (1, 0))), (1, .int (nI w')), (2, .int (nI n - 1))] rfl ?_
          exact ih w' B h2 k1 k2 k3 k4 k5 k6 k7
        rw [nI_pred]
        refine x_iload_n (q := 29) F dX6_undo_28 rfl rfl ?_
        refine x_if_lt (q := 32) F 62 dX6_undo_29 (by decide) rfl (fun c29 => ?_) (fun c29 => ?_)
        · exact absurd c29 (nI_pos (by omega))
        · refine x_aload_n (q := 33) F dX6_undo_32 rfl rfl (by first | exact xref_r | exact xref_n | exact xref_f _ | assumption) ?_
          refine x_iload_n (q := 34) F dX6_undo_33 rfl rfl ?_
          refine x_callV1 (q := 37) F (1, 0) c_X6_leaveBatch dX6_undo_34 rfl mv_X6_leaveBatch ml_X6_157 ⟨⟨xle rfl, xle rfl⟩, xle rfl, xle rfl⟩ rfl hC'.1 (xle rfl) ?_
          refine ⟨A', n, hC', hA', by omega, rfl, fun z _ => ?_, fun z h2 hC2 hfr2 _ => ?_⟩
          · have hU : undF (n + 1) A' = undF n A' := by rw [undF, if_neg z]
            rw [hU] at hq
            refine x_if_eq (q := 40) F 56 dX6_undo_37 (by decide) rfl (fun c37 => ?_) (fun c37 => ?_)
            · exact next went A' h' (by omega) (by omega) hC' hA' hb' hfr hq
            · exact absurd rfl c37
          · have hU : undF (n + 1) A' = if hasDer (leftA A' n) n = true ∨ iGn (aItm (leftA A' n) n) = true then undF n (leftA A' n) else ((undF n (goneA (leftA A' n) n)).1 + 1, (undF n (goneA (leftA A' n) n)).2) := by rw [undF, if_pos z]
            rw [hU] at hq
            have hok := leftA_ok hA' (show n < aI A' by omega)
            have hb2 : btFr (leftA A' n) := hb'.upd (fun w => absurd rfl w)
            have hfr' : iFr (aItm (leftA A' n) n) ≠ none := by
              show iFr (updI (aItm A') n (setBt (aItm A' n) none) n) ≠ none
              rw [show updI (aItm A') n (setBt (aItm A' n) none) n = setBt (aItm A' n) none from if_pos rfl]
              exact hb' n (by omega) (by rw [z]; exact fun w => by cases w)
            refine x_if_eq (q := 40) F 56 dX6_undo_37 (by decide) rfl (fun c37 => ?_) (fun c37 => ?_)
            · exact absurd c37 (by decide)
            · refine x_aload_n (q := 41) F dX6_undo_40 rfl rfl (by first | exact xref_r | exact xref_n | exact xref_f _ | assumption) ?_
              refine x_iload_n (q := 42) F dX6_undo_41 rfl rfl ?_
              refine x_callV1 (q := 45) F (1, 0) c_X6_hasDerived dX6_undo_42 rfl mv_X6_hasDerived ml_X6_160 ⟨⟨xle rfl, xle rfl⟩, xle rfl, xle rfl⟩ rfl hC2.1 (xle rfl) ?_
              refine ⟨leftA A' n, n, hC2, hok, rfl, by omega, fun _ => ?_⟩
              cases hd : hasDer (leftA A' n) n with
              | true =>
                rw [if_pos (Or.inl hd)] at hq
                refine x_if_ne (q := 48) F 56 dX6_undo_45 (by decide) rfl (fun c45 => ?_) (fun c45 => ?_)
                · exact next went (leftA A' n) h2 (by show n ≤ aI A'; omega) (by omega) hC2 hok hb2 (hfr.tr hfr2) hq
                · exact absurd c45 (by decide)
              | false =>
                refine x_if_ne (q := 48) F 56 dX6_undo_45 (by decide) rfl (fun c45 => ?_) (fun c45 => ?_)
                · exact absurd rfl c45
                · refine x_iload_n (q := 49) F dX6_undo_48 rfl rfl ?_
                  refine x_aload_n (q := 50) F dX6_undo_49 rfl rfl (by first | exact xref_r | exact xref_n | exact xref_f _ | assumption) ?_
                  refine x_iload_n (q := 51) F dX6_undo_50 rfl rfl ?_
                  refine x_callV1 (q := 54) F (1, 0) c_X6_dismiss dX6_undo_51 rfl mv_X6_dismiss ml_X6_163 ⟨⟨xle rfl, xle rfl⟩, xle rfl, xle rfl⟩ rfl hC2.1 (xle rfl) ?_
                  refine ⟨leftA A' n, n, hC2, hok, by show n < aI A'; omega, rfl, fun w _ => ?_, fun w h3 hC3 hfr3 _ => ?_⟩
                  · rw [if_pos (Or.inr w)] at hq
                    refine x_iadd (q := 55) F dX6_undo_54 rfl ?_
                    refine x_topi (y := nI went) (by show nI went + nI 0 = _; rw [nI_add]; rfl) ?_
                    refine x_istore_n (q := 56) F dX6_undo_55 rfl (by decide) ?_
                    refine x_ls [(0, .ref (ad (1, 0))), (1, .int (nI went)), (2, .int (nI n))] rfl ?_
                    exact next went (leftA A' n) h2 (by show n ≤ aI A'; omega) (by omega) hC2 hok hb2 (hfr.tr hfr2) hq
                  · rw [if_neg (fun v => by rcases v with v | v; rw [hd] at v; cases v; rw [w] at v; cases v)] at hq
                    refine x_iadd (q := 55) F dX6_undo_54 rfl ?_
                    refine x_topi (nI_1 went) ?_
                    refine x_istore_n (q := 56) F dX6_undo_55 rfl (by decide) ?_
                    refine x_ls [(0, .ref (ad (1, 0))), (1, .int (nI (went + 1))), (2, .int (nI n))] rfl ?_
                    refine next (went + 1) (goneA (leftA A' n) n) h3 (by show n ≤ aI A'; omega) (by omega) hC3 (hok.item ((hok.2.2.2.1.2 n (show n < aI A' by omega)).gn hfr')) (hb2.upd (fun v => hfr')) ((hfr.tr hfr2).tr hfr3) (fun ad4 h4 k1 k2 => ?_)
                    have := hq ad4 h4 k1 k2
                    rw [show went + 1 + (undF n (goneA (leftA A' n) n)).1 = went + ((undF n (goneA (leftA A' n) n)).1 + 1) by omega]
                    exact this
    refine x_if_ne (q := 7) F 9 dX6_undo_4 (by decide) rfl (fun c4 => ?_) (fun c4 => ?_)
    · refine x_aload_n (q := 10) F dX6_undo_9 rfl rfl (by first | exact xref_r | exact xref_n | exact xref_f _ | assumption) ?_
      refine x_dup (q := 11) F dX6_undo_10 rfl rfl ?_
      refine x_get (q := 14) F dX6_undo_11 rfl fs_X6_44 hC.1 rfl ?_
      refine x_iconst (q := 15) (v := 1) F dX6_undo_14 rfl (by decide) ?_
      refine x_isub (q := 16) F dX6_undo_15 rfl ?_
      refine x_topi (y := nI (aOb A - 1)) (by show nI (aOb A) - nI 1 = _; exact pk_sub (by omega)) ?_
      refine x_put (q := 19) F dX6_undo_16 rfl fs_X6_44 hC.1 (xle rfl) rfl rfl ?_
      have hC1 : pC ad _ (setOb A (aOb A - 1)) := hC.main (B := setOb A (aOb A - 1)) ⟨rfl, rfl, rfl, rfl, rfl, rfl, rfl⟩
      refine x_iconst (q := 20) (v := 0) F dX6_undo_19 rfl (by decide) ?_
      refine x_istore_n (q := 21) F dX6_undo_20 rfl (by decide) ?_
      refine x_aload_n (q := 22) F dX6_undo_21 rfl rfl (by first | exact xref_r | exact xref_n | exact xref_f _ | assumption) ?_
      refine x_get (q := 25) F dX6_undo_22 rfl fs_X6_41 hC1.1 rfl ?_
      refine x_iconst (q := 26) (v := 1) F dX6_undo_25 rfl (by decide) ?_
      refine x_isub (q := 27) F dX6_undo_26 rfl ?_
      refine x_istore_n (q := 28) F dX6_undo_27 rfl (by decide) ?_
      refine x_ls [(0, .ref (ad (1, 0))), (1, .int (nI 0)), (2, .int (nI (aI A) - 1))] rfl ?_
      exact loop (aI A) 0 (setOb A (aOb A - 1)) _ (Nat.le_refl _) (by omega) hC1 (hA.ob (by omega)) hbf (fr40.up (by decide)) (fun ad2 h2 k1 k2 => by rw [Nat.zero_add]; exact hQ ad2 h2 k1 k2)
    · exact absurd ((nI_eq (b := 0) (by omega) (by omega)).mp c4) hz
