/-! ===== the reference: batch, undo ===== -/
theorem rN.v {A : AS} {S S' : Nat → Int32} {V V' : MV} {ct : Int64} (h : rN A S ct V) (e : ∀ j, j ≠ 0 → j ≠ 24 → S' j = S j) (ev : ∀ a, a ≠ 65 → a ≠ 66 → V' a = V a) : rN A S' ct V' := by
  obtain ⟨h1, h2, h3, h4, h6, h7, h8⟩ := h
  exact ⟨h1.c (e 3 (by decide) (by decide)) (ev 51 (by decide) (by decide)), h2.c (e 15 (by decide) (by decide)) (ev 59 (by decide) (by decide)), h3.c (e 7 (by decide) (by decide)) (fun a q1 q2 => ev a (by omega) (by omega)), h4.c (e 17 (by decide) (by decide)) (fun a q1 q2 => ev a (by omega) (by omega)), h6.c (e 1 (by decide) (by decide)) (e 2 (by decide) (by decide)) (e 27 (by decide) (by decide)) (e 28 (by decide) (by decide)) (ev 67 (by decide) (by decide)), (e 6 (by decide) (by decide)).trans h7, (e 26 (by decide) (by decide)).trans h8⟩
theorem rN_bt {A : AS} {S : Nat → Int32} {V : MV} {ct : Int64} (h : rN A S ct V) (n : Nat) (o : Option Nat) : rN (setIt A (aI A, updI (aItm A) n (setBt (aItm A n) o))) S ct V := by
  obtain ⟨h1, h2, h3, ⟨i1, i2, i3⟩, h6, h7⟩ := h
  refine ⟨h1, h2, h3, ⟨i1, fun j hj => ?_, i3⟩, h6, h7⟩
  have hj : j < aI A := hj
  show rItm V j (updI (aItm A) n (setBt (aItm A n) o) j)
  by_cases z : j = n
  · subst z
    rw [show updI (aItm A) j (setBt (aItm A j) o) j = setBt (aItm A j) o from if_pos rfl]
    exact i2 j hj
  · rw [show updI (aItm A) n (setBt (aItm A n) o) j = aItm A j from if_neg z]
    exact i2 j hj
/-- while a batch is under way: what was there is as it was, what came is of it -/
def batI (A B : AS) (nb : Nat) (ob : Nat → Nat) (V1 : MV) : Prop := aOb B = aOb A ∧ aS B = aS A ∧ (∀ i, i < aI A → V1 65 i = nI (ob i) ∧ iBt (aItm B i) = iBt (aItm A i)) ∧ ∀ i, aI A ≤ i → i < aI B → V1 65 i = nI (nb + 1) ∧ iBt (aItm B i) = some (aOb A)
theorem batI_end {A B : AS} {S2 : Nat → Int32} {V V1 V2 : MV} {nb : Nat} {bm ob : Nat → Nat} (b2 : nb ≤ aI A) (b3 : aOb A ≤ nb) (b4 : ∀ k, k < aOb A → bm k < nb) (b5 : ∀ k k', k < k' → k' < aOb A → bm k < bm k') (b6 : ∀ b, b < nb → V 66 b = 0 ∨ V 66 b = 1) (b7 : ∀ b, b < nb → (V 66 b = 0 ↔ ∃ k, k < aOb A ∧ bm k = b)) (b8 : ∀ i, i < aI A → V 65 i = nI (ob i) ∧ ob i ≤ nb ∧ (∀ k, k < aOb A → (ob i = bm k + 1 ↔ iBt (aItm A i) = some k)) ∧ ∀ k, iBt (aItm A i) = some k → k < aOb A)
    (hI : batI A B nb ob V1) (hlt : aI A < aI B) (e24 : S2 24 = nI (nb + 1)) (v65 : V2 65 = V1 65) (v66 : ∀ b, b ≠ nb → V2 66 b = V 66 b) (w66 : V2 66 nb = 0) : rBt (setOb B (aOb B + 1)) S2 V2 := by
  obtain ⟨j1, j2, j3, j4⟩ := hI
  refine ⟨nb + 1, updN bm (aOb A) nb, fun i => if i < aI A then ob i else nb + 1, e24, (by show nb + 1 ≤ aI B; omega), (by show aOb B + 1 ≤ nb + 1; omega), fun k hk => ?_, fun k k' hk hk' => ?_, fun b hb => ?_, fun b hb => ?_, fun i hi => ?_⟩
  · have hk : k < aOb B + 1 := hk
    by_cases z : k = aOb A
    · rw [z, updN_self]; omega
    · rw [updN_ne _ _ z]; have := b4 k (by omega); omega
  · have hk' : k' < aOb B + 1 := hk'
    rw [updN_ne _ _ (show k ≠ aOb A by omega)]
    by_cases z : k' = aOb A
    · rw [z, updN_self]; exact b4 k (by omega)
    · rw [updN_ne _ _ z]; exact b5 k k' hk (by omega)
  · by_cases z : b = nb
    · rw [z]; exact Or.inl w66
    · rw [v66 b z]; exact b6 b (by omega)
  · show V2 66 b = 0 ↔ ∃ k, k < aOb B + 1 ∧ updN bm (aOb A) nb k = b
    by_cases z : b = nb
    · rw [z]
      exact ⟨fun _ => ⟨aOb A, by omega, updN_self _ _ _⟩, fun _ => w66⟩
    · rw [v66 b z, b7 b (by omega)]
      constructor
      · rintro ⟨k, hk, e⟩
        exact ⟨k, by omega, by rw [updN_ne _ _ (by omega)]; exact e⟩
      · rintro ⟨k, hk, e⟩
        by_cases y : k = aOb A
        · rw [y, updN_self] at e; omega
        · rw [updN_ne _ _ y] at e
          exact ⟨k, by omega, e⟩
  · have hi : i < aI B := hi
    show V2 65 i = nI (if i < aI A then ob i else nb + 1) ∧ (if i < aI A then ob i else nb + 1) ≤ nb + 1 ∧ (∀ k, k < aOb B + 1 → ((if i < aI A then ob i else nb + 1) = updN bm (aOb A) nb k + 1 ↔ iBt (aItm B i) = some k)) ∧ ∀ k, iBt (aItm B i) = some k → k < aOb B + 1
    rw [v65]
    by_cases z : i < aI A
    · rw [if_pos z]
      obtain ⟨x1, x2⟩ := j3 i z
      obtain ⟨y1, y2, y3, y4⟩ := b8 i z
      rw [x2]
      refine ⟨x1, by omega, fun k hk => ?_, fun k hk => by have := y4 k hk; omega⟩
      by_cases y : k = aOb A
      · rw [y, updN_self]
        exact ⟨fun w => by omega, fun w => by have := y4 _ w; omega⟩
      · rw [updN_ne _ _ y]
        exact y3 k (by omega)
    · rw [if_neg z]
      obtain ⟨x1, x2⟩ := j4 i (by omega) hi
      rw [x2]
      refine ⟨x1, by omega, fun k hk => ?_, fun k hk => by cases hk; omega⟩
      by_cases y : k = aOb A
      · rw [y, updN_self]
        exact ⟨fun _ => rfl, fun _ => rfl⟩
      · rw [updN_ne _ _ y]
        have := b4 k (by omega)
        exact ⟨fun w => by omega, fun w => absurd (Option.some.inj w) (fun v => y v.symm)⟩
theorem deriveF_bt {A : AS} (hA : aOK A) {i sc : Nat} (hi : i < aI A) (hs : sc < aS A) {j : Nat} (hj : j < aI A) : iBt (aItm (deriveF A i sc).2 j) = iBt (aItm A j) := by
  rcases deriveF_cases hA hi hs with ⟨d1, d2, d3, d4⟩ | ⟨d1, d2, d3, d4⟩
  · rw [d4]
  · rw [d3]
    show iBt (updI (aItm A) (aI A) (newI A i sc) j) = _
    rw [show updI (aItm A) (aI A) (newI A i sc) j = aItm A j from if_neg (by omega)]
set_option maxRecDepth 100000 in
set_option maxHeartbeats 2000000 in
theorem c_X7_batch : Ct yX7_batch cX7_batch 6 (some .int) (xrm 3 0 0) (fun ad h av Q => ∃ g A S ct V x, h = wM g ad S ct V ∧ rM A S ct V ∧ aOK A ∧ av = [.ref (ad (50, 0)), .int x] ∧ ∀ S' ct' V', rM (batchF A x).2 S' ct' V' → Q (some (.int (batchF A x).1)) ad (wM g ad S' ct' V')) := by
  refine Ct.of (by decide) ?_
  intro p l e s m args below meth c0 G ad h av Q F hsp
  obtain ⟨g, A, S, ct, V, x, rfl, hR, hA, rfl, hQ⟩ := hsp
  have hnI := hA.2.2.2.1.1
  have hnS := hA.2.2.1.1
  have hR0 : rM A (upd S 0 0) ct V := hR
  refine ⟨x_ent rfl rfl, ?_⟩
  refine x_ls [(0, .ref (ad (50, 0))), (1, .int x)] rfl ?_
  refine x_aload_n (q := 1) F dX7_batch_0 rfl rfl (by first | exact xref_r | exact xref_n | exact xref_f _ | assumption) ?_
  refine x_iconst (q := 2) (v := 0) F dX7_batch_1 rfl (by decide) ?_
  refine x_mput (q := 5) F dX7_batch_2 rfl fs_X7_79 (by decide) rfl rfl rfl ?_
  refine x_aload_n (q := 6) F dX7_batch_5 rfl rfl (by first | exact xref_r | exact xref_n | exact xref_f _ | assumption) ?_
  refine x_iload_n (q := 7) F dX7_batch_6 rfl rfl ?_
  refine x_callV1 (q := 10) F (50, 0) c_X7_isScript dX7_batch_7 rfl mv_X7_isScript ml_X7_128 ⟨⟨xle rfl, xle rfl⟩, xle rfl, xle rfl⟩ rfl (wM_o _ _ _ _ _) (xle rfl) ?_
  refine ⟨g, upd S 0 0, ct, V, aS A, x, rfl, rfl, hR0.2.2.1.1, by omega, fun _ => ?_⟩
  unfold batchF at hQ
  cases hx : ixN (aS A) x with
  | none =>
    rw [hx] at hQ
    refine x_if_ne (q := 13) F 15 dX7_batch_10 (by decide) rfl (fun c10 => ?_) (fun c10 => ?_)
    · exact absurd rfl c10
    · refine x_iconst (q := 14) (v := -1) F dX7_batch_13 rfl (by decide) ?_
      refine x_iret F dX7_batch_14 (xle rfl) (xle rfl) ?_
      exact hQ _ _ _ hR0
  | some sc =>
    rw [hx] at hQ
    obtain ⟨hs, rfl⟩ := ixN_some (by omega) hx
    replace hQ : ∀ S' ct' V', rM (if 0 < (batF sc (aI A) 0 A).1 then setOb (batF sc (aI A) 0 A).2 (aOb (batF sc (aI A) 0 A).2 + 1) else (batF sc (aI A) 0 A).2) S' ct' V' → Q (some (.int (nI (batF sc (aI A) 0 A).1))) ad (wM g ad S' ct' V') := hQ
    obtain ⟨nb, bm, ob, b1, b2, b3, b4, b5, b6, b7, b8⟩ := hR0.2.2.2.2.1
    have loop : ∀ f n came B S1 ct1 V1, n + f = aI A → aI B = aI A + came → rN B S1 ct1 V1 → aOK B → S1 24 = nI nb → V1 66 = V 66 → batI A B nb ob V1 → (∀ S' ct' V', rM (if 0 < came + (batF sc f n B).1 then setOb (batF sc f n B).2 (aOb (batF sc f n B).2 + 1) else (batF sc f n B).2) S' ct' V' → Q (some (.int (nI (came + (batF sc f n B).1)))) ad (wM g ad S' ct' V')) → xX p l e (xrm 3 0 0) s m args below meth c0 G ad (wM g ad S ct V) 6 (xZ below G ad (wM g ad S ct V) Q args s (xrm 3 0 0)) 25 [(0, .ref (ad (50, 0))), (1, .int (nI sc)), (2, .int (nI came)), (3, .int (nI (aI A))), (4, .int (nI n))] [] ad (wM g ad S1 ct1 V1) 0 0 := by
      intro f
      induction f with
      | zero =>
        intro n came B S1 ct1 V1 hn hI hB hOB s24 v66 hJ hq
        replace hq : ∀ S' ct' V', rM (if 0 < came then setOb B (aOb B + 1) else B) S' ct' V' → Q (some (.int (nI came))) ad (wM g ad S' ct' V') := hq
        have hnB := hOB.2.2.2.1.1
        refine x_iload (q := 27) F dX7_batch_25 rfl rfl ?_
        refine x_iload_n (q := 28) F dX7_batch_27 rfl rfl ?_
        refine x_icmp_ge (q := 31) F 83 dX7_batch_28 (by decide) rfl (fun c28 => ?_) (fun c28 => ?_)
        · refine x_iload_n (q := 84) F dX7_batch_83 rfl rfl ?_
          refine x_if_le (q := 87) F 107 dX7_batch_84 (by decide) rfl (fun c84 => ?_) (fun c84 => ?_)
          · have hc0 : came = 0 := by have := (nI_leI (a := came) (b := 0) (by omega) (by omega)).mp c84; omega
            subst hc0
            rw [if_neg (by omega)] at hq
            refine x_iload_n (q := 108) F dX7_batch_107 rfl rfl ?_
            refine x_iret F dX7_batch_108 (xle rfl) (xle rfl) ?_
            refine hq _ _ _ (hB.m ⟨nb, bm, ob, s24, by omega, by rw [hJ.1]; exact b3, by rw [hJ.1]; exact b4, by rw [hJ.1]; exact b5, by rw [v66]; exact b6, by rw [v66, hJ.1]; exact b7, fun i hi => ?_⟩)
            obtain ⟨x1, x2⟩ := hJ.2.2.1 i (by omega)
            rw [x2, hJ.1]
            exact ⟨x1, (b8 i (by omega)).2⟩
          · have hc0 : 0 < came := by
              rcases Nat.eq_zero_or_pos came with q | q
              · exact absurd (show nI came ≤ 0 by rw [q]; decide) c84
              · exact q
            rw [if_pos hc0] at hq
            refine x_aload_n (q := 88) F dX7_batch_87 rfl rfl (by first | exact xref_r | exact xref_n | exact xref_f _ | assumption) ?_
            refine x_mget (q := 91) F dX7_batch_88 rfl fs_X7_61 rfl ?_
            refine x_aload_n (q := 92) F dX7_batch_91 rfl rfl (by first | exact xref_r | exact xref_n | exact xref_f _ | assumption) ?_
            refine x_mget (q := 95) F dX7_batch_92 rfl fs_X7_158 rfl ?_
            refine x_iconst (q := 96) (v := 0) F dX7_batch_95 rfl (by decide) ?_
            refine x_mzst (q := 97) F dX7_batch_96 rfl rfl (by decide) (by decide) s24 (by omega) ?_
            refine x_aload_n (q := 98) F dX7_batch_97 rfl rfl (by first | exact xref_r | exact xref_n | exact xref_f _ | assumption) ?_
            refine x_dup (q := 99) F dX7_batch_98 rfl rfl ?_
            refine x_mget (q := 102) F dX7_batch_99 rfl fs_X7_158 rfl ?_
            refine x_topi s24 ?_
            refine x_iconst (q := 103) (v := 1) F dX7_batch_102 rfl (by decide) ?_
            refine x_iadd (q := 104) F dX7_batch_103 rfl ?_
            refine x_topi (nI_1 nb) ?_
            refine x_mput (q := 107) F dX7_batch_104 rfl fs_X7_158 (by decide) rfl rfl rfl ?_
            refine x_iload_n (q := 108) F dX7_batch_107 rfl rfl ?_
            refine x_iret F dX7_batch_108 (xle rfl) (xle rfl) ?_
            refine hq _ _ _ (rN.m ?_ (batI_end (V := V) b2 b3 b4 b5 b6 b7 b8 hJ (by omega) rfl rfl (fun b q => ?_) (upV_at V1 66 nb _)))
            · exact hB.v (fun j _ q => pk_un q) (fun a _ q => upV_n _ _ _ q)
            · rw [upV_ne _ _ _ q, v66]
        · exact absurd ((nI_leI (by omega) (by omega)).mpr (by omega)) c28
      | succ f ih =>
        intro n came B S1 ct1 V1 hn hI hB hOB s24 v66 hJ hq
        have hnB := hOB.2.2.2.1.1
        have hnSB := hOB.2.2.1.1
        have hsB : aS B = aS A := hJ.2.1
        have hlt : n < aI B := by omega
        have next : ∀ came' B' S2 ct2 V2, aI B' = aI A + came' → rN B' S2 ct2 V2 → aOK B' → S2 24 = nI nb → V2 66 = V 66 → batI A B' nb ob V2 → (∀ S' ct' V', rM (if 0 < came' + (batF sc f (n + 1) B').1 then setOb (batF sc f (n + 1) B').2 (aOb (batF sc f (n + 1) B').2 + 1) else (batF sc f (n + 1) B').2) S' ct' V' → Q (some (.int (nI (came' + (batF sc f (n + 1) B').1)))) ad (wM g ad S' ct' V')) → xX p l e (xrm 3 0 0) s m args below meth c0 G ad (wM g ad S ct V) 6 (xZ below G ad (wM g ad S ct V) Q args s (xrm 3 0 0)) 77 [(0, .ref (ad (50, 0))), (1, .int (nI sc)), (2, .int (nI came')), (3, .int (nI (aI A))), (4, .int (nI n))] [] ad (wM g ad S2 ct2 V2) 0 0 := by
          intro came' B' S2 ct2 V2 k1 k2 k3 k4 k5 k6 k7
          refine x_iinc (q := 80) F dX7_batch_77 rfl rfl (nI_1 n) (by decide) ?_
          refine x_goto F 25 dX7_batch_80 (by decide) ?_
          refine x_ls [(0, .ref (ad (50, 0))), (1, .int (nI sc)), (2, .int (nI came')), (3, .int (nI (aI A))), (4, .int (nI (n + 1)))] rfl ?_
          exact ih (n + 1) came' B' S2 ct2 V2 (by omega) k1 k2 k3 k4 k5 k6 k7
        refine x_iload (q := 27) F dX7_batch_25 rfl rfl ?_
        refine x_iload_n (q := 28) F dX7_batch_27 rfl rfl ?_
        refine x_icmp_ge (q := 31) F 83 dX7_batch_28 (by decide) rfl (fun c28 => ?_) (fun c28 => ?_)
        · have := (nI_leI (by omega) (by omega)).mp c28; omega
        · refine x_aload_n (q := 32) F dX7_batch_31 rfl rfl (by first | exact xref_r | exact xref_n | exact xref_f _ | assumption) ?_
          refine x_mget (q := 35) F dX7_batch_32 rfl fs_X7_48 rfl ?_
          refine x_iload (q := 37) F dX7_batch_35 rfl rfl ?_
          refine x_mild (q := 38) F dX7_batch_37 rfl rfl (by decide) (by decide) rfl (by omega) ?_
          refine x_topi (hB.2.2.2.1.2.1 n hlt).2.2.1 ?_
          by_cases hf : iFr (aItm B n) = none
          · rw [hf]
            refine x_if_lt (q := 41) F 44 dX7_batch_38 (by decide) rfl (fun c38 => ?_) (fun c38 => ?_)
            · refine x_aload_n (q := 45) F dX7_batch_44 rfl rfl (by first | exact xref_r | exact xref_n | exact xref_f _ | assumption) ?_
              refine x_iload (q := 47) F dX7_batch_45 rfl rfl ?_
              refine x_iload_n (q := 48) F dX7_batch_47 rfl rfl ?_
              refine x_callV2 (q := 51) F (50, 0) c_X7_deriveN dX7_batch_48 rfl mv_X7_derive ml_X7_152 ⟨⟨xle rfl, xle rfl⟩, xle rfl, xle rfl⟩ rfl (wM_o _ _ _ _ _) (xle rfl) ?_
              refine ⟨g, B, S1, ct1, V1, n, sc, rfl, hB, hOB, rfl, hlt, by omega, fun S2 ct2 V2 hB2 t24 t66 t65 tn _ => ?_⟩
              have hsame := deriveF_same B n sc
              have hbt := fun j (hj : j < aI B) => deriveF_bt hOB hlt (show sc < aS B by omega) hj
              refine x_istore (q := 53) F dX7_batch_51 rfl (by decide) ?_
              refine x_iload (q := 55) F dX7_batch_53 rfl rfl ?_
              rcases deriveF_cases hOB hlt (show sc < aS B by omega) with ⟨d1, d2, d3, d4⟩ | ⟨d1, d2, d3, d4⟩
              · have hBF : batF sc (f + 1) n B = batF sc f (n + 1) (deriveF B n sc).2 := by rw [batF, if_pos hf, if_pos d1]
                rw [hBF] at hq
                refine x_if_ge (q := 58) F 61 dX7_batch_55 (by decide) rfl (fun c55 => ?_) (fun c55 => ?_)
                · exact absurd d1 (Int32.not_lt.mpr c55)
                · refine x_goto F 77 dX7_batch_58 (by decide) ?_
                  refine x_ls [(0, .ref (ad (50, 0))), (1, .int (nI sc)), (2, .int (nI came)), (3, .int (nI (aI A))), (4, .int (nI n))] rfl ?_
                  refine next came _ S2 ct2 V2 (d3.trans hI) hB2 d2 (t24.trans s24) (t66.trans v66) ⟨hsame.2.2.1.trans hJ.1, hsame.1.trans hJ.2.1, fun i hi => ?_, fun i q1 q2 => ?_⟩ hq
                  · rw [t65 i (by omega), hbt i (by omega)]
                    exact hJ.2.2.1 i hi
                  · rw [d3] at q2
                    rw [t65 i (by omega), hbt i q2]
                    exact hJ.2.2.2 i q1 q2
              · have hnn : ¬ (deriveF B n sc).1 < 0 := by rw [d2]; exact nI_pos (by omega)
                have hBF : batF sc (f + 1) n B = ((batF sc f (n + 1) (joinA (deriveF B n sc).2 (aI B))).1 + 1, (batF sc f (n + 1) (joinA (deriveF B n sc).2 (aI B))).2) := by rw [batF, if_pos hf, if_neg hnn]
                rw [hBF] at hq
                have hI2 : aI (deriveF B n sc).2 = aI B + 1 := by rw [d3]; rfl
                refine x_if_ge (q := 58) F 61 dX7_batch_55 (by decide) rfl (fun c55 => ?_) (fun c55 => ?_)
                · refine x_aload_n (q := 62) F dX7_batch_61 rfl rfl (by first | exact xref_r | exact xref_n | exact xref_f _ | assumption) ?_
                  refine x_mget (q := 65) F dX7_batch_62 rfl fs_X7_58 rfl ?_
                  refine x_iload (q := 67) F dX7_batch_65 rfl rfl ?_
                  refine x_aload_n (q := 68) F dX7_batch_67 rfl rfl (by first | exact xref_r | exact xref_n | exact xref_f _ | assumption) ?_
                  refine x_mget (q := 71) F dX7_batch_68 rfl fs_X7_158 rfl ?_
                  refine x_topi (t24.trans s24) ?_
                  refine x_iconst (q := 72) (v := 1) F dX7_batch_71 rfl (by decide) ?_
                  refine x_iadd (q := 73) F dX7_batch_72 rfl ?_
                  refine x_topi (nI_1 nb) ?_
                  refine x_mist (q := 74) F dX7_batch_73 rfl rfl (by decide) (by decide) d2 (by omega) ?_
                  refine x_iinc (q := 77) F dX7_batch_74 rfl rfl (nI_1 came) (by decide) ?_
                  refine x_ls [(0, .ref (ad (50, 0))), (1, .int (nI sc)), (2, .int (nI (came + 1))), (3, .int (nI (aI A))), (4, .int (nI n))] rfl ?_
                  refine next (came + 1) (joinA (deriveF B n sc).2 (aI B)) S2 ct2 _ (by show aI (deriveF B n sc).2 = _; omega) ((rN_bt hB2 (aI B) _).v (fun _ _ _ => rfl) (fun a q _ => upV_n _ _ _ q)) (joinA_ok d4 (by omega)) (t24.trans s24) (t66.trans v66) ⟨hsame.2.2.1.trans hJ.1, hsame.1.trans hJ.2.1, fun i hi => ?_, fun i q1 q2 => ?_⟩ (fun S' ct' V' hf' => ?_)
                  · have hne : i ≠ aI B := by omega
                    show upV V2 65 (aI B) _ 65 i = nI (ob i) ∧ iBt (updI (aItm (deriveF B n sc).2) (aI B) _ i) = _
                    rw [upV_ne _ _ _ hne, t65 i hne, show updI (aItm (deriveF B n sc).2) (aI B) (setBt (aItm (deriveF B n sc).2 (aI B)) (some (aOb (deriveF B n sc).2))) i = aItm (deriveF B n sc).2 i from if_neg hne, hbt i (by omega)]
                    exact hJ.2.2.1 i hi
                  · have q2 : i < aI (deriveF B n sc).2 := q2
                    show upV V2 65 (aI B) _ 65 i = nI (nb + 1) ∧ iBt (updI (aItm (deriveF B n sc).2) (aI B) _ i) = _
                    by_cases z : i = aI B
                    · rw [z, upV_at, show updI (aItm (deriveF B n sc).2) (aI B) (setBt (aItm (deriveF B n sc).2 (aI B)) (some (aOb (deriveF B n sc).2))) (aI B) = setBt (aItm (deriveF B n sc).2 (aI B)) (some (aOb (deriveF B n sc).2)) from if_pos rfl]
                      refine ⟨rfl, ?_⟩
                      show some (aOb (deriveF B n sc).2) = some (aOb A)
                      rw [hsame.2.2.1, hJ.1]
                    · rw [upV_ne _ _ _ z, t65 i z, show updI (aItm (deriveF B n sc).2) (aI B) (setBt (aItm (deriveF B n sc).2 (aI B)) (some (aOb (deriveF B n sc).2))) i = aItm (deriveF B n sc).2 i from if_neg z, hbt i (by omega)]
                      exact hJ.2.2.2 i q1 (by omega)
                  · have e9 : came + 1 + (batF sc f (n + 1) (joinA (deriveF B n sc).2 (aI B))).1 = came + ((batF sc f (n + 1) (joinA (deriveF B n sc).2 (aI B))).1 + 1) := by omega
                    rw [e9] at hf' ⊢
                    exact hq S' ct' V' hf'
                · exact absurd (Int32.not_lt.mp hnn) c55
            · exact absurd (by decide) c38
          · have hBF : batF sc (f + 1) n B = batF sc f (n + 1) B := by rw [batF, if_neg hf]
            rw [hBF] at hq
            refine x_if_lt (q := 41) F 44 dX7_batch_38 (by decide) rfl (fun c38 => ?_) (fun c38 => ?_)
            · cases hf2 : iFr (aItm B n) with
              | none => exact absurd hf2 hf
              | some v =>
                rw [hf2] at c38
                exact absurd c38 (nI_pos (by have := (hOB.2.2.2.1.2 n hlt).2.2.1 v hf2; omega))
            · refine x_goto F 77 dX7_batch_41 (by decide) ?_
              exact next came B S1 ct1 V1 hI hB hOB s24 v66 hJ hq
    refine x_if_ne (q := 13) F 15 dX7_batch_10 (by decide) rfl (fun c10 => ?_) (fun c10 => ?_)
    · refine x_iconst (q := 16) (v := 0) F dX7_batch_15 rfl (by decide) ?_
      refine x_istore_n (q := 17) F dX7_batch_16 rfl (by decide) ?_
      refine x_aload_n (q := 18) F dX7_batch_17 rfl rfl (by first | exact xref_r | exact xref_n | exact xref_f _ | assumption) ?_
      refine x_mget (q := 21) F dX7_batch_18 rfl fs_X7_89 rfl ?_
      refine x_topi (y := nI (aI A)) hR0.2.2.2.1.1 ?_
      refine x_istore_n (q := 22) F dX7_batch_21 rfl (by decide) ?_
      refine x_iconst (q := 23) (v := 0) F dX7_batch_22 rfl (by decide) ?_
      refine x_istore (q := 25) F dX7_batch_23 rfl (by decide) ?_
      refine x_ls [(0, .ref (ad (50, 0))), (1, .int (nI sc)), (2, .int (nI 0)), (3, .int (nI (aI A))), (4, .int (nI 0))] rfl ?_
      exact loop (aI A) 0 0 A _ ct V (by omega) rfl hR0.n hA b1 rfl ⟨rfl, rfl, fun i hi => ⟨(b8 i hi).1, rfl⟩, fun i q1 q2 => by omega⟩ (fun S' ct' V' hf => by rw [Nat.zero_add] at hf ⊢; exact hQ S' ct' V' hf)
    · exact absurd (show (1 : Int32) = 0 from c10) (by decide)
/-- while a batch is undone: above n what was of it is of none -/
def undI (A B : AS) (n : Nat) : Prop := aI B = aI A ∧ aOb B + 1 = aOb A ∧ (∀ i, i < n → iBt (aItm B i) = iBt (aItm A i)) ∧ ∀ i, n ≤ i → i < aI A → iBt (aItm B i) = if iBt (aItm A i) = some (aOb B) then none else iBt (aItm A i)
set_option maxRecDepth 100000 in
set_option maxHeartbeats 2000000 in
theorem c_X7_undo : Ct yX7_undo cX7_undo 4 (some .int) (xrm 2 0 0) (fun ad h av Q => ∃ g A S ct V, h = wM g ad S ct V ∧ rM A S ct V ∧ aOK A ∧ btFr A ∧ av = [.ref (ad (50, 0))] ∧ ∀ S' ct' V', rM (undoF A).2 S' ct' V' → Q (some (.int (undoF A).1)) ad (wM g ad S' ct' V')) := by
  refine Ct.of (by decide) ?_
  intro p l e s m args below meth c0 G ad h av Q F hsp
  obtain ⟨g, A, S, ct, V, rfl, hR, hA, hbf, rfl, hQ⟩ := hsp
  have hnI := hA.2.2.2.1.1
  have hR0 : rM A (upd S 0 0) ct V := hR
  refine ⟨x_ent rfl rfl, ?_⟩
  refine x_ls [(0, .ref (ad (50, 0)))] rfl ?_
  obtain ⟨nb, bm, ob, b1, b2, b3, b4, b5, b6, b7, b8⟩ := hR0.2.2.2.2.1
  unfold undoF at hQ
  -- behind the search
  have items : ∀ (n went : Nat) (B : AS) (V1 : MV), aOb A ≠ 0 → n ≤ aI B → went + n ≤ 60 → rN B (upd S 0 0) ct V1 → aOK B → btFr B → undI A B n → V1 65 = V 65 → V1 66 = upV V 66 (bm (aOb A - 1)) 1 66 → (∀ S' ct' V', rM (undF n B).2 S' ct' V' → Q (some (.int (nI (went + (undF n B).1)))) ad (wM g ad S' ct' V')) → xX p l e (xrm 2 0 0) s m args below meth c0 G ad (wM g ad S ct V) 4 (xZ below G ad (wM g ad S ct V) Q args s (xrm 2 0 0)) 53 [(0, .ref (ad (50, 0))), (1, .int (nI (bm (aOb A - 1)))), (2, .int (nI went)), (3, .int (nI n - 1))] [] ad (wM g ad (upd S 0 0) ct V1) 0 0 := by
    intro n
    induction n with
    | zero =>
      intro went B V1 hz hn hw hB hOB hbB hU v65 v66 hq
      refine x_iload_n (q := 54) F dX7_undo_53 rfl rfl ?_
      refine x_if_lt (q := 57) F 95 dX7_undo_54 (by decide) rfl (fun c54 => ?_) (fun c54 => ?_)
      · refine x_iload_n (q := 96) F dX7_undo_95 rfl rfl ?_
        refine x_iret F dX7_undo_96 (xle rfl) (xle rfl) ?_
        obtain ⟨u1, u2, u3, u4⟩ := hU
        have hbm := b4 (aOb A - 1) (by omega)
        refine hq _ _ _ (hB.m ⟨nb, bm, ob, b1, by omega, by omega, fun k hk => b4 k (by omega), fun k k' hk hk' => b5 k k' hk (by omega), fun b hb => ?_, fun b hb => ?_, fun i hi => ?_⟩)
        · rw [v66]
          by_cases z : b = bm (aOb A - 1)
          · rw [z, upV_at]; exact Or.inr rfl
          · rw [upV_ne _ _ _ z]; exact b6 b hb
        · rw [v66]
          by_cases z : b = bm (aOb A - 1)
          · rw [z, upV_at]
            refine ⟨fun w => absurd w (by decide), fun ⟨k, hk, ek⟩ => ?_⟩
            have := b5 k (aOb A - 1) (by omega) (by omega)
            omega
          · rw [upV_ne _ _ _ z, b7 b hb]
            refine ⟨fun ⟨k, hk, ek⟩ => ⟨k, ?_, ek⟩, fun ⟨k, hk, ek⟩ => ⟨k, by omega, ek⟩⟩
            by_cases y : k = aOb A - 1
            · rw [y] at ek; exact absurd ek.symm z
            · omega
        · rw [u1] at hi
          obtain ⟨y1, y2, y3, y4⟩ := b8 i hi
          rw [v65, u4 i (Nat.zero_le _) hi]
          refine ⟨y1, y2, fun k hk => ?_, fun k hk => ?_⟩
          · rw [y3 k (by omega)]
            by_cases w : iBt (aItm A i) = some (aOb B)
            · rw [if_pos w, w]
              exact ⟨fun v => by have := Option.some.inj v; omega, fun v => by cases v⟩
            · rw [if_neg w]
          · by_cases w : iBt (aItm A i) = some (aOb B)
            · rw [if_pos w] at hk; cases hk
            · rw [if_neg w] at hk
              have := y4 k hk
              by_cases y : k = aOb B
              · exact absurd (by rw [hk, y]) w
              · omega
      · exact absurd (by decide) c54
    | succ n ih =>
      intro went B V1 hz hn hw hB hOB hbB hU v65 v66 hq
      have hnB := hOB.2.2.2.1.1
      have hUc := hU
      obtain ⟨u1, u2, u3, u4⟩ := hUc
      have hbm := b4 (aOb A - 1) (by omega)
      have hltA : n < aI A := by omega
      have hltB : n < aI B := by omega
      obtain ⟨y1, y2, y3, y4⟩ := b8 n hltA
      have hob : aOb B = aOb A - 1 := by omega
      have hbtn : iBt (aItm B n) = iBt (aItm A n) := u3 n (by omega)
      have next : ∀ (w' : Nat) (B' : AS) (V2 : MV), n ≤ aI B' → w' + n ≤ 60 → rN B' (upd S 0 0) ct V2 → aOK B' → btFr B' → undI A B' n → V2 65 = V 65 → V2 66 = upV V 66 (bm (aOb A - 1)) 1 66 → (∀ S' ct' V', rM (undF n B').2 S' ct' V' → Q (some (.int (nI (w' + (undF n B').1)))) ad (wM g ad S' ct' V')) → xX p l e (xrm 2 0 0) s m args below meth c0 G ad (wM g ad S ct V) 4 (xZ below G ad (wM g ad S ct V) Q args s (xrm 2 0 0)) 89 [(0, .ref (ad (50, 0))), (1, .int (nI (bm (aOb A - 1)))), (2, .int (nI w')), (3, .int (nI n))] [] ad (wM g ad (upd S 0 0) ct V2) 0 0 := by
        intro w' B' V2 k1 k2 k3 k4 k5 k6 k7 k8 k9
        refine x_iinc (q := 92) F dX7_undo_89 rfl rfl (show nI n + Int32.ofInt (-1) = nI n - 1 by rw [Int32.sub_eq_add_neg]; rfl) (by decide) ?_
        refine x_goto F 53 dX7_undo_92 (by decide) ?_
        refine x_ls [(0, .ref (ad (50, 0))), (1, .int (nI (bm (aOb A - 1)))), (2, .int (nI w')), (3, .int (nI n - 1))] rfl ?_
        exact ih w' B' V2 hz k1 k2 k3 k4 k5 k6 k7 k8 k9
      have hUl : iBt (aItm A n) = some (aOb B) → undI A (leftA B n) n := fun w => ⟨u1, u2, fun i hi => (by
          show iBt (updI (aItm B) n _ i) = _
          rw [show updI (aItm B) n (setBt (aItm B n) none) i = aItm B i from if_neg (by omega)]
          exact u3 i (by omega)), fun i q1 q2 => (by
          show iBt (updI (aItm B) n _ i) = if iBt (aItm A i) = some (aOb B) then none else iBt (aItm A i)
          by_cases z : i = n
          · subst z
            rw [show updI (aItm B) i (setBt (aItm B i) none) i = setBt (aItm B i) none from if_pos rfl, if_pos w]
            rfl
          · rw [show updI (aItm B) n (setBt (aItm B n) none) i = aItm B i from if_neg z]
            exact u4 i (by omega) q2)⟩
      rw [nI_pred]
      refine x_iload_n (q := 54) F dX7_undo_53 rfl rfl ?_
      refine x_if_lt (q := 57) F 95 dX7_undo_54 (by decide) rfl (fun c54 => ?_) (fun c54 => ?_)
      · exact absurd c54 (nI_pos (by omega))
      · refine x_aload_n (q := 58) F dX7_undo_57 rfl rfl (by first | exact xref_r | exact xref_n | exact xref_f _ | assumption) ?_
        refine x_mget (q := 61) F dX7_undo_58 rfl fs_X7_58 rfl ?_
        refine x_iload_n (q := 62) F dX7_undo_61 rfl rfl ?_
        refine x_mild (q := 63) F dX7_undo_62 rfl rfl (by decide) (by decide) rfl (by omega) ?_
        refine x_topi (y := nI (ob n)) (by rw [v65]; exact y1) ?_
        refine x_iload_n (q := 64) F dX7_undo_63 rfl rfl ?_
        refine x_iconst (q := 65) (v := 1) F dX7_undo_64 rfl (by decide) ?_
        refine x_iadd (q := 66) F dX7_undo_65 rfl ?_
        refine x_topi (nI_1 _) ?_
        refine x_icmp_ne (q := 69) F 89 dX7_undo_66 (by decide) rfl (fun c66 => ?_) (fun c66 => ?_)
        · have hne : ¬ iBt (aItm B n) = some (aOb B) := fun w => c66 (by rw [hbtn, hob] at w; rw [(y3 (aOb A - 1) (by omega)).mpr w])
          have hF : undF (n + 1) B = undF n B := by rw [undF, if_neg hne]
          rw [hF] at hq
          refine next went B V1 (by omega) (by omega) hB hOB hbB ⟨u1, u2, fun i hi => u3 i (by omega), fun i q1 q2 => ?_⟩ v65 v66 hq
          by_cases z : i = n
          · subst z
            rw [hbtn] at hne
            rw [if_neg hne]
            exact hbtn
          · exact u4 i (by omega) q2
        · have hyes : iBt (aItm A n) = some (aOb B) := by
            rw [hob]
            exact (y3 (aOb A - 1) (by omega)).mp ((nI_eq (by omega) (by omega)).mp c66)
          have hF : undF (n + 1) B = if hasDer (leftA B n) n = true ∨ iGn (aItm (leftA B n) n) = true then undF n (leftA B n) else ((undF n (goneA (leftA B n) n)).1 + 1, (undF n (goneA (leftA B n) n)).2) := by rw [undF, if_pos (hbtn.trans hyes)]
          rw [hF] at hq
          have hok := leftA_ok hOB hltB
          have hb2 : btFr (leftA B n) := hbB.upd (fun w => absurd rfl w)
          have hBl : rN (leftA B n) (upd S 0 0) ct V1 := rN_bt hB n none
          have hItl : aItm (leftA B n) n = setBt (aItm B n) none := if_pos rfl
          have hfr' : iFr (aItm (leftA B n) n) ≠ none := by
            rw [hItl]
            exact hbB n hltB (by rw [hbtn, hyes]; exact fun w => by cases w)
          have hU' := hUl hyes
          refine x_aload_n (q := 70) F dX7_undo_69 rfl rfl (by first | exact xref_r | exact xref_n | exact xref_f _ | assumption) ?_
          refine x_mget (q := 73) F dX7_undo_70 rfl fs_X7_54 rfl ?_
          refine x_iload_n (q := 74) F dX7_undo_73 rfl rfl ?_
          refine x_mzld (q := 75) F dX7_undo_74 rfl rfl (by decide) (by decide) rfl (by omega) ?_
          refine x_topi (y := bI (iGn (aItm (leftA B n) n))) ((hBl.2.2.2.1.2.1 n hltB).2.2.2.2) ?_
          refine x_if_ne (q := 78) F 89 dX7_undo_75 (by decide) rfl (fun c75 => ?_) (fun c75 => ?_)
          · rw [if_pos (Or.inr (bI_0 c75))] at hq
            exact next went (leftA B n) V1 (by show n ≤ aI B; omega) (by omega) hBl hok hb2 hU' v65 v66 hq
          · have hg := bI_1 c75
            refine x_aload_n (q := 79) F dX7_undo_78 rfl rfl (by first | exact xref_r | exact xref_n | exact xref_f _ | assumption) ?_
            refine x_iload_n (q := 80) F dX7_undo_79 rfl rfl ?_
            refine x_callV1 (q := 83) F (50, 0) c_X7_goes dX7_undo_80 rfl mv_X7_goes ml_X7_161 ⟨⟨xle rfl, xle rfl⟩, xle rfl, xle rfl⟩ rfl (wM_o _ _ _ _ _) (xle rfl) ?_
            refine ⟨g, leftA B n, upd S 0 0, ct, V1, n, rfl, hBl, hok, rfl, hltB, fun hd _ => ?_, fun hd _ => ?_⟩
            · rw [if_pos (Or.inl hd)] at hq
              refine x_if_eq (q := 86) F 89 dX7_undo_83 (by decide) rfl (fun c83 => ?_) (fun c83 => ?_)
              · exact next went (leftA B n) V1 (by show n ≤ aI B; omega) (by omega) hBl hok hb2 hU' v65 v66 hq
              · exact absurd rfl c83
            · rw [if_neg (fun v => by rcases v with v | v; rw [hd] at v; cases v; rw [hg] at v; cases v)] at hq
              refine x_if_eq (q := 86) F 89 dX7_undo_83 (by decide) rfl (fun c83 => ?_) (fun c83 => ?_)
              · exact absurd c83 (by decide)
              · refine x_iinc (q := 89) F dX7_undo_86 rfl rfl (nI_1 went) (by decide) ?_
                refine x_ls [(0, .ref (ad (50, 0))), (1, .int (nI (bm (aOb A - 1)))), (2, .int (nI (went + 1))), (3, .int (nI n))] rfl ?_
                refine next (went + 1) (goneA (leftA B n) n) _ (by show n ≤ aI B; omega) (by omega) (rN_gone hBl hltB) (hok.item ((hok.2.2.2.1.2 n hltB).gn hfr')) (hb2.upd (fun v => hfr')) ⟨hU'.1, hU'.2.1, fun i hi => ?_, fun i q1 q2 => ?_⟩ v65 v66 (fun S' ct' V' hf => ?_)
                · show iBt (updI (aItm (leftA B n)) n (setGn (aItm (leftA B n) n) true) i) = _
                  rw [show updI (aItm (leftA B n)) n (setGn (aItm (leftA B n) n) true) i = aItm (leftA B n) i from if_neg (by omega)]
                  exact hU'.2.2.1 i hi
                · show iBt (updI (aItm (leftA B n)) n (setGn (aItm (leftA B n) n) true) i) = if iBt (aItm A i) = some (aOb B) then none else iBt (aItm A i)
                  by_cases z : i = n
                  · subst z
                    rw [show updI (aItm (leftA B i)) i (setGn (aItm (leftA B i) i) true) i = setGn (aItm (leftA B i) i) true from if_pos rfl]
                    exact hU'.2.2.2 i (Nat.le_refl _) q2
                  · rw [show updI (aItm (leftA B n)) n (setGn (aItm (leftA B n) n) true) i = aItm (leftA B n) i from if_neg z]
                    exact hU'.2.2.2 i q1 q2
                · have := hq S' ct' V' hf
                  rw [show went + 1 + (undF n (goneA (leftA B n) n)).1 = went + ((undF n (goneA (leftA B n) n)).1 + 1) by omega]
                  exact this
  have search : ∀ k, k ≤ nb → (∀ b, k ≤ b → b < nb → V 66 b = 1) → xX p l e (xrm 2 0 0) s m args below meth c0 G ad (wM g ad S ct V) 4 (xZ below G ad (wM g ad S ct V) Q args s (xrm 2 0 0)) 12 [(0, .ref (ad (50, 0))), (1, .int (nI k - 1))] [] ad (wM g ad (upd S 0 0) ct V) 0 0 := by
    intro k
    induction k with
    | zero =>
      intro hk hall
      have hz : aOb A = 0 := by
        rcases Nat.eq_zero_or_pos (aOb A) with q | q
        · exact q
        · have h0 := b4 0 q
          have := (b7 (bm 0) h0).mpr ⟨0, q, rfl⟩
          rw [hall (bm 0) (Nat.zero_le _) h0] at this
          exact absurd this (by decide)
      rw [if_pos hz] at hQ
      refine x_iload_n (q := 13) F dX7_undo_12 rfl rfl ?_
      refine x_if_lt (q := 16) F 31 dX7_undo_13 (by decide) rfl (fun c13 => ?_) (fun c13 => ?_)
      · refine x_iload_n (q := 32) F dX7_undo_31 rfl rfl ?_
        refine x_if_ge (q := 35) F 37 dX7_undo_32 (by decide) rfl (fun c32 => ?_) (fun c32 => ?_)
        · exact absurd c32 (by decide)
        · refine x_iconst (q := 36) (v := -1) F dX7_undo_35 rfl (by decide) ?_
          refine x_iret F dX7_undo_36 (xle rfl) (xle rfl) ?_
          exact hQ _ _ _ hR0
      · exact absurd (by decide) c13
    | succ k ih =>
      intro hk hall
      rw [nI_pred]
      refine x_iload_n (q := 13) F dX7_undo_12 rfl rfl ?_
      refine x_if_lt (q := 16) F 31 dX7_undo_13 (by decide) rfl (fun c13 => ?_) (fun c13 => ?_)
      · exact absurd c13 (nI_pos (by omega))
      · refine x_aload_n (q := 17) F dX7_undo_16 rfl rfl (by first | exact xref_r | exact xref_n | exact xref_f _ | assumption) ?_
        refine x_mget (q := 20) F dX7_undo_17 rfl fs_X7_61 rfl ?_
        refine x_iload_n (q := 21) F dX7_undo_20 rfl rfl ?_
        refine x_mzld (q := 22) F dX7_undo_21 rfl rfl (by decide) (by decide) rfl (by omega) ?_
        refine x_if_eq (q := 25) F 31 dX7_undo_22 (by decide) rfl (fun c22 => ?_) (fun c22 => ?_)
        · obtain ⟨j, hj, ej⟩ := (b7 k (by omega)).mp c22
          have hz : aOb A ≠ 0 := by omega
          have hjl : j = aOb A - 1 := by
            by_cases z : j = aOb A - 1
            · exact z
            · have h1 := b5 j (aOb A - 1) (by omega) (by omega)
              have h2 := b4 (aOb A - 1) (by omega)
              have h3 := (b7 (bm (aOb A - 1)) h2).mpr ⟨aOb A - 1, by omega, rfl⟩
              rw [hall (bm (aOb A - 1)) (by omega) h2] at h3
              exact absurd h3 (by decide)
          rw [hjl] at ej
          subst ej
          rw [if_neg hz] at hQ
          refine x_iload_n (q := 32) F dX7_undo_31 rfl rfl ?_
          refine x_if_ge (q := 35) F 37 dX7_undo_32 (by decide) rfl (fun c32 => ?_) (fun c32 => ?_)
          · refine x_aload_n (q := 38) F dX7_undo_37 rfl rfl (by first | exact xref_r | exact xref_n | exact xref_f _ | assumption) ?_
            refine x_mget (q := 41) F dX7_undo_38 rfl fs_X7_61 rfl ?_
            refine x_iload_n (q := 42) F dX7_undo_41 rfl rfl ?_
            refine x_iconst (q := 43) (v := 1) F dX7_undo_42 rfl (by decide) ?_
            refine x_mzst (q := 44) F dX7_undo_43 rfl rfl (by decide) (by decide) rfl (by omega) ?_
            refine x_iconst (q := 45) (v := 0) F dX7_undo_44 rfl (by decide) ?_
            refine x_istore_n (q := 46) F dX7_undo_45 rfl (by decide) ?_
            refine x_aload_n (q := 47) F dX7_undo_46 rfl rfl (by first | exact xref_r | exact xref_n | exact xref_f _ | assumption) ?_
            refine x_mget (q := 50) F dX7_undo_47 rfl fs_X7_89 rfl ?_
            refine x_topi (y := nI (aI A)) hR0.2.2.2.1.1 ?_
            refine x_iconst (q := 51) (v := 1) F dX7_undo_50 rfl (by decide) ?_
            refine x_isub (q := 52) F dX7_undo_51 rfl ?_
            refine x_istore_n (q := 53) F dX7_undo_52 rfl (by decide) ?_
            refine x_ls [(0, .ref (ad (50, 0))), (1, .int (nI (bm (aOb A - 1)))), (2, .int (nI 0)), (3, .int (nI (aI A) - 1))] rfl ?_
            refine items (aI A) 0 (setOb A (aOb A - 1)) _ hz (Nat.le_refl _) (by omega) ((hR0.n).v (fun _ _ _ => rfl) (fun a _ q => upV_n _ _ _ q)) (hA.ob (by have := hA.2.2.2.2.2.2.2.1; omega)) hbf ⟨rfl, by show aOb A - 1 + 1 = aOb A; omega, fun _ _ => rfl, fun i q1 q2 => by omega⟩ rfl rfl (fun S' ct' V' hf => ?_)
            rw [Nat.zero_add]
            exact hQ S' ct' V' hf
          · exact absurd (Int32.not_lt.mp (nI_pos (by omega))) c32
        · refine x_iinc (q := 28) F dX7_undo_25 rfl rfl (show nI k + Int32.ofInt (-1) = nI k - 1 by rw [Int32.sub_eq_add_neg]; rfl) (by decide) ?_
          refine x_goto F 12 dX7_undo_28 (by decide) ?_
          refine x_ls [(0, .ref (ad (50, 0))), (1, .int (nI k - 1))] rfl ?_
          refine ih (by omega) (fun b q1 q2 => ?_)
          by_cases z : b = k
          · rw [z]
            rcases b6 k (by omega) with w | w
            · exact absurd w c22
            · exact w
          · exact hall b (by omega) q2
  refine x_aload_n (q := 1) F dX7_undo_0 rfl rfl (by first | exact xref_r | exact xref_n | exact xref_f _ | assumption) ?_
  refine x_iconst (q := 2) (v := 0) F dX7_undo_1 rfl (by decide) ?_
  refine x_mput (q := 5) F dX7_undo_2 rfl fs_X7_79 (by decide) rfl rfl rfl ?_
  refine x_aload_n (q := 6) F dX7_undo_5 rfl rfl (by first | exact xref_r | exact xref_n | exact xref_f _ | assumption) ?_
  refine x_mget (q := 9) F dX7_undo_6 rfl fs_X7_158 rfl ?_
  refine x_topi (y := nI nb) b1 ?_
  refine x_iconst (q := 10) (v := 1) F dX7_undo_9 rfl (by decide) ?_
  refine x_isub (q := 11) F dX7_undo_10 rfl ?_
  refine x_istore_n (q := 12) F dX7_undo_11 rfl (by decide) ?_
  refine x_ls [(0, .ref (ad (50, 0))), (1, .int (nI nb - 1))] rfl ?_
  exact search nb (Nat.le_refl _) (fun b q1 q2 => by omega)
