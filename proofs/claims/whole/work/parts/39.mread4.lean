/-! ===== the reference: read; what does not touch a part of the state ===== -/
theorem rTx.c {A : AS} {S S' : Nat → Int32} {V V' : MV} (h : rTx A S V) (e : S' 3 = S 3) (ev : V' 51 = V 51) : rTx A S' V' := ⟨e.trans h.1, fun j hj => by rw [ev]; exact h.2 j hj⟩
theorem rCo.c {A : AS} {S S' : Nat → Int32} {V V' : MV} (h : rCo A S V) (e : S' 15 = S 15) (ev : V' 59 = V 59) : rCo A S' V' := ⟨e.trans h.1, fun j hj => by rw [ev]; exact h.2 j hj⟩
theorem rScr.c {s : Nat} {d : ScrD} {V V' : MV} (h : rScr V s d) (ev : ∀ a, 52 ≤ a → a ≤ 58 → V' a = V a) : rScr V' s d := by
  unfold rScr
  rw [ev 52 (by omega) (by omega), ev 53 (by omega) (by omega), ev 54 (by omega) (by omega), ev 55 (by omega) (by omega), ev 56 (by omega) (by omega), ev 57 (by omega) (by omega), ev 58 (by omega) (by omega)]
  exact h
theorem rSc.c {A : AS} {S S' : Nat → Int32} {V V' : MV} (h : rSc A S V) (e : S' 7 = S 7) (ev : ∀ a, 52 ≤ a → a ≤ 58 → V' a = V a) : rSc A S' V' := ⟨e.trans h.1, fun s hs => (h.2.1 s hs).c ev, fun s q1 q2 => by rw [ev 55 (by omega) (by omega), ev 56 (by omega) (by omega)]; exact h.2.2 s q1 q2⟩
theorem rItm.c {i : Nat} {d : ItmD} {V V' : MV} (h : rItm V i d) (ev : ∀ a, 60 ≤ a → a ≤ 64 → V' a = V a) : rItm V' i d := by
  unfold rItm
  rw [ev 60 (by omega) (by omega), ev 61 (by omega) (by omega), ev 62 (by omega) (by omega), ev 63 (by omega) (by omega), ev 64 (by omega) (by omega)]
  exact h
theorem rIt.c {A : AS} {S S' : Nat → Int32} {V V' : MV} (h : rIt A S V) (e : S' 17 = S 17) (ev : ∀ a, 60 ≤ a → a ≤ 64 → V' a = V a) : rIt A S' V' := ⟨e.trans h.1, fun s hs => (h.2.1 s hs).c ev, fun s q1 q2 => by rw [ev 64 (by omega) (by omega)]; exact h.2.2 s q1 q2⟩
theorem rBt.c {A : AS} {S S' : Nat → Int32} {V V' : MV} (h : rBt A S V) (e : S' 24 = S 24) (e5 : V' 65 = V 65) (e6 : V' 66 = V 66) : rBt A S' V' := by
  unfold rBt
  rw [e, e5, e6]
  exact h
theorem rRn.c {A : AS} {S S' : Nat → Int32} {V V' : MV} {ct : Int64} (h : rRn A S V ct) (e1 : S' 1 = S 1) (e2 : S' 2 = S 2) (e3 : S' 27 = S 27) (e4 : S' 28 = S 28) (ev : V' 67 = V 67) : rRn A S' V' ct := by
  unfold rRn
  rw [e1, e2, e3, e4, ev]
  exact h
theorem rSc.fr {A : AS} {S S' : Nat → Int32} {V V' : MV} (h : rSc A S V) (hA : aOK A) (e : S' 7 = S 7) (ev : frS (aS A) V V') : rSc A S' V' := by
  refine ⟨e.trans h.1, fun s hs => ?_, fun s q1 q2 => ?_⟩
  · obtain ⟨⟨a1, a2⟩, a3, a4, a5⟩ := h.2.1 s hs
    have hk := (hA.2.2.1.2 s hs).1
    refine ⟨⟨(ev.2.1 s (by omega)).trans a1, fun j hj => ?_⟩, ?_, ?_, ?_⟩
    · obtain ⟨x1, x2⟩ := ev.2.2 (40 * s + j) (Or.inl (by omega))
      exact ⟨x1.trans (a2 j hj).1, x2.trans (a2 j hj).2⟩
    · rw [ev.1 55 (by decide) (by decide) (by decide)]; exact a3
    · rw [ev.1 56 (by decide) (by decide) (by decide), ev.1 57 (by decide) (by decide) (by decide), ev.1 58 (by decide) (by decide) (by decide)]; exact a4
    · rw [ev.1 56 (by decide) (by decide) (by decide), ev.1 57 (by decide) (by decide) (by decide), ev.1 58 (by decide) (by decide) (by decide)]; exact a5
  · rw [ev.1 55 (by decide) (by decide) (by decide), ev.1 56 (by decide) (by decide) (by decide)]; exact h.2.2 s q1 q2
theorem rM_told {A : AS} {S S' : Nat → Int32} {V V' : MV} {ct : Int64} (h : rM A S ct V) (hA : aOK A) (ev : frS (aS A) V V') (e3 : S' 3 = 0) (e6 : S' 6 = optI (parA A).1) (e : ∀ j, j ≠ 3 → j ≠ 6 → j ≠ 0 → j ≠ 5 → S' j = S j) : rM (toldA A) S' ct V' := by
  obtain ⟨h1, h2, h3, h4, h5, h6, h7, h8⟩ := h
  exact ⟨⟨e3, fun j hj => absurd hj (Nat.not_lt_zero j)⟩, h2.c (e 15 (by decide) (by decide) (by decide) (by decide)) (ev.1 59 (by decide) (by decide) (by decide)), h3.fr hA (e 7 (by decide) (by decide) (by decide) (by decide)) ev, h4.c (e 17 (by decide) (by decide) (by decide) (by decide)) (fun a q1 q2 => ev.1 a (by omega) (by omega) (by omega)), h5.c (e 24 (by decide) (by decide) (by decide) (by decide)) (ev.1 65 (by decide) (by decide) (by decide)) (ev.1 66 (by decide) (by decide) (by decide)), h6.c (e 1 (by decide) (by decide) (by decide) (by decide)) (e 2 (by decide) (by decide) (by decide) (by decide)) (e 27 (by decide) (by decide) (by decide) (by decide)) (e 28 (by decide) (by decide) (by decide) (by decide)) (ev.1 67 (by decide) (by decide) (by decide)), e6, (e 26 (by decide) (by decide) (by decide) (by decide)).trans h8⟩
theorem rM_newS {A : AS} {S S' : Nat → Int32} {V V' : MV} {ct : Int64} (h : rM A S ct V) (hA : aOK A) (hlt : aS A < 10) (ev : frS (aS A) V V') (e52 : V' 52 (aS A) = nI (parA A).2.1) (eL : ∀ j, j < (parA A).2.1 → V' 53 (40 * aS A + j) = nI ((parA A).2.2.1 j) ∧ V' 54 (40 * aS A + j) = nI ((parA A).2.2.2 j)) (e3 : S' 3 = 0) (e6 : S' 6 = optI (parA A).1) (e7 : S' 7 = nI (aS A + 1)) (e : ∀ j, j ≠ 3 → j ≠ 6 → j ≠ 0 → j ≠ 5 → j ≠ 7 → S' j = S j) : rM (setSc (toldA A) (aS A + 1, updS (aScr A) (aS A) (newS (parA A)))) S' ct V' := by
  have hT := rM_told (S' := upd S' 7 (S 7)) h hA ev e3 e6 (fun j q1 q2 q3 q4 => by
    by_cases z : j = 7
    · subst z; exact pk_us
    · rw [pk_un z]; exact e j q1 q2 q3 q4 z)
  obtain ⟨h1, h2, h3, h4, h5, h6, h7, h8⟩ := hT
  obtain ⟨b1, b2, b3⟩ := h3
  refine ⟨h1, h2, ⟨e7, fun s hs => ?_, fun s q1 q2 => b3 s (by have q1 : aS A + 1 ≤ s := q1; show aS A ≤ s; omega) q2⟩, h4, h5, h6, h7, h8⟩
  have hs : s < aS A + 1 := hs
  show rScr V' s (updS (aScr A) (aS A) (newS (parA A)) s)
  by_cases z : s = aS A
  · subst z
    rw [show updS (aScr A) (aS A) (newS (parA A)) (aS A) = newS (parA A) from if_pos rfl]
    obtain ⟨x1, x2, x3⟩ := b3 (aS A) (Nat.le_refl _) hlt
    exact ⟨⟨e52, eL⟩, x1, ⟨x2, fun j hj => absurd hj (Nat.not_lt_zero j)⟩, ⟨x3, fun j hj => absurd hj (Nat.not_lt_zero j)⟩⟩
  · rw [show updS (aScr A) (aS A) (newS (parA A)) s = aScr A s from if_neg z]
    exact b2 s (show s < aS A by omega)
set_option maxRecDepth 100000 in
set_option maxHeartbeats 1000000 in
theorem c_X7_read : Ct yX7_read cX7_read 2 (some .int) (xrm 3 0 0) (fun ad h av Q => ∃ g A S ct V, h = wM g ad S ct V ∧ rM A S ct V ∧ aOK A ∧ av = [.ref (ad (50, 0))] ∧ (∀ v B, readF A = (some v, B) → ∀ S' V', rM B S' ct V' → S' 0 = 0 → Q (some (.int v)) ad (wM g ad S' ct V')) ∧ (∀ B, readF A = (none, B) → ∀ S' V', rM B S' ct V' → S' 0 = 1 → Q (some (.int 0)) ad (wM g ad S' ct V'))) := by
  refine Ct.of (by decide) ?_
  intro p l e s m args below meth c0 G ad h av Q F hsp
  obtain ⟨g, A, S, ct, V, rfl, hR, hA, rfl, hQ, hQX⟩ := hsp
  have hR' := hR
  obtain ⟨⟨t1, t2⟩, _, ⟨s1, _, _⟩, _⟩ := hR'
  have hnS := hA.2.2.1.1
  refine ⟨x_ent rfl rfl, ?_⟩
  refine x_ls [(0, .ref (ad (50, 0)))] rfl ?_
  refine x_aload_n (q := 1) F dX7_read_0 rfl rfl (by first | exact xref_r | exact xref_n | exact xref_f _ | assumption) ?_
  refine x_callV0 (q := 4) F (50, 0) c_X7_reads dX7_read_1 rfl mv_X7_reads ml_X7_109 ⟨⟨xle rfl, xle rfl⟩, xle rfl, xle rfl⟩ rfl (wM_o _ _ _ _ _) (xle rfl) ?_
  refine ⟨g, S, ct, V, aNs A, aSg A, aS A, rfl, rfl, t1, s1, hnS, ⟨hA.1.1, hA.1.2, t2⟩, fun x V' lt nu k' hp hfr _ => ?_, fun x V' lt nu k' hp hfr e52 eL _ => ?_⟩
  · have hp : parA A = (some x, k', lt, nu) := hp
    refine x_istore_n (q := 5) F dX7_read_4 rfl (by decide) ?_
    refine x_aload_n (q := 6) F dX7_read_5 rfl rfl (by first | exact xref_r | exact xref_n | exact xref_f _ | assumption) ?_
    refine x_iconst (q := 7) (v := 0) F dX7_read_6 rfl (by decide) ?_
    refine x_mput (q := 10) F dX7_read_7 rfl fs_X7_92 (by decide) rfl rfl rfl ?_
    refine x_aload_n (q := 11) F dX7_read_10 rfl rfl (by first | exact xref_r | exact xref_n | exact xref_f _ | assumption) ?_
    refine x_iload_n (q := 12) F dX7_read_11 rfl rfl ?_
    refine x_if_eq (q := 15) F 19 dX7_read_12 (by decide) rfl (fun c12 => ?_) (fun c12 => ?_)
    · refine x_aload_n (q := 20) F dX7_read_19 rfl rfl (by first | exact xref_r | exact xref_n | exact xref_f _ | assumption) ?_
      refine x_mget (q := 23) F dX7_read_20 rfl fs_X7_95 rfl ?_
      refine x_mput (q := 26) F dX7_read_23 rfl fs_X7_13 (by decide) rfl rfl rfl ?_
      refine x_aload_n (q := 27) F dX7_read_26 rfl rfl (by first | exact xref_r | exact xref_n | exact xref_f _ | assumption) ?_
      refine x_iload_n (q := 28) F dX7_read_27 rfl rfl ?_
      refine x_if_eq (q := 31) F 35 dX7_read_28 (by decide) rfl (fun c28 => ?_) (fun c28 => ?_)
      · refine x_iconst (q := 36) (v := 1) F dX7_read_35 rfl (by decide) ?_
        refine x_mput (q := 39) F dX7_read_36 rfl fs_X7_79 (by decide) rfl rfl rfl ?_
        refine x_iload_n (q := 40) F dX7_read_39 rfl rfl ?_
        refine x_if_ne (q := 43) F 45 dX7_read_40 (by decide) rfl (fun c40 => ?_) (fun c40 => ?_)
        · exact absurd rfl c40
        · refine x_iconst (q := 44) (v := 0) F dX7_read_43 rfl (by decide) ?_
          refine x_iret F dX7_read_44 (xle rfl) (xle rfl) ?_
          exact hQX _ (readF_no (x := x) (by rw [hp])) _ _ (rM_told hR hA hfr rfl (by rw [hp]; rfl) (fun j q1 q2 q3 q4 => by rw [pk_un q3, pk_un q2, pk_un q1, pk_un q4])) rfl
      · exact absurd rfl c28
    · exact absurd rfl c12
  · have hp : parA A = (none, k', lt, nu) := hp
    have hp1 : (parA A).1 = none := by rw [hp]
    refine x_istore_n (q := 5) F dX7_read_4 rfl (by decide) ?_
    refine x_aload_n (q := 6) F dX7_read_5 rfl rfl (by first | exact xref_r | exact xref_n | exact xref_f _ | assumption) ?_
    refine x_iconst (q := 7) (v := 0) F dX7_read_6 rfl (by decide) ?_
    refine x_mput (q := 10) F dX7_read_7 rfl fs_X7_92 (by decide) rfl rfl rfl ?_
    refine x_aload_n (q := 11) F dX7_read_10 rfl rfl (by first | exact xref_r | exact xref_n | exact xref_f _ | assumption) ?_
    refine x_iload_n (q := 12) F dX7_read_11 rfl rfl ?_
    refine x_if_eq (q := 15) F 19 dX7_read_12 (by decide) rfl (fun c12 => ?_) (fun c12 => ?_)
    · exact absurd c12 (by decide)
    · refine x_iconst (q := 16) (v := -1) F dX7_read_15 rfl (by decide) ?_
      refine x_goto F 23 dX7_read_16 (by decide) ?_
      refine x_mput (q := 26) F dX7_read_23 rfl fs_X7_13 (by decide) rfl rfl rfl ?_
      refine x_aload_n (q := 27) F dX7_read_26 rfl rfl (by first | exact xref_r | exact xref_n | exact xref_f _ | assumption) ?_
      refine x_iload_n (q := 28) F dX7_read_27 rfl rfl ?_
      refine x_if_eq (q := 31) F 35 dX7_read_28 (by decide) rfl (fun c28 => ?_) (fun c28 => ?_)
      · exact absurd c28 (by decide)
      · refine x_iconst (q := 32) (v := 0) F dX7_read_31 rfl (by decide) ?_
        refine x_goto F 36 dX7_read_32 (by decide) ?_
        refine x_mput (q := 39) F dX7_read_36 rfl fs_X7_79 (by decide) rfl rfl rfl ?_
        refine x_iload_n (q := 40) F dX7_read_39 rfl rfl ?_
        refine x_if_ne (q := 43) F 45 dX7_read_40 (by decide) rfl (fun c40 => ?_) (fun c40 => ?_)
        · refine x_aload_n (q := 46) F dX7_read_45 rfl rfl (by first | exact xref_r | exact xref_n | exact xref_f _ | assumption) ?_
          refine x_mget (q := 49) F dX7_read_46 rfl fs_X7_82 rfl ?_
          refine x_topi (y := nI (aS A)) s1 ?_
          refine x_bipush (q := 51) (v := 10) F dX7_read_49 rfl (by decide) ?_
          refine x_icmp_ne (q := 54) F 57 dX7_read_51 (by decide) rfl (fun c51 => ?_) (fun c51 => ?_)
          · have hlt : aS A < 10 := by
              rcases Nat.lt_or_ge (aS A) 10 with q | q
              · exact q
              · exact absurd (show nI (aS A) = 10 by rw [show aS A = 10 by omega]; rfl) c51
            refine x_aload_n (q := 58) F dX7_read_57 rfl rfl (by first | exact xref_r | exact xref_n | exact xref_f _ | assumption) ?_
            refine x_dup (q := 59) F dX7_read_58 rfl rfl ?_
            refine x_mget (q := 62) F dX7_read_59 rfl fs_X7_82 rfl ?_
            refine x_topi (y := nI (aS A)) s1 ?_
            refine x_iconst (q := 63) (v := 1) F dX7_read_62 rfl (by decide) ?_
            refine x_iadd (q := 64) F dX7_read_63 rfl ?_
            refine x_topi (nI_1 _) ?_
            refine x_mput (q := 67) F dX7_read_64 rfl fs_X7_82 (by decide) rfl rfl rfl ?_
            refine x_aload_n (q := 68) F dX7_read_67 rfl rfl (by first | exact xref_r | exact xref_n | exact xref_f _ | assumption) ?_
            refine x_mget (q := 71) F dX7_read_68 rfl fs_X7_82 rfl ?_
            refine x_topi (y := nI (aS A + 1)) rfl ?_
            refine x_iconst (q := 72) (v := 1) F dX7_read_71 rfl (by decide) ?_
            refine x_isub (q := 73) F dX7_read_72 rfl ?_
            refine x_topi (nI_pred _) ?_
            refine x_iret F dX7_read_73 (xle rfl) (xle rfl) ?_
            exact hQ _ _ (readF_new hp1 (by omega)) _ _ (rM_newS hR hA hlt hfr (by rw [hp]; exact e52) (by rw [hp]; exact eL) rfl (by rw [hp]; rfl) rfl (fun j q1 q2 q3 q4 q5 => by rw [pk_un q5, pk_un q3, pk_un q2, pk_un q1, pk_un q4])) rfl
          · have h10 : aS A = 10 := (nI_eq (a := aS A) (b := 10) (by omega) (by omega)).mp c51
            refine x_bipush (q := 56) (v := -4) F dX7_read_54 rfl (by decide) ?_
            refine x_iret F dX7_read_56 (xle rfl) (xle rfl) ?_
            exact hQ _ _ (readF_full hp1 (by omega)) _ _ (rM_told hR hA hfr rfl (by rw [hp]; rfl) (fun j q1 q2 q3 q4 => by rw [pk_un q3, pk_un q2, pk_un q1, pk_un q4])) rfl
        · exact absurd c40 (by decide)
theorem rM_sign {A : AS} {S : Nat → Int32} {V : MV} {ct : Int64} (h : rM A S ct V) (x : Int32) : aNs A < 200 → rM (signF A x) (upd (upd S 0 0) 3 (nI (aNs A + 1))) ct (upV V 51 (aNs A) (vp_nar .byte x.toInt8.toInt32)) := by
  intro hlt
  unfold signF
  rw [if_pos hlt]
  obtain ⟨h1, h2, h3, h4, h5, h6, h7⟩ := h
  refine ⟨⟨rfl, fun j hj => ?_⟩, h2, h3, h4, h5, h6, h7⟩
  have hj : j < aNs A + 1 := hj
  show upV V 51 (aNs A) _ 51 j &&& 255 = nI (updN (aSg A) (aNs A) (lowB x) j)
  by_cases z : j = aNs A
  · subst z
    rw [upV_at, updN_self, mb_nar, mb_b, lowB_eq]
  · rw [upV_ne _ _ _ z, updN_ne _ _ z]
    exact h1.2 j (by omega)
theorem rM_octet {A : AS} {S : Nat → Int32} {V : MV} {ct : Int64} (h : rM A S ct V) (x : Int32) : aCn A < 40 → rM (octetF A x) (upd (upd S 0 0) 15 (nI (aCn A + 1))) ct (upV V 59 (aCn A) (vp_nar .byte x.toInt8.toInt32)) := by
  intro hlt
  unfold octetF
  rw [if_pos hlt]
  obtain ⟨h1, h2, h3, h4, h5, h6, h7⟩ := h
  refine ⟨h1, ⟨rfl, fun j hj => ?_⟩, h3, h4, h5, h6, h7⟩
  have hj : j < aCn A + 1 := hj
  show upV V 59 (aCn A) _ 59 j &&& 255 = nI (updN (aCb A) (aCn A) (lowB x) j)
  by_cases z : j = aCn A
  · subst z
    rw [upV_at, updN_self, mb_nar, mb_b, lowB_eq]
  · rw [upV_ne _ _ _ z, updN_ne _ _ z]
    exact h2.2 j (by omega)
