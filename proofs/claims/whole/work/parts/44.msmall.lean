/-! ===== the reference: goes, drop, about, at, tried, original, check ===== -/
theorem rN_gone {A : AS} {S : Nat → Int32} {V : MV} {ct : Int64} (h : rN A S ct V) {n : Nat} (hn : n < aI A) : rN (goneA A n) S ct (upV V 64 n 1) := by
  obtain ⟨h1, h2, h3, ⟨i1, i2, i3⟩, h6, h7⟩ := h
  refine ⟨h1, h2, h3, ⟨i1, fun j hj => ?_, fun j q1 q2 => ?_⟩, h6, h7⟩
  · have hj : j < aI A := hj
    show rItm (upV V 64 n 1) j (updI (aItm A) n (setGn (aItm A n) true) j)
    obtain ⟨a1, a2, a3, a4, a5⟩ := i2 j hj
    by_cases z : j = n
    · subst z
      rw [show updI (aItm A) j (setGn (aItm A j) true) j = setGn (aItm A j) true from if_pos rfl]
      exact ⟨a1, a2, a3, a4, upV_at V 64 j 1⟩
    · rw [show updI (aItm A) n (setGn (aItm A n) true) j = aItm A j from if_neg z]
      exact ⟨a1, a2, a3, a4, (upV_ne V 64 _ z).trans a5⟩
  · have q1 : aI A ≤ j := q1
    exact (upV_ne V 64 _ (by omega)).trans (i3 j q1 q2)
theorem rM_gone {A : AS} {S : Nat → Int32} {V : MV} {ct : Int64} (h : rM A S ct V) {n : Nat} (hn : n < aI A) : rM (goneA A n) S ct (upV V 64 n 1) := by
  refine (rN_gone h.n hn).m ?_
  obtain ⟨nb, bm, ob, b1, b2, b3, b4, b5, b6, b7, b8⟩ := h.2.2.2.2.1
  refine ⟨nb, bm, ob, b1, b2, b3, b4, b5, b6, b7, fun j hj => ?_⟩
  have hj : j < aI A := hj
  show V 65 j = nI (ob j) ∧ ob j ≤ nb ∧ (∀ k, k < aOb A → (ob j = bm k + 1 ↔ iBt (updI (aItm A) n (setGn (aItm A n) true) j) = some k)) ∧ ∀ k, iBt (updI (aItm A) n (setGn (aItm A n) true) j) = some k → k < aOb A
  by_cases z : j = n
  · subst z
    rw [show updI (aItm A) j (setGn (aItm A j) true) j = setGn (aItm A j) true from if_pos rfl]
    exact b8 j hj
  · rw [show updI (aItm A) n (setGn (aItm A n) true) j = aItm A j from if_neg z]
    exact b8 j hj
set_option maxRecDepth 100000 in
theorem c_X7_goes : Ct yX7_goes cX7_goes 2 (some .boolean) (xrm 1 0 0) (fun ad h av Q => ∃ g A S ct V i, h = wM g ad S ct V ∧ rN A S ct V ∧ aOK A ∧ av = [.ref (ad (50, 0)), .int (nI i)] ∧ i < aI A ∧ (hasDer A i = true → Q (some (.int 0)) ad h) ∧ (hasDer A i = false → Q (some (.int 1)) ad (wM g ad S ct (upV V 64 i 1)))) := by
  refine Ct.of (by decide) ?_
  intro p l e s m args below meth c0 G ad h av Q F hsp
  obtain ⟨g, A, S, ct, V, i, rfl, hR, hA, rfl, hi, hQ0, hQ1⟩ := hsp
  have hnI := hA.2.2.2.1.1
  refine ⟨x_ent rfl rfl, ?_⟩
  refine x_ls [(0, .ref (ad (50, 0))), (1, .int (nI i))] rfl ?_
  refine x_aload_n (q := 1) F dX7_goes_0 rfl rfl (by first | exact xref_r | exact xref_n | exact xref_f _ | assumption) ?_
  refine x_iload_n (q := 2) F dX7_goes_1 rfl rfl ?_
  refine x_iconst (q := 3) (v := -1) F dX7_goes_2 rfl (by decide) ?_
  refine x_callV2 (q := 6) F (50, 0) c_X7_hasDerived dX7_goes_3 rfl mv_X7_hasDerived ml_X7_135 ⟨⟨xle rfl, xle rfl⟩, xle rfl, xle rfl⟩ rfl (wM_o _ _ _ _ _) (xle rfl) ?_
  refine ⟨g, A, S, ct, V, i, none, rfl, hR.2.2.2.1, hA, rfl, by omega, fun x hx => (by cases hx), fun _ => ?_⟩
  rw [anyB_none]
  refine x_if_eq (q := 9) F 11 dX7_goes_6 (by decide) rfl (fun c6 => ?_) (fun c6 => ?_)
  · refine x_aload_n (q := 12) F dX7_goes_11 rfl rfl (by first | exact xref_r | exact xref_n | exact xref_f _ | assumption) ?_
    refine x_mget (q := 15) F dX7_goes_12 rfl fs_X7_54 rfl ?_
    refine x_iload_n (q := 16) F dX7_goes_15 rfl rfl ?_
    refine x_iconst (q := 17) (v := 1) F dX7_goes_16 rfl (by decide) ?_
    refine x_mzst (q := 18) F dX7_goes_17 rfl rfl (by decide) (by decide) rfl (by omega) ?_
    refine x_iconst (q := 19) (v := 1) F dX7_goes_18 rfl (by decide) ?_
    refine x_zret F dX7_goes_19 (xle rfl) (xle rfl) (by first | exact Or.inl rfl | exact Or.inr rfl) ?_
    exact hQ1 (bI_1 c6)
  · refine x_iconst (q := 10) (v := 0) F dX7_goes_9 rfl (by decide) ?_
    refine x_zret F dX7_goes_10 (xle rfl) (xle rfl) (by first | exact Or.inl rfl | exact Or.inr rfl) ?_
    exact hQ0 (bI_0 c6)
set_option maxRecDepth 100000 in
theorem c_X7_drop : Ct yX7_drop cX7_drop 2 (some .int) (xrm 2 0 0) (fun ad h av Q => ∃ g A S ct V x, h = wM g ad S ct V ∧ rM A S ct V ∧ aOK A ∧ av = [.ref (ad (50, 0)), .int x] ∧ ∀ S' ct' V', rM (dropF A x).2 S' ct' V' → Q (some (.int (dropF A x).1)) ad (wM g ad S' ct' V')) := by
  refine Ct.of (by decide) ?_
  intro p l e s m args below meth c0 G ad h av Q F hsp
  obtain ⟨g, A, S, ct, V, x, rfl, hR, hA, rfl, hQ⟩ := hsp
  have hnI := hA.2.2.2.1.1
  have r4 := hR.2.2.2.1
  refine ⟨x_ent rfl rfl, ?_⟩
  refine x_ls [(0, .ref (ad (50, 0))), (1, .int x)] rfl ?_
  have hR0 : rM A (upd S 0 0) ct V := hR
  refine x_aload_n (q := 1) F dX7_drop_0 rfl rfl (by first | exact xref_r | exact xref_n | exact xref_f _ | assumption) ?_
  refine x_iconst (q := 2) (v := 0) F dX7_drop_1 rfl (by decide) ?_
  refine x_mput (q := 5) F dX7_drop_2 rfl fs_X7_79 (by decide) rfl rfl rfl ?_
  refine x_aload_n (q := 6) F dX7_drop_5 rfl rfl (by first | exact xref_r | exact xref_n | exact xref_f _ | assumption) ?_
  refine x_iload_n (q := 7) F dX7_drop_6 rfl rfl ?_
  refine x_callV1 (q := 10) F (50, 0) c_X7_isItem dX7_drop_7 rfl mv_X7_isItem ml_X7_146 ⟨⟨xle rfl, xle rfl⟩, xle rfl, xle rfl⟩ rfl (wM_o _ _ _ _ _) (xle rfl) ?_
  refine ⟨g, upd S 0 0, ct, V, aI A, x, rfl, rfl, r4.1, by omega, fun _ => ?_⟩
  unfold dropF liveN at hQ
  cases hx : ixN (aI A) x with
  | none =>
    rw [hx] at hQ
    refine x_if_eq (q := 13) F 22 dX7_drop_10 (by decide) rfl (fun c10 => ?_) (fun c10 => ?_)
    · refine x_iconst (q := 23) (v := -1) F dX7_drop_22 rfl (by decide) ?_
      refine x_iret F dX7_drop_23 (xle rfl) (xle rfl) ?_
      exact hQ _ _ _ hR0
    · exact absurd rfl c10
  | some i =>
    rw [hx] at hQ
    obtain ⟨hi, rfl⟩ := ixN_some (by omega) hx
    have hOK := hA.2.2.2.1.2 i hi
    obtain ⟨a1, a2, a3, a4, a5⟩ := r4.2.1 i hi
    replace hQ : ∀ S' ct' V', rM (match (if iGn (aItm A i) = true then none else some i) with | none => ((-1 : Int32), A) | some i => if iFr (aItm A i) = none ∨ hasDer A i = true then (-3, A) else (1, goneA A i)).2 S' ct' V' → Q (some (.int (match (if iGn (aItm A i) = true then none else some i) with | none => ((-1 : Int32), A) | some i => if iFr (aItm A i) = none ∨ hasDer A i = true then (-3, A) else (1, goneA A i)).1)) ad (wM g ad S' ct' V') := hQ
    refine x_if_eq (q := 13) F 22 dX7_drop_10 (by decide) rfl (fun c10 => ?_) (fun c10 => ?_)
    · exact absurd (show (1 : Int32) = 0 from c10) (by decide)
    · refine x_aload_n (q := 14) F dX7_drop_13 rfl rfl (by first | exact xref_r | exact xref_n | exact xref_f _ | assumption) ?_
      refine x_mget (q := 17) F dX7_drop_14 rfl fs_X7_54 rfl ?_
      refine x_iload_n (q := 18) F dX7_drop_17 rfl rfl ?_
      refine x_mzld (q := 19) F dX7_drop_18 rfl rfl (by decide) (by decide) rfl (by omega) ?_
      refine x_topi a5 ?_
      refine x_if_eq (q := 22) F 24 dX7_drop_19 (by decide) rfl (fun c19 => ?_) (fun c19 => ?_)
      · rw [if_neg (by rw [bI_1 c19]; decide)] at hQ
        replace hQ : ∀ S' ct' V', rM (if iFr (aItm A i) = none ∨ hasDer A i = true then ((-3 : Int32), A) else (1, goneA A i)).2 S' ct' V' → Q (some (.int (if iFr (aItm A i) = none ∨ hasDer A i = true then ((-3 : Int32), A) else (1, goneA A i)).1)) ad (wM g ad S' ct' V') := hQ
        refine x_aload_n (q := 25) F dX7_drop_24 rfl rfl (by first | exact xref_r | exact xref_n | exact xref_f _ | assumption) ?_
        refine x_mget (q := 28) F dX7_drop_25 rfl fs_X7_48 rfl ?_
        refine x_iload_n (q := 29) F dX7_drop_28 rfl rfl ?_
        refine x_mild (q := 30) F dX7_drop_29 rfl rfl (by decide) (by decide) rfl (by omega) ?_
        refine x_topi a3 ?_
        refine x_if_lt (q := 33) F 45 dX7_drop_30 (by decide) rfl (fun c30 => ?_) (fun c30 => ?_)
        · have hno : iFr (aItm A i) = none := by
            cases hf : iFr (aItm A i) with
            | none => rfl
            | some v =>
              rw [hf] at c30
              exact absurd c30 (nI_pos (by have := hOK.2.2.1 v hf; omega))
          rw [if_pos (Or.inl hno)] at hQ
          refine x_bipush (q := 47) (v := -3) F dX7_drop_45 rfl (by decide) ?_
          refine x_iret F dX7_drop_47 (xle rfl) (xle rfl) ?_
          exact hQ _ _ _ hR0
        · have hyes : iFr (aItm A i) ≠ none := fun z => c30 (by rw [z]; decide)
          refine x_aload_n (q := 34) F dX7_drop_33 rfl rfl (by first | exact xref_r | exact xref_n | exact xref_f _ | assumption) ?_
          refine x_iload_n (q := 35) F dX7_drop_34 rfl rfl ?_
          refine x_callV1 (q := 38) F (50, 0) c_X7_goes dX7_drop_35 rfl mv_X7_goes ml_X7_161 ⟨⟨xle rfl, xle rfl⟩, xle rfl, xle rfl⟩ rfl (wM_o _ _ _ _ _) (xle rfl) ?_
          refine ⟨g, A, upd S 0 0, ct, V, i, rfl, hR0.n, hA, rfl, hi, fun hd _ => ?_, fun hd _ => ?_⟩
          · rw [if_pos (Or.inr hd)] at hQ
            refine x_if_eq (q := 41) F 45 dX7_drop_38 (by decide) rfl (fun c38 => ?_) (fun c38 => ?_)
            · refine x_bipush (q := 47) (v := -3) F dX7_drop_45 rfl (by decide) ?_
              refine x_iret F dX7_drop_47 (xle rfl) (xle rfl) ?_
              exact hQ _ _ _ hR0
            · exact absurd rfl c38
          · rw [if_neg (fun z => by rcases z with z | z; exact hyes z; rw [hd] at z; cases z)] at hQ
            refine x_if_eq (q := 41) F 45 dX7_drop_38 (by decide) rfl (fun c38 => ?_) (fun c38 => ?_)
            · exact absurd c38 (by decide)
            · refine x_iconst (q := 42) (v := 1) F dX7_drop_41 rfl (by decide) ?_
              refine x_goto F 47 dX7_drop_42 (by decide) ?_
              refine x_iret F dX7_drop_47 (xle rfl) (xle rfl) ?_
              exact hQ _ _ _ (rM_gone hR0 hi)
      · rw [if_pos (bI_0 c19)] at hQ
        refine x_iconst (q := 23) (v := -1) F dX7_drop_22 rfl (by decide) ?_
        refine x_iret F dX7_drop_23 (xle rfl) (xle rfl) ?_
        exact hQ _ _ _ hR0
/-- the original that an item goes back to -/
def rtOK (A : AS) : Prop := ∀ i, i < aI A → (iFr (aItm A i) = none → iRt (aItm A i) = i) ∧ ∀ x, iFr (aItm A i) = some x → iRt (aItm A i) = iRt (aItm A x)
set_option maxRecDepth 100000 in
set_option maxHeartbeats 1000000 in
theorem c_X7_about : Ct yX7_about cX7_about 4 (some .int) (xrm 2 0 0) (fun ad h av Q => ∃ g A S ct V x y, h = wM g ad S ct V ∧ rM A S ct V ∧ aOK A ∧ rtOK A ∧ av = [.ref (ad (50, 0)), .int x, .int y] ∧ Q (some (.int (aboutF A x y))) ad (wM g ad (upd S 0 0) ct V)) := by
  refine Ct.of (by decide) ?_
  intro p l e s m args below meth c0 G ad h av Q F hsp
  obtain ⟨g, A, S, ct, V, x, y, rfl, hR, hA, hrt, rfl, hQ⟩ := hsp
  have hnI := hA.2.2.2.1.1
  have r4 := hR.2.2.2.1
  refine ⟨x_ent rfl rfl, ?_⟩
  refine x_ls [(0, .ref (ad (50, 0))), (1, .int x), (2, .int y)] rfl ?_
  refine x_aload_n (q := 1) F dX7_about_0 rfl rfl (by first | exact xref_r | exact xref_n | exact xref_f _ | assumption) ?_
  refine x_iconst (q := 2) (v := 0) F dX7_about_1 rfl (by decide) ?_
  refine x_mput (q := 5) F dX7_about_2 rfl fs_X7_79 (by decide) rfl rfl rfl ?_
  refine x_aload_n (q := 6) F dX7_about_5 rfl rfl (by first | exact xref_r | exact xref_n | exact xref_f _ | assumption) ?_
  refine x_iload_n (q := 7) F dX7_about_6 rfl rfl ?_
  refine x_callV1 (q := 10) F (50, 0) c_X7_isItem dX7_about_7 rfl mv_X7_isItem ml_X7_146 ⟨⟨xle rfl, xle rfl⟩, xle rfl, xle rfl⟩ rfl (wM_o _ _ _ _ _) (xle rfl) ?_
  refine ⟨g, upd S 0 0, ct, V, aI A, x, rfl, rfl, r4.1, by omega, fun _ => ?_⟩
  unfold aboutF at hQ
  cases hx : ixN (aI A) x with
  | none =>
    rw [hx] at hQ
    refine x_if_ne (q := 13) F 15 dX7_about_10 (by decide) rfl (fun c10 => ?_) (fun c10 => ?_)
    · exact absurd rfl c10
    · refine x_iconst (q := 14) (v := -1) F dX7_about_13 rfl (by decide) ?_
      refine x_iret F dX7_about_14 (xle rfl) (xle rfl) ?_
      exact hQ
  | some i =>
    rw [hx] at hQ
    obtain ⟨hi, rfl⟩ := ixN_some (by omega) hx
    obtain ⟨a1, a2, a3, a4, a5⟩ := r4.2.1 i hi
    replace hQ : Q (some (.int (if y = 0 then nI (iN (aItm A i)) else if y = 1 then optI (iFr (aItm A i)) else if y = 2 then optI (iBy (aItm A i)) else if y = 3 then bI (iGn (aItm A i)) else if y = 4 then nI (iRt (aItm A i)) else -1))) ad (wM g ad (upd S 0 0) ct V) := hQ
    refine x_if_ne (q := 13) F 15 dX7_about_10 (by decide) rfl (fun c10 => ?_) (fun c10 => ?_)
    · refine x_iload_n (q := 16) F dX7_about_15 rfl rfl ?_
      rcases pk_ix y (n := 5) (by omega) with zy | zy | ⟨j, hj, rfl⟩
      · refine x_tableOut F 111 dX7_about_16 (Or.inl ?_) (by decide) ?_
        · have := Int32.lt_iff_toInt_lt.mp zy; simpa using this
        have hne : ∀ k : Nat, k < 5 → y ≠ nI k := fun k hk z => absurd zy (by rw [z]; exact nI_pos (by omega))
        rw [if_neg (show ¬ y = 0 from hne 0 (by omega)), if_neg (show ¬ y = 1 from hne 1 (by omega)), if_neg (show ¬ y = 2 from hne 2 (by omega)), if_neg (show ¬ y = 3 from hne 3 (by omega)), if_neg (show ¬ y = 4 from hne 4 (by omega))] at hQ
        refine x_iconst (q := 112) (v := -1) F dX7_about_111 rfl (by decide) ?_
        refine x_iret F dX7_about_112 (xle rfl) (xle rfl) ?_
        exact hQ
      · have h5 := Int32.le_iff_toInt_le.mp zy
        rw [nI_toInt (by omega)] at h5
        refine x_tableOut F 111 dX7_about_16 (Or.inr (by omega)) (by decide) ?_
        have hne : ∀ k : Nat, k < 5 → y ≠ nI k := fun k hk z => by rw [z, nI_toInt (by omega)] at h5; omega
        rw [if_neg (show ¬ y = 0 from hne 0 (by omega)), if_neg (show ¬ y = 1 from hne 1 (by omega)), if_neg (show ¬ y = 2 from hne 2 (by omega)), if_neg (show ¬ y = 3 from hne 3 (by omega)), if_neg (show ¬ y = 4 from hne 4 (by omega))] at hQ
        refine x_iconst (q := 112) (v := -1) F dX7_about_111 rfl (by decide) ?_
        refine x_iret F dX7_about_112 (xle rfl) (xle rfl) ?_
        exact hQ
      · rcases (show j = 0 ∨ j = 1 ∨ j = 2 ∨ j = 3 ∨ j = 4 by omega) with rfl | rfl | rfl | rfl | rfl
        · refine x_tableIn F 52 dX7_about_16 (by decide) (by decide) (off := 36) (by decide) (by decide) ?_
          refine x_aload_n (q := 53) F dX7_about_52 rfl rfl (by first | exact xref_r | exact xref_n | exact xref_f _ | assumption) ?_
          refine x_mget (q := 56) F dX7_about_53 rfl fs_X7_42 rfl ?_
          refine x_iload_n (q := 57) F dX7_about_56 rfl rfl ?_
          refine x_mild (q := 58) F dX7_about_57 rfl rfl (by decide) (by decide) rfl (by omega) ?_
          refine x_topi a1 ?_
          refine x_iret F dX7_about_58 (xle rfl) (xle rfl) ?_
          exact hQ
        · refine x_tableIn F 59 dX7_about_16 (by decide) (by decide) (off := 43) (by decide) (by decide) ?_
          refine x_aload_n (q := 60) F dX7_about_59 rfl rfl (by first | exact xref_r | exact xref_n | exact xref_f _ | assumption) ?_
          refine x_mget (q := 63) F dX7_about_60 rfl fs_X7_48 rfl ?_
          refine x_iload_n (q := 64) F dX7_about_63 rfl rfl ?_
          refine x_mild (q := 65) F dX7_about_64 rfl rfl (by decide) (by decide) rfl (by omega) ?_
          refine x_topi a3 ?_
          refine x_iret F dX7_about_65 (xle rfl) (xle rfl) ?_
          exact hQ
        · refine x_tableIn F 66 dX7_about_16 (by decide) (by decide) (off := 50) (by decide) (by decide) ?_
          refine x_aload_n (q := 67) F dX7_about_66 rfl rfl (by first | exact xref_r | exact xref_n | exact xref_f _ | assumption) ?_
          refine x_mget (q := 70) F dX7_about_67 rfl fs_X7_51 rfl ?_
          refine x_iload_n (q := 71) F dX7_about_70 rfl rfl ?_
          refine x_mild (q := 72) F dX7_about_71 rfl rfl (by decide) (by decide) rfl (by omega) ?_
          refine x_topi a4 ?_
          refine x_iret F dX7_about_72 (xle rfl) (xle rfl) ?_
          exact hQ
        · replace hQ : Q (some (.int (bI (iGn (aItm A i))))) ad (wM g ad (upd S 0 0) ct V) := hQ
          refine x_tableIn F 73 dX7_about_16 (by decide) (by decide) (off := 57) (by decide) (by decide) ?_
          refine x_aload_n (q := 74) F dX7_about_73 rfl rfl (by first | exact xref_r | exact xref_n | exact xref_f _ | assumption) ?_
          refine x_mget (q := 77) F dX7_about_74 rfl fs_X7_54 rfl ?_
          refine x_iload_n (q := 78) F dX7_about_77 rfl rfl ?_
          refine x_mzld (q := 79) F dX7_about_78 rfl rfl (by decide) (by decide) rfl (by omega) ?_
          refine x_topi a5 ?_
          refine x_if_eq (q := 82) F 86 dX7_about_79 (by decide) rfl (fun c79 => ?_) (fun c79 => ?_)
          · rw [bI_1 c79] at hQ
            refine x_iconst (q := 87) (v := 0) F dX7_about_86 rfl (by decide) ?_
            refine x_iret F dX7_about_87 (xle rfl) (xle rfl) ?_
            exact hQ
          · rw [bI_0 c79] at hQ
            refine x_iconst (q := 83) (v := 1) F dX7_about_82 rfl (by decide) ?_
            refine x_goto F 87 dX7_about_83 (by decide) ?_
            refine x_iret F dX7_about_87 (xle rfl) (xle rfl) ?_
            exact hQ
        · replace hQ : Q (some (.int (nI (iRt (aItm A i))))) ad (wM g ad (upd S 0 0) ct V) := hQ
          refine x_tableIn F 88 dX7_about_16 (by decide) (by decide) (off := 72) (by decide) (by decide) ?_
          have loop : ∀ d k, k ≤ d → k < aI A → iRt (aItm A k) = iRt (aItm A i) → xX p l e (xrm 2 0 0) s m args below meth c0 G ad (wM g ad S ct V) 4 (xZ below G ad (wM g ad S ct V) Q args s (xrm 2 0 0)) 90 [(0, .ref (ad (50, 0))), (3, .int (nI k))] [] ad (wM g ad (upd S 0 0) ct V) 0 0 := by
            intro d
            induction d with
            | zero =>
              intro k hk hk2 hr
              have hk0 : k = 0 := by omega
              subst hk0
              have hno : iFr (aItm A 0) = none := by
                cases hf : iFr (aItm A 0) with
                | none => rfl
                | some v => have := (hA.2.2.2.1.2 0 hk2).2.2.1 v hf; omega
              refine x_aload_n (q := 91) F dX7_about_90 rfl rfl (by first | exact xref_r | exact xref_n | exact xref_f _ | assumption) ?_
              refine x_mget (q := 94) F dX7_about_91 rfl fs_X7_48 rfl ?_
              refine x_iload_n (q := 95) F dX7_about_94 rfl rfl ?_
              refine x_mild (q := 96) F dX7_about_95 rfl rfl (by decide) (by decide) rfl (by omega) ?_
              refine x_topi (r4.2.1 0 hk2).2.2.1 ?_
              rw [hno]
              refine x_if_lt (q := 99) F 109 dX7_about_96 (by decide) rfl (fun c96 => ?_) (fun c96 => ?_)
              · refine x_iload_n (q := 110) F dX7_about_109 rfl rfl ?_
                refine x_iret F dX7_about_110 (xle rfl) (xle rfl) ?_
                rw [← hr, (hrt 0 hk2).1 hno] at hQ
                exact hQ
              · exact absurd (by decide) c96
            | succ d ih =>
              intro k hk hk2 hr
              refine x_aload_n (q := 91) F dX7_about_90 rfl rfl (by first | exact xref_r | exact xref_n | exact xref_f _ | assumption) ?_
              refine x_mget (q := 94) F dX7_about_91 rfl fs_X7_48 rfl ?_
              refine x_iload_n (q := 95) F dX7_about_94 rfl rfl ?_
              refine x_mild (q := 96) F dX7_about_95 rfl rfl (by decide) (by decide) rfl (by omega) ?_
              refine x_topi (r4.2.1 k hk2).2.2.1 ?_
              cases hf : iFr (aItm A k) with
              | none =>
                refine x_if_lt (q := 99) F 109 dX7_about_96 (by decide) rfl (fun c96 => ?_) (fun c96 => ?_)
                · refine x_iload_n (q := 110) F dX7_about_109 rfl rfl ?_
                  refine x_iret F dX7_about_110 (xle rfl) (xle rfl) ?_
                  rw [← hr, (hrt k hk2).1 hf] at hQ
                  exact hQ
                · exact absurd (by decide) c96
              | some v =>
                have hv := (hA.2.2.2.1.2 k hk2).2.2.1 v hf
                refine x_if_lt (q := 99) F 109 dX7_about_96 (by decide) rfl (fun c96 => ?_) (fun c96 => ?_)
                · exact absurd c96 (nI_pos (by omega))
                · refine x_aload_n (q := 100) F dX7_about_99 rfl rfl (by first | exact xref_r | exact xref_n | exact xref_f _ | assumption) ?_
                  refine x_mget (q := 103) F dX7_about_100 rfl fs_X7_48 rfl ?_
                  refine x_iload_n (q := 104) F dX7_about_103 rfl rfl ?_
                  refine x_mild (q := 105) F dX7_about_104 rfl rfl (by decide) (by decide) rfl (by omega) ?_
                  refine x_topi (y := nI v) (by rw [(r4.2.1 k hk2).2.2.1, hf]; rfl) ?_
                  refine x_istore_n (q := 106) F dX7_about_105 rfl (by decide) ?_
                  refine x_goto F 90 dX7_about_106 (by decide) ?_
                  refine x_ls [(0, .ref (ad (50, 0))), (3, .int (nI v))] rfl ?_
                  exact ih v (by omega) (by omega) (((hrt k hk2).2 v hf).symm.trans hr)
          refine x_iload_n (q := 89) F dX7_about_88 rfl rfl ?_
          refine x_istore_n (q := 90) F dX7_about_89 rfl (by decide) ?_
          refine x_ls [(0, .ref (ad (50, 0))), (3, .int (nI i))] rfl ?_
          exact loop i i (Nat.le_refl _) hi rfl
    · exact absurd (show (1 : Int32) = 0 from c10) (by decide)
set_option maxRecDepth 100000 in
theorem c_X7_at : Ct yX7_at cX7_at 3 (some .int) (xrm 2 0 0) (fun ad h av Q => ∃ g A S ct V x y, h = wM g ad S ct V ∧ rM A S ct V ∧ aOK A ∧ av = [.ref (ad (50, 0)), .int x, .int y] ∧ (∀ v, atF A x y = some v → Q (some (.int v)) ad (wM g ad (upd S 0 0) ct V)) ∧ (atF A x y = none → Q (some (.int 0)) ad (wM g ad (upd S 0 1) ct V))) := by
  refine Ct.of (by decide) ?_
  intro p l e s m args below meth c0 G ad h av Q F hsp
  obtain ⟨g, A, S, ct, V, x, y, rfl, hR, hA, rfl, hQ, hQX⟩ := hsp
  have hnI := hA.2.2.2.1.1
  have r4 := hR.2.2.2.1
  refine ⟨x_ent rfl rfl, ?_⟩
  refine x_ls [(0, .ref (ad (50, 0))), (1, .int x), (2, .int y)] rfl ?_
  refine x_aload_n (q := 1) F dX7_at_0 rfl rfl (by first | exact xref_r | exact xref_n | exact xref_f _ | assumption) ?_
  refine x_iconst (q := 2) (v := 0) F dX7_at_1 rfl (by decide) ?_
  refine x_mput (q := 5) F dX7_at_2 rfl fs_X7_79 (by decide) rfl rfl rfl ?_
  refine x_aload_n (q := 6) F dX7_at_5 rfl rfl (by first | exact xref_r | exact xref_n | exact xref_f _ | assumption) ?_
  refine x_iload_n (q := 7) F dX7_at_6 rfl rfl ?_
  refine x_callV1 (q := 10) F (50, 0) c_X7_isItem dX7_at_7 rfl mv_X7_isItem ml_X7_146 ⟨⟨xle rfl, xle rfl⟩, xle rfl, xle rfl⟩ rfl (wM_o _ _ _ _ _) (xle rfl) ?_
  refine ⟨g, upd S 0 0, ct, V, aI A, x, rfl, rfl, r4.1, by omega, fun _ => ?_⟩
  unfold atF at hQ hQX
  cases hx : ixN (aI A) x with
  | none =>
    rw [hx] at hQ
    refine x_if_ne (q := 13) F 15 dX7_at_10 (by decide) rfl (fun c10 => ?_) (fun c10 => ?_)
    · exact absurd rfl c10
    · refine x_iconst (q := 14) (v := -1) F dX7_at_13 rfl (by decide) ?_
      refine x_iret F dX7_at_14 (xle rfl) (xle rfl) ?_
      exact hQ _ rfl
  | some i =>
    rw [hx] at hQ hQX
    obtain ⟨hi, rfl⟩ := ixN_some (by omega) hx
    obtain ⟨a1, a2, a3, a4, a5⟩ := r4.2.1 i hi
    have hOK := hA.2.2.2.1.2 i hi
    have hn := hOK.1
    replace hQ : ∀ v, (match ixN (iN (aItm A i)) y with | none => none | some j => some (nI (iB (aItm A i) j))) = some v → Q (some (.int v)) ad (wM g ad (upd S 0 0) ct V) := hQ
    replace hQX : (match ixN (iN (aItm A i)) y with | none => none | some j => some (nI (iB (aItm A i) j))) = none → Q (some (.int 0)) ad (wM g ad (upd S 0 1) ct V) := hQX
    refine x_if_ne (q := 13) F 15 dX7_at_10 (by decide) rfl (fun c10 => ?_) (fun c10 => ?_)
    · refine x_aload_n (q := 16) F dX7_at_15 rfl rfl (by first | exact xref_r | exact xref_n | exact xref_f _ | assumption) ?_
      refine x_iload_n (q := 17) F dX7_at_16 rfl rfl ?_
      refine x_iconst (q := 18) (v := 0) F dX7_at_17 rfl (by decide) ?_
      refine x_aload_n (q := 19) F dX7_at_18 rfl rfl (by first | exact xref_r | exact xref_n | exact xref_f _ | assumption) ?_
      refine x_mget (q := 22) F dX7_at_19 rfl fs_X7_42 rfl ?_
      refine x_iload_n (q := 23) F dX7_at_22 rfl rfl ?_
      refine x_mild (q := 24) F dX7_at_23 rfl rfl (by decide) (by decide) rfl (by omega) ?_
      refine x_topi a1 ?_
      refine x_iconst (q := 25) (v := 1) F dX7_at_24 rfl (by decide) ?_
      refine x_isub (q := 26) F dX7_at_25 rfl ?_
      refine x_callS3 (q := 29) F c_X7_in dX7_at_26 rfl ms_X7_in ml_X7_85 ⟨⟨xle rfl, xle rfl⟩, xle rfl, xle rfl⟩ (xle rfl) ?_
      refine ⟨y, 0, nI (iN (aItm A i)) - 1, rfl, fun _ => ?_⟩
      rw [inB_ix (by omega)]
      cases hy : ixN (iN (aItm A i)) y with
      | none =>
        rw [hy] at hQX
        replace hQX := hQX rfl
        refine x_if_eq (q := 32) F 36 dX7_at_29 (by decide) rfl (fun c29 => ?_) (fun c29 => ?_)
        · refine x_iconst (q := 37) (v := 1) F dX7_at_36 rfl (by decide) ?_
          refine x_mput (q := 40) F dX7_at_37 rfl fs_X7_79 (by decide) rfl rfl rfl ?_
          rw [upd_upd]
          refine x_aload_n (q := 41) F dX7_at_40 rfl rfl (by first | exact xref_r | exact xref_n | exact xref_f _ | assumption) ?_
          refine x_mget (q := 44) F dX7_at_41 rfl fs_X7_79 rfl ?_
          refine x_if_le (q := 47) F 51 dX7_at_44 (by decide) rfl (fun c44 => ?_) (fun c44 => ?_)
          · exact absurd (show (1 : Int32) ≤ 0 from c44) (by decide)
          · refine x_iconst (q := 48) (v := 0) F dX7_at_47 rfl (by decide) ?_
            refine x_goto F 66 dX7_at_48 (by decide) ?_
            refine x_iret F dX7_at_66 (xle rfl) (xle rfl) ?_
            exact hQX
        · exact absurd rfl c29
      | some j =>
        rw [hy] at hQ
        obtain ⟨hj, rfl⟩ := ixN_some (by omega) hy
        replace hQ := hQ _ rfl
        refine x_if_eq (q := 32) F 36 dX7_at_29 (by decide) rfl (fun c29 => ?_) (fun c29 => ?_)
        · exact absurd (show (1 : Int32) = 0 from c29) (by decide)
        · refine x_iconst (q := 33) (v := 0) F dX7_at_32 rfl (by decide) ?_
          refine x_goto F 37 dX7_at_33 (by decide) ?_
          refine x_mput (q := 40) F dX7_at_37 rfl fs_X7_79 (by decide) rfl rfl rfl ?_
          rw [upd_upd]
          refine x_aload_n (q := 41) F dX7_at_40 rfl rfl (by first | exact xref_r | exact xref_n | exact xref_f _ | assumption) ?_
          refine x_mget (q := 44) F dX7_at_41 rfl fs_X7_79 rfl ?_
          refine x_if_le (q := 47) F 51 dX7_at_44 (by decide) rfl (fun c44 => ?_) (fun c44 => ?_)
          · refine x_aload_n (q := 52) F dX7_at_51 rfl rfl (by first | exact xref_r | exact xref_n | exact xref_f _ | assumption) ?_
            refine x_mget (q := 55) F dX7_at_52 rfl fs_X7_45 rfl ?_
            refine x_bipush (q := 57) (v := 40) F dX7_at_55 rfl (by decide) ?_
            refine x_iload_n (q := 58) F dX7_at_57 rfl rfl ?_
            refine x_imul (q := 59) F dX7_at_58 rfl ?_
            refine x_topi (pk_mul 40 i) ?_
            refine x_iload_n (q := 60) F dX7_at_59 rfl rfl ?_
            refine x_iadd (q := 61) F dX7_at_60 rfl ?_
            refine x_topi (nI_add _ _) ?_
            refine x_mbld (q := 62) F dX7_at_61 rfl rfl (by decide) (by decide) rfl (by omega) ?_
            refine x_sipush (q := 65) (v := 255) F dX7_at_62 rfl (by decide) ?_
            refine x_iand (q := 66) F dX7_at_65 rfl ?_
            refine x_topi (a2 j hj) ?_
            refine x_iret F dX7_at_66 (xle rfl) (xle rfl) ?_
            exact hQ
          · exact absurd (show (0 : Int32) ≤ 0 by decide) c44
    · exact absurd (show (1 : Int32) = 0 from c10) (by decide)
set_option maxRecDepth 100000 in
theorem c_X7_tried : Ct yX7_tried cX7_tried 2 (some .int) (xrm 1 0 0) (fun ad h av Q => ∃ g A S ct V x, h = wM g ad S ct V ∧ rM A S ct V ∧ aOK A ∧ av = [.ref (ad (50, 0)), .int x] ∧ Q (some (.int (triedF A x))) ad (wM g ad (upd S 0 0) ct V)) := by
  refine Ct.of (by decide) ?_
  intro p l e s m args below meth c0 G ad h av Q F hsp
  obtain ⟨g, A, S, ct, V, x, rfl, hR, hA, rfl, hQ⟩ := hsp
  have hno := hA.2.2.2.2.2.1.1
  obtain ⟨e28, hB⟩ := hR.2.2.2.2.2.1.2.2.2.1
  refine ⟨x_ent rfl rfl, ?_⟩
  refine x_ls [(0, .ref (ad (50, 0))), (1, .int x)] rfl ?_
  unfold triedF at hQ
  refine x_aload_n (q := 1) F dX7_tried_0 rfl rfl (by first | exact xref_r | exact xref_n | exact xref_f _ | assumption) ?_
  refine x_iconst (q := 2) (v := 0) F dX7_tried_1 rfl (by decide) ?_
  refine x_mput (q := 5) F dX7_tried_2 rfl fs_X7_79 (by decide) rfl rfl rfl ?_
  refine x_iload_n (q := 6) F dX7_tried_5 rfl rfl ?_
  refine x_iconst (q := 7) (v := 0) F dX7_tried_6 rfl (by decide) ?_
  refine x_aload_n (q := 8) F dX7_tried_7 rfl rfl (by first | exact xref_r | exact xref_n | exact xref_f _ | assumption) ?_
  refine x_mget (q := 11) F dX7_tried_8 rfl fs_X7_113 rfl ?_
  refine x_topi (y := nI (aNo A)) e28 ?_
  refine x_iconst (q := 12) (v := 1) F dX7_tried_11 rfl (by decide) ?_
  refine x_isub (q := 13) F dX7_tried_12 rfl ?_
  refine x_callS3 (q := 16) F c_X7_in dX7_tried_13 rfl ms_X7_in ml_X7_85 ⟨⟨xle rfl, xle rfl⟩, xle rfl, xle rfl⟩ (xle rfl) ?_
  refine ⟨x, 0, nI (aNo A) - 1, rfl, fun _ => ?_⟩
  rw [inB_ix (by omega)]
  rcases pk_ix x (n := aNo A) (by omega) with z | z | ⟨j, hj, rfl⟩
  · rw [rowAt_neg z] at hQ
    rw [ixN_neg z]
    refine x_if_eq (q := 19) F 32 dX7_tried_16 (by decide) rfl (fun c16 => ?_) (fun c16 => ?_)
    · refine x_iconst (q := 33) (v := -1) F dX7_tried_32 rfl (by decide) ?_
      refine x_iret F dX7_tried_33 (xle rfl) (xle rfl) ?_
      exact hQ
    · exact absurd rfl c16
  · rw [rowAt_ge (by omega) z] at hQ
    rw [ixN_ge (by omega) z]
    refine x_if_eq (q := 19) F 32 dX7_tried_16 (by decide) rfl (fun c16 => ?_) (fun c16 => ?_)
    · refine x_iconst (q := 33) (v := -1) F dX7_tried_32 rfl (by decide) ?_
      refine x_iret F dX7_tried_33 (xle rfl) (xle rfl) ?_
      exact hQ
    · exact absurd rfl c16
  · rw [rowAt_in hj (by omega)] at hQ
    rw [ixN_nI hj (by omega)]
    refine x_if_eq (q := 19) F 32 dX7_tried_16 (by decide) rfl (fun c16 => ?_) (fun c16 => ?_)
    · exact absurd (show (1 : Int32) = 0 from c16) (by decide)
    · refine x_aload_n (q := 20) F dX7_tried_19 rfl rfl (by first | exact xref_r | exact xref_n | exact xref_f _ | assumption) ?_
      refine x_mget (q := 23) F dX7_tried_20 rfl fs_X7_67 rfl ?_
      refine x_iload_n (q := 24) F dX7_tried_23 rfl rfl ?_
      refine x_mbld (q := 25) F dX7_tried_24 rfl rfl (by decide) (by decide) rfl (by omega) ?_
      refine x_sipush (q := 28) (v := 255) F dX7_tried_25 rfl (by decide) ?_
      refine x_iand (q := 29) F dX7_tried_28 rfl ?_
      refine x_topi (hB j hj) ?_
      refine x_goto F 33 dX7_tried_29 (by decide) ?_
      refine x_iret F dX7_tried_33 (xle rfl) (xle rfl) ?_
      exact hQ
