/-! ===== the reference: can, migrate, chain, goesOn ===== -/
set_option maxRecDepth 100000 in
theorem c_X7_can : Ct yX7_can cX7_can 3 (some .boolean) (xrm 2 0 0) (fun ad h av Q => ∃ g A S ct V x y, h = wM g ad S ct V ∧ rM A S ct V ∧ aOK A ∧ av = [.ref (ad (50, 0)), .int x, .int y] ∧ Q (some (.int (bI ((liveN A x).isSome && (ixN (aS A) y).isSome)))) ad h) := by
  refine Ct.of (by decide) ?_
  intro p l e s m args below meth c0 G ad h av Q F hsp
  obtain ⟨g, A, S, ct, V, x, y, rfl, hR, hA, rfl, hQ⟩ := hsp
  have hnI := hA.2.2.2.1.1
  have hnS := hA.2.2.1.1
  obtain ⟨_, _, r3, r4, _⟩ := hR
  refine ⟨x_ent rfl rfl, ?_⟩
  refine x_ls [(0, .ref (ad (50, 0))), (1, .int x), (2, .int y)] rfl ?_
  refine x_aload_n (q := 1) F dX7_can_0 rfl rfl (by first | exact xref_r | exact xref_n | exact xref_f _ | assumption) ?_
  refine x_iload_n (q := 2) F dX7_can_1 rfl rfl ?_
  refine x_callV1 (q := 5) F (50, 0) c_X7_isItem dX7_can_2 rfl mv_X7_isItem ml_X7_146 ⟨⟨xle rfl, xle rfl⟩, xle rfl, xle rfl⟩ rfl (wM_o _ _ _ _ _) (xle rfl) ?_
  refine ⟨g, S, ct, V, aI A, x, rfl, rfl, r4.1, by omega, fun _ => ?_⟩
  unfold liveN at hQ
  cases hx : ixN (aI A) x with
  | none =>
    rw [hx] at hQ
    refine x_if_eq (q := 8) F 29 dX7_can_5 (by decide) rfl (fun c5 => ?_) (fun c5 => ?_)
    · refine x_iconst (q := 30) (v := 0) F dX7_can_29 rfl (by decide) ?_
      refine x_zret F dX7_can_30 (xle rfl) (xle rfl) (by first | exact Or.inl rfl | exact Or.inr rfl) ?_
      exact hQ
    · exact absurd rfl c5
  | some i =>
    rw [hx] at hQ
    obtain ⟨hi, rfl⟩ := ixN_some (by omega) hx
    replace hQ : Q (some (.int (bI ((if iGn (aItm A i) = true then none else some i).isSome && (ixN (aS A) y).isSome)))) ad (wM g ad S ct V) := hQ
    refine x_if_eq (q := 8) F 29 dX7_can_5 (by decide) rfl (fun c5 => ?_) (fun c5 => ?_)
    · exact absurd (show (1 : Int32) = 0 from c5) (by decide)
    · refine x_aload_n (q := 9) F dX7_can_8 rfl rfl (by first | exact xref_r | exact xref_n | exact xref_f _ | assumption) ?_
      refine x_mget (q := 12) F dX7_can_9 rfl fs_X7_54 rfl ?_
      refine x_iload_n (q := 13) F dX7_can_12 rfl rfl ?_
      refine x_mzld (q := 14) F dX7_can_13 rfl rfl (by decide) (by decide) rfl (by omega) ?_
      refine x_topi (r4.2.1 i hi).2.2.2.2 ?_
      refine x_if_ne (q := 17) F 29 dX7_can_14 (by decide) rfl (fun c14 => ?_) (fun c14 => ?_)
      · rw [if_pos (bI_0 c14)] at hQ
        refine x_iconst (q := 30) (v := 0) F dX7_can_29 rfl (by decide) ?_
        refine x_zret F dX7_can_30 (xle rfl) (xle rfl) (by first | exact Or.inl rfl | exact Or.inr rfl) ?_
        exact hQ
      · rw [if_neg (by rw [bI_1 c14]; decide)] at hQ
        refine x_aload_n (q := 18) F dX7_can_17 rfl rfl (by first | exact xref_r | exact xref_n | exact xref_f _ | assumption) ?_
        refine x_iload_n (q := 19) F dX7_can_18 rfl rfl ?_
        refine x_callV1 (q := 22) F (50, 0) c_X7_isScript dX7_can_19 rfl mv_X7_isScript ml_X7_128 ⟨⟨xle rfl, xle rfl⟩, xle rfl, xle rfl⟩ rfl (wM_o _ _ _ _ _) (xle rfl) ?_
        refine ⟨g, S, ct, V, aS A, y, rfl, rfl, r3.1, by omega, fun _ => ?_⟩
        replace hQ : Q (some (.int (bI (ixN (aS A) y).isSome))) ad (wM g ad S ct V) := hQ
        refine x_if_eq (q := 25) F 29 dX7_can_22 (by decide) rfl (fun c22 => ?_) (fun c22 => ?_)
        · rw [bI_1 c22] at hQ
          refine x_iconst (q := 30) (v := 0) F dX7_can_29 rfl (by decide) ?_
          refine x_zret F dX7_can_30 (xle rfl) (xle rfl) (by first | exact Or.inl rfl | exact Or.inr rfl) ?_
          exact hQ
        · rw [bI_0 c22] at hQ
          refine x_iconst (q := 26) (v := 1) F dX7_can_25 rfl (by decide) ?_
          refine x_goto F 30 dX7_can_26 (by decide) ?_
          refine x_zret F dX7_can_30 (xle rfl) (xle rfl) (by first | exact Or.inl rfl | exact Or.inr rfl) ?_
          exact hQ
theorem rM_ml {A : AS} {S : Nat → Int32} {V : MV} {ct : Int64} (h : rM A S ct V) (v : Int32) : rM (setMl A v) (upd S 26 v) ct V := by
  obtain ⟨h1, h2, h3, h4, h5, h6, h7, h8⟩ := h
  exact ⟨h1, h2, h3, h4, h5, h6, h7, rfl⟩
theorem i32_ge {x : Int32} (h : ¬ x < 0) : (0 : Int32) ≤ x := Int32.not_lt.mp h
set_option maxRecDepth 100000 in
set_option maxHeartbeats 1000000 in
theorem c_X7_migrate : Ct yX7_migrate cX7_migrate 4 (some .int) (xrm 3 0 0) (fun ad h av Q => ∃ g A S ct V x y, h = wM g ad S ct V ∧ rM A S ct V ∧ aOK A ∧ av = [.ref (ad (50, 0)), .int x, .int y] ∧ ∀ S' ct' V', rM (migrateF A x y).2 S' ct' V' → Q (some (.int (migrateF A x y).1)) ad (wM g ad S' ct' V')) := by
  refine Ct.of (by decide) ?_
  intro p l e s m args below meth c0 G ad h av Q F hsp
  obtain ⟨g, A, S, ct, V, x, y, rfl, hR, hA, rfl, hQ⟩ := hsp
  have hnI := hA.2.2.2.1.1
  have hnS := hA.2.2.1.1
  refine ⟨x_ent rfl rfl, ?_⟩
  refine x_ls [(0, .ref (ad (50, 0))), (1, .int x), (2, .int y)] rfl ?_
  have hR0 : rM A (upd S 0 0) ct V := hR
  refine x_aload_n (q := 1) F dX7_migrate_0 rfl rfl (by first | exact xref_r | exact xref_n | exact xref_f _ | assumption) ?_
  refine x_iconst (q := 2) (v := 0) F dX7_migrate_1 rfl (by decide) ?_
  refine x_mput (q := 5) F dX7_migrate_2 rfl fs_X7_79 (by decide) rfl rfl rfl ?_
  refine x_aload_n (q := 6) F dX7_migrate_5 rfl rfl (by first | exact xref_r | exact xref_n | exact xref_f _ | assumption) ?_
  refine x_iload_n (q := 7) F dX7_migrate_6 rfl rfl ?_
  refine x_iload_n (q := 8) F dX7_migrate_7 rfl rfl ?_
  refine x_callV2 (q := 11) F (50, 0) c_X7_can dX7_migrate_8 rfl mv_X7_can ml_X7_149 ⟨⟨xle rfl, xle rfl⟩, xle rfl, xle rfl⟩ rfl (wM_o _ _ _ _ _) (xle rfl) ?_
  refine ⟨g, A, upd S 0 0, ct, V, x, y, rfl, hR0, hA, rfl, fun _ => ?_⟩
  unfold migrateF at hQ
  cases hx : liveN A x with
  | none =>
    rw [hx] at hQ
    refine x_if_ne (q := 14) F 16 dX7_migrate_11 (by decide) rfl (fun c11 => ?_) (fun c11 => ?_)
    · exact absurd rfl c11
    · refine x_iconst (q := 15) (v := -1) F dX7_migrate_14 rfl (by decide) ?_
      refine x_iret F dX7_migrate_15 (xle rfl) (xle rfl) ?_
      exact hQ _ _ _ hR0
  | some i =>
    obtain ⟨hi, rfl, hg⟩ := liveN_some hA hx
    cases hy : ixN (aS A) y with
    | none =>
      rw [hx, hy] at hQ
      refine x_if_ne (q := 14) F 16 dX7_migrate_11 (by decide) rfl (fun c11 => ?_) (fun c11 => ?_)
      · exact absurd rfl c11
      · refine x_iconst (q := 15) (v := -1) F dX7_migrate_14 rfl (by decide) ?_
        refine x_iret F dX7_migrate_15 (xle rfl) (xle rfl) ?_
        exact hQ _ _ _ hR0
    | some sc =>
      rw [hx, hy] at hQ
      obtain ⟨hs, rfl⟩ := ixN_some (by omega) hy
      replace hQ : ∀ S' ct' V', rM (setMl (deriveF A i sc).2 (ag (deriveF A i sc).1)) S' ct' V' → Q (some (.int (deriveF A i sc).1)) ad (wM g ad S' ct' V') := hQ
      refine x_if_ne (q := 14) F 16 dX7_migrate_11 (by decide) rfl (fun c11 => ?_) (fun c11 => ?_)
      · refine x_aload_n (q := 17) F dX7_migrate_16 rfl rfl (by first | exact xref_r | exact xref_n | exact xref_f _ | assumption) ?_
        refine x_iload_n (q := 18) F dX7_migrate_17 rfl rfl ?_
        refine x_iload_n (q := 19) F dX7_migrate_18 rfl rfl ?_
        refine x_callV2 (q := 22) F (50, 0) c_X7_derive dX7_migrate_19 rfl mv_X7_derive ml_X7_152 ⟨⟨xle rfl, xle rfl⟩, xle rfl, xle rfl⟩ rfl (wM_o _ _ _ _ _) (xle rfl) ?_
        refine ⟨g, A, upd S 0 0, ct, V, i, sc, rfl, hR0, hA, rfl, hi, hs, fun S1 ct1 V1 hR1 _ => ?_⟩
        unfold ag at hQ
        refine x_istore_n (q := 23) F dX7_migrate_22 rfl (by decide) ?_
        refine x_aload_n (q := 24) F dX7_migrate_23 rfl rfl (by first | exact xref_r | exact xref_n | exact xref_f _ | assumption) ?_
        refine x_iload_n (q := 25) F dX7_migrate_24 rfl rfl ?_
        refine x_if_ge (q := 28) F 32 dX7_migrate_25 (by decide) rfl (fun c25 => ?_) (fun c25 => ?_)
        · rw [if_neg (fun z => absurd c25 (Int32.not_le.mpr z))] at hQ
          refine x_iconst (q := 33) (v := 0) F dX7_migrate_32 rfl (by decide) ?_
          refine x_mput (q := 36) F dX7_migrate_33 rfl fs_X7_155 (by decide) rfl rfl rfl ?_
          refine x_iload_n (q := 37) F dX7_migrate_36 rfl rfl ?_
          refine x_iret F dX7_migrate_37 (xle rfl) (xle rfl) ?_
          exact hQ _ _ _ (rM_ml hR1 0)
        · rw [if_pos (Int32.not_le.mp c25)] at hQ
          refine x_iload_n (q := 29) F dX7_migrate_28 rfl rfl ?_
          refine x_goto F 33 dX7_migrate_29 (by decide) ?_
          refine x_mput (q := 36) F dX7_migrate_33 rfl fs_X7_155 (by decide) rfl rfl rfl ?_
          refine x_iload_n (q := 37) F dX7_migrate_36 rfl rfl ?_
          refine x_iret F dX7_migrate_37 (xle rfl) (xle rfl) ?_
          exact hQ _ _ _ (rM_ml hR1 _)
      · exact absurd (show (1 : Int32) = 0 from c11) (by decide)
/-- the chain from here ends within f scripts -/
def endsN (A : AS) : Nat → Option Nat → Prop
  | _, none => True
  | 0, some _ => False
  | f + 1, some s => endsN A f (sNx (aScr A s))
theorem endsN_sc {A B : AS} (e : aScr B = aScr A) : ∀ (f : Nat) (o : Option Nat), endsN A f o → endsN B f o := by
  intro f
  induction f with
  | zero => intro o h; cases o with
    | none => trivial
    | some s => exact h
  | succ f ih => intro o h; cases o with
    | none => trivial
    | some s =>
      show endsN B f (sNx (aScr B s))
      rw [e]
      exact ih _ h
theorem rM_next {A : AS} {S : Nat → Int32} {V : MV} {ct : Int64} (h : rM A S ct V) {s : Nat} (hs : s < aS A) (o : Option Nat) : rM (setSc A (aS A, updS (aScr A) s (setNx (aScr A s) o))) S ct (upV V 55 s (optI o)) := by
  obtain ⟨h1, h2, ⟨s1, s2, s3⟩, h4, h5, h6, h7⟩ := h
  refine ⟨h1, h2, ⟨s1, fun j hj => ?_, fun j q1 q2 => ?_⟩, h4, h5, h6, h7⟩
  · have hj : j < aS A := hj
    show rScr (upV V 55 s (optI o)) j (updS (aScr A) s (setNx (aScr A s) o) j)
    obtain ⟨a1, a2, a3, a4⟩ := s2 j hj
    by_cases z : j = s
    · subst z
      rw [show updS (aScr A) j (setNx (aScr A j) o) j = setNx (aScr A j) o from if_pos rfl]
      exact ⟨a1, upV_at V 55 j (optI o), a3, a4⟩
    · rw [show updS (aScr A) s (setNx (aScr A s) o) j = aScr A j from if_neg z]
      exact ⟨a1, (upV_ne V 55 _ z).trans a2, a3, a4⟩
  · have q1 : aS A ≤ j := q1
    obtain ⟨x1, x2, x3⟩ := s3 j q1 q2
    exact ⟨(upV_ne V 55 _ (by omega)).trans x1, x2, x3⟩
set_option maxRecDepth 100000 in
set_option maxHeartbeats 1000000 in
theorem c_X7_chain : Ct yX7_chain cX7_chain 4 (some .int) (xrm 2 0 0) (fun ad h av Q => ∃ g A S ct V x y, h = wM g ad S ct V ∧ rM A S ct V ∧ aOK A ∧ (∀ t, t < aS A → endsN A 10 (some t)) ∧ av = [.ref (ad (50, 0)), .int x, .int y] ∧ ∀ S' ct' V', rM (chainF A x y).2 S' ct' V' → Q (some (.int (chainF A x y).1)) ad (wM g ad S' ct' V')) := by
  refine Ct.of (by decide) ?_
  intro p l e s m args below meth c0 G ad h av Q F hsp
  obtain ⟨g, A, S, ct, V, x, y, rfl, hR, hA, hE, rfl, hQ⟩ := hsp
  have hnS := hA.2.2.1.1
  have r3 := hR.2.2.1
  refine ⟨x_ent rfl rfl, ?_⟩
  refine x_ls [(0, .ref (ad (50, 0))), (1, .int x), (2, .int y)] rfl ?_
  have hR0 : rM A (upd S 0 0) ct V := hR
  have r30 : upd S 0 0 7 = nI (aS A) := r3.1
  refine x_aload_n (q := 1) F dX7_chain_0 rfl rfl (by first | exact xref_r | exact xref_n | exact xref_f _ | assumption) ?_
  refine x_iconst (q := 2) (v := 0) F dX7_chain_1 rfl (by decide) ?_
  refine x_mput (q := 5) F dX7_chain_2 rfl fs_X7_79 (by decide) rfl rfl rfl ?_
  refine x_aload_n (q := 6) F dX7_chain_5 rfl rfl (by first | exact xref_r | exact xref_n | exact xref_f _ | assumption) ?_
  refine x_iload_n (q := 7) F dX7_chain_6 rfl rfl ?_
  refine x_callV1 (q := 10) F (50, 0) c_X7_isScript dX7_chain_7 rfl mv_X7_isScript ml_X7_128 ⟨⟨xle rfl, xle rfl⟩, xle rfl, xle rfl⟩ rfl (wM_o _ _ _ _ _) (xle rfl) ?_
  refine ⟨g, upd S 0 0, ct, V, aS A, x, rfl, rfl, r30, by omega, fun _ => ?_⟩
  unfold chainF at hQ
  cases hx : ixN (aS A) x with
  | none =>
    rw [hx] at hQ
    refine x_if_eq (q := 13) F 26 dX7_chain_10 (by decide) rfl (fun c10 => ?_) (fun c10 => ?_)
    · refine x_iconst (q := 27) (v := -1) F dX7_chain_26 rfl (by decide) ?_
      refine x_iret F dX7_chain_27 (xle rfl) (xle rfl) ?_
      exact hQ _ _ _ hR0
    · exact absurd rfl c10
  | some sc =>
    rw [hx] at hQ
    obtain ⟨hs, rfl⟩ := ixN_some (by omega) hx
    replace hQ : ∀ S' ct' V', rM (if y = -1 then ((1 : Int32), setSc A (aS A, updS (aScr A) sc (setNx (aScr A sc) none))) else match ixN (aS A) y with | none => (-1, A) | some t => if comesF A sc 10 (some t) = true then (-3, A) else (1, setSc A (aS A, updS (aScr A) sc (setNx (aScr A sc) (some t))))).2 S' ct' V' → Q (some (.int (if y = -1 then ((1 : Int32), setSc A (aS A, updS (aScr A) sc (setNx (aScr A sc) none))) else match ixN (aS A) y with | none => (-1, A) | some t => if comesF A sc 10 (some t) = true then (-3, A) else (1, setSc A (aS A, updS (aScr A) sc (setNx (aScr A sc) (some t))))).1)) ad (wM g ad S' ct' V') := hQ
    refine x_if_eq (q := 13) F 26 dX7_chain_10 (by decide) rfl (fun c10 => ?_) (fun c10 => ?_)
    · exact absurd (show (1 : Int32) = 0 from c10) (by decide)
    · refine x_iload_n (q := 14) F dX7_chain_13 rfl rfl ?_
      refine x_iconst (q := 15) (v := -1) F dX7_chain_14 rfl (by decide) ?_
      refine x_icmp_eq (q := 18) F 28 dX7_chain_15 (by decide) rfl (fun c15 => ?_) (fun c15 => ?_)
      · subst c15
        rw [if_pos rfl] at hQ
        refine x_iload_n (q := 29) F dX7_chain_28 rfl rfl ?_
        refine x_istore_n (q := 30) F dX7_chain_29 rfl (by decide) ?_
        refine x_iload_n (q := 31) F dX7_chain_30 rfl rfl ?_
        refine x_if_lt (q := 34) F 52 dX7_chain_31 (by decide) rfl (fun c31 => ?_) (fun c31 => ?_)
        · refine x_aload_n (q := 53) F dX7_chain_52 rfl rfl (by first | exact xref_r | exact xref_n | exact xref_f _ | assumption) ?_
          refine x_mget (q := 56) F dX7_chain_53 rfl fs_X7_27 rfl ?_
          refine x_iload_n (q := 57) F dX7_chain_56 rfl rfl ?_
          refine x_iload_n (q := 58) F dX7_chain_57 rfl rfl ?_
          refine x_mist (q := 59) F dX7_chain_58 rfl rfl (by decide) (by decide) rfl (by omega) ?_
          refine x_iconst (q := 60) (v := 1) F dX7_chain_59 rfl (by decide) ?_
          refine x_iret F dX7_chain_60 (xle rfl) (xle rfl) ?_
          exact hQ _ _ _ (rM_next hR0 hs none)
        · exact absurd (by decide) c31
      · rw [if_neg c15] at hQ
        refine x_aload_n (q := 19) F dX7_chain_18 rfl rfl (by first | exact xref_r | exact xref_n | exact xref_f _ | assumption) ?_
        refine x_iload_n (q := 20) F dX7_chain_19 rfl rfl ?_
        refine x_callV1 (q := 23) F (50, 0) c_X7_isScript dX7_chain_20 rfl mv_X7_isScript ml_X7_128 ⟨⟨xle rfl, xle rfl⟩, xle rfl, xle rfl⟩ rfl (wM_o _ _ _ _ _) (xle rfl) ?_
        refine ⟨g, upd S 0 0, ct, V, aS A, y, rfl, rfl, r30, by omega, fun _ => ?_⟩
        cases hy : ixN (aS A) y with
        | none =>
          rw [hy] at hQ
          refine x_if_ne (q := 26) F 28 dX7_chain_23 (by decide) rfl (fun c23 => ?_) (fun c23 => ?_)
          · exact absurd rfl c23
          · refine x_iconst (q := 27) (v := -1) F dX7_chain_26 rfl (by decide) ?_
            refine x_iret F dX7_chain_27 (xle rfl) (xle rfl) ?_
            exact hQ _ _ _ hR0
        | some t =>
          rw [hy] at hQ
          obtain ⟨ht, rfl⟩ := ixN_some (by omega) hy
          replace hQ : ∀ S' ct' V', rM (if comesF A sc 10 (some t) = true then ((-3 : Int32), A) else (1, setSc A (aS A, updS (aScr A) sc (setNx (aScr A sc) (some t))))).2 S' ct' V' → Q (some (.int (if comesF A sc 10 (some t) = true then ((-3 : Int32), A) else (1, setSc A (aS A, updS (aScr A) sc (setNx (aScr A sc) (some t))))).1)) ad (wM g ad S' ct' V') := hQ
          have loop : ∀ f o, (∀ v, o = some v → v < aS A) → endsN A f o → comesF A sc 10 (some t) = comesF A sc f o → xX p l e (xrm 2 0 0) s m args below meth c0 G ad (wM g ad S ct V) 4 (xZ below G ad (wM g ad S ct V) Q args s (xrm 2 0 0)) 30 [(0, .ref (ad (50, 0))), (1, .int (nI sc)), (2, .int (nI t)), (3, .int (optI o))] [] ad (wM g ad (upd S 0 0) ct V) 0 0 := by
            have fin : comesF A sc 10 (some t) = false → ∀ o, xX p l e (xrm 2 0 0) s m args below meth c0 G ad (wM g ad S ct V) 4 (xZ below G ad (wM g ad S ct V) Q args s (xrm 2 0 0)) 52 [(0, .ref (ad (50, 0))), (1, .int (nI sc)), (2, .int (nI t)), (3, .int (optI o))] [] ad (wM g ad (upd S 0 0) ct V) 0 0 := by
              intro hc o
              rw [if_neg (by rw [hc]; decide)] at hQ
              refine x_aload_n (q := 53) F dX7_chain_52 rfl rfl (by first | exact xref_r | exact xref_n | exact xref_f _ | assumption) ?_
              refine x_mget (q := 56) F dX7_chain_53 rfl fs_X7_27 rfl ?_
              refine x_iload_n (q := 57) F dX7_chain_56 rfl rfl ?_
              refine x_iload_n (q := 58) F dX7_chain_57 rfl rfl ?_
              refine x_mist (q := 59) F dX7_chain_58 rfl rfl (by decide) (by decide) rfl (by omega) ?_
              refine x_iconst (q := 60) (v := 1) F dX7_chain_59 rfl (by decide) ?_
              refine x_iret F dX7_chain_60 (xle rfl) (xle rfl) ?_
              exact hQ _ _ _ (rM_next hR0 hs (some t))
            intro f
            induction f with
            | zero =>
              intro o ho he hc
              cases o with
              | none =>
                refine x_iload_n (q := 31) F dX7_chain_30 rfl rfl ?_
                refine x_if_lt (q := 34) F 52 dX7_chain_31 (by decide) rfl (fun c31 => ?_) (fun c31 => ?_)
                · exact fin hc none
                · exact absurd (by decide) c31
              | some v => exact he.elim
            | succ f ih =>
              intro o ho he hc
              cases o with
              | none =>
                refine x_iload_n (q := 31) F dX7_chain_30 rfl rfl ?_
                refine x_if_lt (q := 34) F 52 dX7_chain_31 (by decide) rfl (fun c31 => ?_) (fun c31 => ?_)
                · exact fin hc none
                · exact absurd (by decide) c31
              | some v =>
                have hv := ho v rfl
                have hc : comesF A sc 10 (some t) = if v = sc then true else comesF A sc f (sNx (aScr A v)) := hc
                refine x_iload_n (q := 31) F dX7_chain_30 rfl rfl ?_
                refine x_if_lt (q := 34) F 52 dX7_chain_31 (by decide) rfl (fun c31 => ?_) (fun c31 => ?_)
                · exact absurd c31 (nI_pos (by omega))
                · refine x_iload_n (q := 35) F dX7_chain_34 rfl rfl ?_
                  refine x_iload_n (q := 36) F dX7_chain_35 rfl rfl ?_
                  refine x_icmp_ne (q := 39) F 42 dX7_chain_36 (by decide) rfl (fun c36 => ?_) (fun c36 => ?_)
                  · rw [if_neg (fun z => c36 (by rw [z]; rfl))] at hc
                    refine x_aload_n (q := 43) F dX7_chain_42 rfl rfl (by first | exact xref_r | exact xref_n | exact xref_f _ | assumption) ?_
                    refine x_mget (q := 46) F dX7_chain_43 rfl fs_X7_27 rfl ?_
                    refine x_iload_n (q := 47) F dX7_chain_46 rfl rfl ?_
                    refine x_mild (q := 48) F dX7_chain_47 rfl rfl (by decide) (by decide) rfl (by omega) ?_
                    refine x_topi (r3.2.1 v hv).2.1 ?_
                    refine x_istore_n (q := 49) F dX7_chain_48 rfl (by decide) ?_
                    refine x_goto F 30 dX7_chain_49 (by decide) ?_
                    refine x_ls [(0, .ref (ad (50, 0))), (1, .int (nI sc)), (2, .int (nI t)), (3, .int (optI (sNx (aScr A v))))] rfl ?_
                    exact ih _ (fun w hw => (hA.2.2.1.2 v hv).2.2.2.2.2.2 w hw) he hc
                  · rw [if_pos ((nI_eq (by omega) (by omega)).mp c36)] at hc
                    rw [if_pos hc] at hQ
                    refine x_bipush (q := 41) (v := -3) F dX7_chain_39 rfl (by decide) ?_
                    refine x_iret F dX7_chain_41 (xle rfl) (xle rfl) ?_
                    exact hQ _ _ _ hR0
          refine x_if_ne (q := 26) F 28 dX7_chain_23 (by decide) rfl (fun c23 => ?_) (fun c23 => ?_)
          · refine x_iload_n (q := 29) F dX7_chain_28 rfl rfl ?_
            refine x_istore_n (q := 30) F dX7_chain_29 rfl (by decide) ?_
            refine x_ls [(0, .ref (ad (50, 0))), (1, .int (nI sc)), (2, .int (nI t)), (3, .int (optI (some t)))] rfl ?_
            exact loop 10 (some t) (fun v hv => by cases hv; exact ht) (hE t ht) rfl
          · exact absurd (show (1 : Int32) = 0 from c23) (by decide)
theorem deriveF_ml (A : AS) (v : Int32) (i sc : Nat) : deriveF (setMl A v) i sc = ((deriveF A i sc).1, setMl (deriveF A i sc).2 v) := by
  unfold deriveF
  by_cases a1 : hasDerBy A i sc = true
  · rw [if_pos a1, if_pos (show hasDerBy (setMl A v) i sc = true from a1)]
  rw [if_neg a1, if_neg (show ¬ hasDerBy (setMl A v) i sc = true from a1)]
  by_cases a2 : chkB (aScr A sc) (iN (aItm A i)) (iB (aItm A i)) = false
  · rw [if_pos a2, if_pos (show chkB (aScr (setMl A v) sc) (iN (aItm (setMl A v) i)) (iB (aItm (setMl A v) i)) = false from a2)]
  rw [if_neg a2, if_neg (show ¬ chkB (aScr (setMl A v) sc) (iN (aItm (setMl A v) i)) (iB (aItm (setMl A v) i)) = false from a2)]
  by_cases a3 : rF (runA A i sc).1 ≠ 0
  · rw [if_pos a3, if_pos (show rF (runA (setMl A v) i sc).1 ≠ 0 from a3)]
    rfl
  rw [if_neg a3, if_neg (show ¬ rF (runA (setMl A v) i sc).1 ≠ 0 from a3)]
  by_cases a4 : chkH (aScr A sc) (rNo (runA A i sc).1) (rOut (runA A i sc).1) = false
  · rw [if_pos a4, if_pos (show chkH (aScr (setMl A v) sc) (rNo (runA (setMl A v) i sc).1) (rOut (runA (setMl A v) i sc).1) = false from a4)]
    rfl
  rw [if_neg a4, if_neg (show ¬ chkH (aScr (setMl A v) sc) (rNo (runA (setMl A v) i sc).1) (rOut (runA (setMl A v) i sc).1) = false from a4)]
  by_cases a5 : 60 ≤ aI A
  · rw [if_pos a5, if_pos (show 60 ≤ aI (setMl A v) from a5)]
    rfl
  rw [if_neg a5, if_neg (show ¬ 60 ≤ aI (setMl A v) from a5)]
  rfl
theorem goesF_ml (f : Nat) (A : AS) (v : Int32) (i sc : Nat) : goesF (f + 1) (setMl A v) i (some sc) = goesF (f + 1) A i (some sc) := by
  rw [goesF, goesF, deriveF_ml]
  rfl
set_option maxRecDepth 100000 in
set_option maxHeartbeats 2000000 in
theorem c_X7_goesOn : Ct yX7_goesOn cX7_goesOn 7 (some .int) (xrm 3 0 0) (fun ad h av Q => ∃ g A S ct V x y, h = wM g ad S ct V ∧ rM A S ct V ∧ aOK A ∧ (∀ t, t < aS A → endsN A 10 (some t)) ∧ av = [.ref (ad (50, 0)), .int x, .int y] ∧ ∀ S' ct' V', rM (goesOnF A x y).2 S' ct' V' → Q (some (.int (goesOnF A x y).1)) ad (wM g ad S' ct' V')) := by
  refine Ct.of (by decide) ?_
  intro p l e s m args below meth c0 G ad h av Q F hsp
  obtain ⟨g, A, S, ct, V, x, y, rfl, hR, hA, hE, rfl, hQ⟩ := hsp
  have hnI := hA.2.2.2.1.1
  have hnS := hA.2.2.1.1
  refine ⟨x_ent rfl rfl, ?_⟩
  refine x_ls [(0, .ref (ad (50, 0))), (1, .int x), (2, .int y)] rfl ?_
  have hR0 : rM A (upd S 0 0) ct V := hR
  refine x_aload_n (q := 1) F dX7_goesOn_0 rfl rfl (by first | exact xref_r | exact xref_n | exact xref_f _ | assumption) ?_
  refine x_iconst (q := 2) (v := 0) F dX7_goesOn_1 rfl (by decide) ?_
  refine x_mput (q := 5) F dX7_goesOn_2 rfl fs_X7_79 (by decide) rfl rfl rfl ?_
  refine x_aload_n (q := 6) F dX7_goesOn_5 rfl rfl (by first | exact xref_r | exact xref_n | exact xref_f _ | assumption) ?_
  refine x_iload_n (q := 7) F dX7_goesOn_6 rfl rfl ?_
  refine x_iload_n (q := 8) F dX7_goesOn_7 rfl rfl ?_
  refine x_callV2 (q := 11) F (50, 0) c_X7_can dX7_goesOn_8 rfl mv_X7_can ml_X7_149 ⟨⟨xle rfl, xle rfl⟩, xle rfl, xle rfl⟩ rfl (wM_o _ _ _ _ _) (xle rfl) ?_
  refine ⟨g, A, upd S 0 0, ct, V, x, y, rfl, hR0, hA, rfl, fun _ => ?_⟩
  unfold goesOnF at hQ
  cases hx : liveN A x with
  | none =>
    rw [hx] at hQ
    refine x_if_ne (q := 14) F 16 dX7_goesOn_11 (by decide) rfl (fun c11 => ?_) (fun c11 => ?_)
    · exact absurd rfl c11
    · refine x_iconst (q := 15) (v := -1) F dX7_goesOn_14 rfl (by decide) ?_
      refine x_iret F dX7_goesOn_15 (xle rfl) (xle rfl) ?_
      exact hQ _ _ _ hR0
  | some i =>
    obtain ⟨hi, rfl, hg⟩ := liveN_some hA hx
    cases hy : ixN (aS A) y with
    | none =>
      rw [hx, hy] at hQ
      refine x_if_ne (q := 14) F 16 dX7_goesOn_11 (by decide) rfl (fun c11 => ?_) (fun c11 => ?_)
      · exact absurd rfl c11
      · refine x_iconst (q := 15) (v := -1) F dX7_goesOn_14 rfl (by decide) ?_
        refine x_iret F dX7_goesOn_15 (xle rfl) (xle rfl) ?_
        exact hQ _ _ _ hR0
    | some sc =>
      rw [hx, hy] at hQ
      obtain ⟨hs, rfl⟩ := ixN_some (by omega) hy
      replace hQ : ∀ S' ct' V', rM (goesF 10 A i (some sc)).2 S' ct' V' → Q (some (.int (nI (goesF 10 A i (some sc)).1))) ad (wM g ad S' ct' V') := hQ
      rw [← goesF_ml 9 A 0 i sc] at hQ
      have loop : ∀ f o B j n S1 ct1 V1, aOK B → rM B S1 ct1 V1 → aMl B = 0 → (∀ v, o = some v → v < aS B ∧ j < aI B) → (∀ a, o = none ∨ a = nI j → endsN B f o → n + f ≤ 100 → (∀ S' ct' V', rM (goesF f B j o).2 S' ct' V' → Q (some (.int (nI (n + (goesF f B j o).1)))) ad (wM g ad S' ct' V')) → xX p l e (xrm 3 0 0) s m args below meth c0 G ad (wM g ad S ct V) 7 (xZ below G ad (wM g ad S ct V) Q args s (xrm 3 0 0)) 29 [(0, .ref (ad (50, 0))), (3, .int (nI n)), (4, .int a), (5, .int (optI o))] [] ad (wM g ad S1 ct1 V1) 0 0) := by
        have none_ : ∀ f B j n S1 ct1 V1, rM B S1 ct1 V1 → ∀ a, (∀ S' ct' V', rM (goesF f B j none).2 S' ct' V' → Q (some (.int (nI (n + (goesF f B j none).1)))) ad (wM g ad S' ct' V')) → xX p l e (xrm 3 0 0) s m args below meth c0 G ad (wM g ad S ct V) 7 (xZ below G ad (wM g ad S ct V) Q args s (xrm 3 0 0)) 29 [(0, .ref (ad (50, 0))), (3, .int (nI n)), (4, .int a), (5, .int (optI none))] [] ad (wM g ad S1 ct1 V1) 0 0 := by
          intro f B j n S1 ct1 V1 hB a hQ
          have hg0 : goesF f B j none = (0, B) := by cases f <;> rfl
          rw [hg0] at hQ
          refine x_iload (q := 31) F dX7_goesOn_29 rfl rfl ?_
          refine x_if_lt (q := 34) F 95 dX7_goesOn_31 (by decide) rfl (fun c31 => ?_) (fun c31 => ?_)
          · refine x_iload_n (q := 96) F dX7_goesOn_95 rfl rfl ?_
            refine x_iret F dX7_goesOn_96 (xle rfl) (xle rfl) ?_
            exact hQ _ _ _ hB
          · exact absurd (by decide) c31
        intro f
        induction f with
        | zero =>
          intro o B j n S1 ct1 V1 hOB hB hml ho a ha he hn hQ
          cases o with
          | none => exact none_ 0 B j n S1 ct1 V1 hB a hQ
          | some v => exact he.elim
        | succ f ih =>
          intro o B j n S1 ct1 V1 hOB hB hml ho a ha he hn hQ
          cases o with
          | none => exact none_ (f + 1) B j n S1 ct1 V1 hB a hQ
          | some v =>
            obtain ⟨hv, hj⟩ := ho v rfl
            have hnB := hOB.2.2.2.1.1
            have hnSB := hOB.2.2.1.1
            have ha : a = nI j := by
              rcases ha with z | z
              · cases z
              · exact z
            subst ha
            have s26 : S1 26 = 0 := hB.2.2.2.2.2.2.2.trans hml
            rw [goesF] at hQ
            refine x_iload (q := 31) F dX7_goesOn_29 rfl rfl ?_
            refine x_if_lt (q := 34) F 95 dX7_goesOn_31 (by decide) rfl (fun c31 => ?_) (fun c31 => ?_)
            · exact absurd c31 (nI_pos (by omega))
            · refine x_aload_n (q := 35) F dX7_goesOn_34 rfl rfl (by first | exact xref_r | exact xref_n | exact xref_f _ | assumption) ?_
              refine x_mget (q := 38) F dX7_goesOn_35 rfl fs_X7_155 rfl ?_
              refine x_if_ne (q := 41) F 95 dX7_goesOn_38 (by decide) rfl (fun c38 => ?_) (fun c38 => ?_)
              · exact absurd s26 c38
              · refine x_aload_n (q := 42) F dX7_goesOn_41 rfl rfl (by first | exact xref_r | exact xref_n | exact xref_f _ | assumption) ?_
                refine x_iload (q := 44) F dX7_goesOn_42 rfl rfl ?_
                refine x_iload (q := 46) F dX7_goesOn_44 rfl rfl ?_
                refine x_callV2 (q := 49) F (50, 0) c_X7_derive dX7_goesOn_46 rfl mv_X7_derive ml_X7_152 ⟨⟨xle rfl, xle rfl⟩, xle rfl, xle rfl⟩ rfl (wM_o _ _ _ _ _) (xle rfl) ?_
                refine ⟨g, B, S1, ct1, V1, j, v, rfl, hB, hOB, rfl, hj, hv, fun S2 ct2 V2 hB2 _ => ?_⟩
                have hsame := deriveF_same B j v
                have hx55 : V2 55 v = optI (sNx (aScr B v)) := by
                  have := (hB2.2.2.1.2.1 v (by rw [hsame.1]; exact hv)).2.1
                  rw [hsame.2.1] at this
                  exact this
                rcases deriveF_cases hOB hj hv with ⟨d1, d2, d3, d4⟩ | ⟨d1, d2, d3, d4⟩
                · rw [if_pos d1, show ag (deriveF B j v).1 = (deriveF B j v).1 from if_pos d1] at hQ
                  refine x_istore (q := 51) F dX7_goesOn_49 rfl (by decide) ?_
                  refine x_aload_n (q := 52) F dX7_goesOn_51 rfl rfl (by first | exact xref_r | exact xref_n | exact xref_f _ | assumption) ?_
                  refine x_iload (q := 54) F dX7_goesOn_52 rfl rfl ?_
                  refine x_if_ge (q := 57) F 62 dX7_goesOn_54 (by decide) rfl (fun c54 => ?_) (fun c54 => ?_)
                  · exact absurd d1 (Int32.not_lt.mpr c54)
                  · refine x_iload (q := 59) F dX7_goesOn_57 rfl rfl ?_
                    refine x_goto F 63 dX7_goesOn_59 (by decide) ?_
                    refine x_mput (q := 66) F dX7_goesOn_63 rfl fs_X7_155 (by decide) rfl rfl rfl ?_
                    refine x_iload_n (q := 67) F dX7_goesOn_66 rfl rfl ?_
                    refine x_iload (q := 69) F dX7_goesOn_67 rfl rfl ?_
                    refine x_if_ge (q := 72) F 76 dX7_goesOn_69 (by decide) rfl (fun c69 => ?_) (fun c69 => ?_)
                    · exact absurd d1 (Int32.not_lt.mpr c69)
                    · refine x_iconst (q := 73) (v := 0) F dX7_goesOn_72 rfl (by decide) ?_
                      refine x_goto F 77 dX7_goesOn_73 (by decide) ?_
                      refine x_iadd (q := 78) F dX7_goesOn_77 rfl ?_
                      refine x_topi (y := nI n) (nI_add n 0) ?_
                      refine x_istore_n (q := 79) F dX7_goesOn_78 rfl (by decide) ?_
                      refine x_iload (q := 81) F dX7_goesOn_79 rfl rfl ?_
                      refine x_istore (q := 83) F dX7_goesOn_81 rfl (by decide) ?_
                      refine x_aload_n (q := 84) F dX7_goesOn_83 rfl rfl (by first | exact xref_r | exact xref_n | exact xref_f _ | assumption) ?_
                      refine x_mget (q := 87) F dX7_goesOn_84 rfl fs_X7_27 rfl ?_
                      refine x_iload (q := 89) F dX7_goesOn_87 rfl rfl ?_
                      refine x_mild (q := 90) F dX7_goesOn_89 rfl rfl (by decide) (by decide) rfl (by omega) ?_
                      refine x_topi hx55 ?_
                      refine x_istore (q := 92) F dX7_goesOn_90 rfl (by decide) ?_
                      refine x_goto F 29 dX7_goesOn_92 (by decide) ?_
                      refine x_ls [(0, .ref (ad (50, 0))), (3, .int (nI n)), (5, .int (optI (sNx (aScr B v))))] rfl ?_
                      have hfin := hQ _ _ _ (rM_ml hB2 (deriveF B j v).1)
                      refine x_iload (q := 31) F dX7_goesOn_29 rfl rfl ?_
                      refine x_if_lt (q := 34) F 95 dX7_goesOn_31 (by decide) rfl (fun e31 => ?_) (fun e31 => ?_)
                      · refine x_iload_n (q := 96) F dX7_goesOn_95 rfl rfl ?_
                        refine x_iret F dX7_goesOn_96 (xle rfl) (xle rfl) ?_
                        exact hfin
                      · refine x_aload_n (q := 35) F dX7_goesOn_34 rfl rfl (by first | exact xref_r | exact xref_n | exact xref_f _ | assumption) ?_
                        refine x_mget (q := 38) F dX7_goesOn_35 rfl fs_X7_155 rfl ?_
                        refine x_if_ne (q := 41) F 95 dX7_goesOn_38 (by decide) rfl (fun e38 => ?_) (fun e38 => ?_)
                        · refine x_iload_n (q := 96) F dX7_goesOn_95 rfl rfl ?_
                          refine x_iret F dX7_goesOn_96 (xle rfl) (xle rfl) ?_
                          exact hfin
                        · exact absurd (show (deriveF B j v).1 = 0 from e38) (fun z => by rw [z] at d1; exact absurd d1 (by decide))
                · have dn : ¬ (deriveF B j v).1 < 0 := by rw [d2]; exact nI_pos (by omega)
                  rw [if_neg dn, show ag (deriveF B j v).1 = 0 from if_neg dn] at hQ
                  refine x_istore (q := 51) F dX7_goesOn_49 rfl (by decide) ?_
                  refine x_aload_n (q := 52) F dX7_goesOn_51 rfl rfl (by first | exact xref_r | exact xref_n | exact xref_f _ | assumption) ?_
                  refine x_iload (q := 54) F dX7_goesOn_52 rfl rfl ?_
                  refine x_if_ge (q := 57) F 62 dX7_goesOn_54 (by decide) rfl (fun c54 => ?_) (fun c54 => ?_)
                  · refine x_iconst (q := 63) (v := 0) F dX7_goesOn_62 rfl (by decide) ?_
                    refine x_mput (q := 66) F dX7_goesOn_63 rfl fs_X7_155 (by decide) rfl rfl rfl ?_
                    refine x_iload_n (q := 67) F dX7_goesOn_66 rfl rfl ?_
                    refine x_iload (q := 69) F dX7_goesOn_67 rfl rfl ?_
                    refine x_if_ge (q := 72) F 76 dX7_goesOn_69 (by decide) rfl (fun c69 => ?_) (fun c69 => ?_)
                    · refine x_iconst (q := 77) (v := 1) F dX7_goesOn_76 rfl (by decide) ?_
                      refine x_iadd (q := 78) F dX7_goesOn_77 rfl ?_
                      refine x_topi (nI_1 n) ?_
                      refine x_istore_n (q := 79) F dX7_goesOn_78 rfl (by decide) ?_
                      refine x_iload (q := 81) F dX7_goesOn_79 rfl rfl ?_
                      refine x_istore (q := 83) F dX7_goesOn_81 rfl (by decide) ?_
                      refine x_aload_n (q := 84) F dX7_goesOn_83 rfl rfl (by first | exact xref_r | exact xref_n | exact xref_f _ | assumption) ?_
                      refine x_mget (q := 87) F dX7_goesOn_84 rfl fs_X7_27 rfl ?_
                      refine x_iload (q := 89) F dX7_goesOn_87 rfl rfl ?_
                      refine x_mild (q := 90) F dX7_goesOn_89 rfl rfl (by decide) (by decide) rfl (by omega) ?_
                      refine x_topi hx55 ?_
                      refine x_istore (q := 92) F dX7_goesOn_90 rfl (by decide) ?_
                      refine x_goto F 29 dX7_goesOn_92 (by decide) ?_
                      refine x_ls [(0, .ref (ad (50, 0))), (3, .int (nI (n + 1))), (4, .int (deriveF B j v).1), (5, .int (optI (sNx (aScr B v))))] rfl ?_
                      refine ih (sNx (aScr B v)) (setMl (deriveF B j v).2 0) (aI B) (n + 1) _ ct2 V2 (d4.ml 0) (rM_ml hB2 0) rfl (fun w hw => ⟨?_, ?_⟩) _ (Or.inr d2) ?_ (by omega) (fun S' ct' V' hf => ?_)
                      · show w < aS (deriveF B j v).2
                        rw [hsame.1]
                        exact (hOB.2.2.1.2 v hv).2.2.2.2.2.2 w hw
                      · show aI B < aI (deriveF B j v).2
                        rw [d3]
                        show aI B < aI B + 1
                        omega
                      · exact endsN_sc (A := B) (B := setMl (deriveF B j v).2 0) hsame.2.1 f _ he
                      · have := hQ S' ct' V' hf
                        rw [show n + 1 + (goesF f (setMl (deriveF B j v).2 0) (aI B) (sNx (aScr B v))).1 = n + ((goesF f (setMl (deriveF B j v).2 0) (aI B) (sNx (aScr B v))).1 + 1) by omega]
                        exact this
                    · exact absurd (Int32.not_lt.mp dn) c69
                  · exact absurd (Int32.not_lt.mp dn) c54
      refine x_if_ne (q := 14) F 16 dX7_goesOn_11 (by decide) rfl (fun c11 => ?_) (fun c11 => ?_)
      · refine x_iconst (q := 17) (v := 0) F dX7_goesOn_16 rfl (by decide) ?_
        refine x_istore_n (q := 18) F dX7_goesOn_17 rfl (by decide) ?_
        refine x_iload_n (q := 19) F dX7_goesOn_18 rfl rfl ?_
        refine x_istore (q := 21) F dX7_goesOn_19 rfl (by decide) ?_
        refine x_iload_n (q := 22) F dX7_goesOn_21 rfl rfl ?_
        refine x_istore (q := 24) F dX7_goesOn_22 rfl (by decide) ?_
        refine x_aload_n (q := 25) F dX7_goesOn_24 rfl rfl (by first | exact xref_r | exact xref_n | exact xref_f _ | assumption) ?_
        refine x_iconst (q := 26) (v := 0) F dX7_goesOn_25 rfl (by decide) ?_
        refine x_mput (q := 29) F dX7_goesOn_26 rfl fs_X7_155 (by decide) rfl rfl rfl ?_
        refine x_ls [(0, .ref (ad (50, 0))), (3, .int (nI 0)), (4, .int (nI i)), (5, .int (optI (some sc)))] rfl ?_
        refine loop 10 (some sc) (setMl A 0) i 0 _ ct V (hA.ml 0) (rM_ml hR0 0) rfl (fun v hv => by cases hv; exact ⟨hs, hi⟩) _ (Or.inr rfl) (endsN_sc (A := A) (B := setMl A 0) rfl 10 _ (hE sc hs)) (by omega) (fun S' ct' V' hf => ?_)
        rw [Nat.zero_add]
        exact hQ S' ct' V' hf
      · exact absurd (show (1 : Int32) = 0 from c11) (by decide)
