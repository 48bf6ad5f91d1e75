/-! ===== items and scripts by number ===== -/
def liveN (A : AS) (x : Int32) : Option Nat := (ixN (aI A) x).bind (fun i => if iGn (aItm A i) = true then none else some i)
def liveV (ad : xAd) (A : AS) (x : Int32) : Value := va_rf ((liveN A x).map (fun i => ad (30, i)))
theorem liveN_some {A : AS} (hA : aOK A) {x : Int32} {i : Nat} (h : liveN A x = some i) : i < aI A ∧ x = nI i ∧ iGn (aItm A i) = false := by
  unfold liveN at h
  cases hx : ixN (aI A) x with
  | none => rw [hx] at h; cases h
  | some j =>
    rw [hx] at h
    obtain ⟨h1, h2⟩ := ixN_some (by have := hA.2.2.2.1.1; omega) hx
    cases hg : iGn (aItm A j) with
    | true => simp [hg] at h
    | false =>
      simp [hg] at h
      subst h
      exact ⟨h1, h2, hg⟩
theorem liveN_nI {A : AS} (hA : aOK A) {i : Nat} (h : i < aI A) : liveN A (nI i) = if iGn (aItm A i) = true then none else some i := by
  unfold liveN
  rw [ixN_nI h (by have := hA.2.2.2.1.1; omega)]
  rfl
theorem optI_some (v : Nat) : optI (some v) = nI v := rfl
theorem optI_inj {o o' : Option Nat} (h : ∀ v, o = some v → v < 2 ^ 31) (h' : ∀ v, o' = some v → v < 2 ^ 31) : optI o = optI o' ↔ o = o' := by
  cases o with
  | none =>
    cases o' with
    | none => exact ⟨fun _ => rfl, fun _ => rfl⟩
    | some v => exact ⟨fun z => absurd z.symm (nI_neg1 (h' v rfl)), fun z => by cases z⟩
  | some v =>
    cases o' with
    | none => exact ⟨fun z => absurd z (nI_neg1 (h v rfl)), fun z => by cases z⟩
    | some w => exact ⟨fun z => by rw [(nI_eq (h v rfl) (h' w rfl)).mp z], fun z => by rw [z]⟩
def s_liveItem : xSp := fun ad h av Q => ∃ A x, pC ad h A ∧ aOK A ∧ av = [.ref (ad (1, 0)), .int x] ∧ Q (some (liveV ad A x)) ad h
set_option maxRecDepth 100000 in
theorem c_X6_liveItem : Ct yX6_liveItem cX6_liveItem 3 (some (.object "MigrateSteps$Item")) (xrm 1 0 0) s_liveItem := by
  refine Ct.of (by decide) ?_
  intro p l e s m args below meth c0 G ad h av Q F hsp
  obtain ⟨A, x, hC, hA, rfl, hQ⟩ := hsp
  refine ⟨x_ent rfl rfl, ?_⟩
  refine x_ls [(0, .ref (ad (1, 0))), (1, .int x)] rfl ?_
  refine x_aload_n (q := 1) F dX6_liveItem_0 rfl rfl (by first | exact xref_r | exact xref_n | exact xref_f _ | assumption) ?_
  refine x_iload_n (q := 2) F dX6_liveItem_1 rfl rfl ?_
  refine x_callV1 (q := 5) F (1, 0) c_X6_itemOf dX6_liveItem_2 rfl mv_X6_itemOf ml_X6_166 ⟨⟨xle rfl, xle rfl⟩, xle rfl, xle rfl⟩ rfl hC.1 (xle rfl) ?_
  refine ⟨A, x, hC, hA, rfl, fun _ => ?_⟩
  cases hx : ixN (aI A) x with
  | none =>
    rw [show itmV ad A x = .null by unfold itmV; rw [hx]; rfl]
    rw [show liveV ad A x = .null by unfold liveV liveN; rw [hx]; rfl] at hQ
    refine x_astore_n (q := 6) F dX6_liveItem_5 rfl (by decide) (by first | exact xref_r | exact xref_n | exact xref_f _ | assumption) ?_
    refine x_aload_n (q := 7) F dX6_liveItem_6 rfl rfl (by first | exact xref_r | exact xref_n | exact xref_f _ | assumption) ?_
    refine x_ifnull (q := 10) F 21 dX6_liveItem_7 (by decide) rfl (by first | exact xref_r | exact xref_n | exact xref_f _ | assumption) (fun c7 => ?_) (fun a7 c7 => ?_)
    · refine x_null (q := 22) F dX6_liveItem_21 rfl ?_
      refine x_aret F dX6_liveItem_22 (xle rfl) (xle rfl) (Or.inl ⟨_, rfl⟩) (by first | exact xref_r | exact xref_n | exact xref_f _ | assumption) ?_
      exact hQ
    · cases c7
  | some i =>
    obtain ⟨hi, rfl⟩ := ixN_some (by have := hA.2.2.2.1.1; omega) hx
    rw [show itmV ad A (nI i) = .ref (ad (30, i)) by unfold itmV; rw [hx]; rfl]
    have e1 := (hC.2.2.2.2.1.2.1 i hi).1
    refine x_astore_n (q := 6) F dX6_liveItem_5 rfl (by decide) (by first | exact xref_r | exact xref_n | exact xref_f _ | assumption) ?_
    refine x_aload_n (q := 7) F dX6_liveItem_6 rfl rfl (by first | exact xref_r | exact xref_n | exact xref_f _ | assumption) ?_
    refine x_ifnull (q := 10) F 21 dX6_liveItem_7 (by decide) rfl (by first | exact xref_r | exact xref_n | exact xref_f _ | assumption) (fun c7 => ?_) (fun a7 c7 => ?_)
    · cases c7
    · refine x_aload_n (q := 11) F dX6_liveItem_10 rfl rfl (by first | exact xref_r | exact xref_n | exact xref_f _ | assumption) ?_
      refine x_getN (q := 14) F dX6_liveItem_11 rfl fn_X6_181 e1 rfl ?_
      cases hg : iGn (aItm A i) with
      | true =>
        rw [show liveV ad A (nI i) = .null by unfold liveV; rw [liveN_nI hA hi, if_pos hg]; rfl] at hQ
        refine x_if_ne (q := 17) F 21 dX6_liveItem_14 (by decide) rfl (fun c14 => ?_) (fun c14 => ?_)
        · refine x_null (q := 22) F dX6_liveItem_21 rfl ?_
          refine x_aret F dX6_liveItem_22 (xle rfl) (xle rfl) (Or.inl ⟨_, rfl⟩) (by first | exact xref_r | exact xref_n | exact xref_f _ | assumption) ?_
          exact hQ
        · exact absurd c14 (by decide)
      | false =>
        rw [show liveV ad A (nI i) = .ref (ad (30, i)) by unfold liveV; rw [liveN_nI hA hi, if_neg (by rw [hg]; decide)]; rfl] at hQ
        refine x_if_ne (q := 17) F 21 dX6_liveItem_14 (by decide) rfl (fun c14 => ?_) (fun c14 => ?_)
        · exact absurd rfl c14
        · refine x_aload_n (q := 18) F dX6_liveItem_17 rfl rfl (by first | exact xref_r | exact xref_n | exact xref_f _ | assumption) ?_
          refine x_goto F 22 dX6_liveItem_18 (by decide) ?_
          refine x_aret F dX6_liveItem_22 (xle rfl) (xle rfl) (Or.inl ⟨_, rfl⟩) (by first | exact xref_r | exact xref_n | exact xref_f _ | assumption) ?_
          exact hQ
def isOrig (A : AS) (x : Int32) : Bool := match ixN (aI A) x with
  | none => false
  | some i => decide (iFr (aItm A i) = none)
def s_isOriginal : xSp := fun ad h av Q => ∃ A x, pC ad h A ∧ aOK A ∧ av = [.ref (ad (1, 0)), .int x] ∧ Q (some (.int (bI (isOrig A x)))) ad h
theorem itm_fr {A : AS} (hA : aOK A) {i : Nat} (hi : i < aI A) : ∀ v, iFr (aItm A i) = some v → v < 2 ^ 31 := fun v hv => by
  have h1 := (hA.2.2.2.1.2 i hi).2.2.1 v hv
  have h2 := hA.2.2.2.1.1
  omega
theorem itm_by {A : AS} (hA : aOK A) {i : Nat} (hi : i < aI A) : ∀ v, iBy (aItm A i) = some v → v < 2 ^ 31 := fun v hv => by
  have h1 := (hA.2.2.2.1.2 i hi).2.2.2.1 v hv
  omega
set_option maxRecDepth 100000 in
theorem c_X6_isOriginal : Ct yX6_isOriginal cX6_isOriginal 3 (some .boolean) (xrm 1 0 0) s_isOriginal := by
  refine Ct.of (by decide) ?_
  intro p l e s m args below meth c0 G ad h av Q F hsp
  obtain ⟨A, x, hC, hA, rfl, hQ⟩ := hsp
  refine ⟨x_ent rfl rfl, ?_⟩
  refine x_ls [(0, .ref (ad (1, 0))), (1, .int x)] rfl ?_
  refine x_aload_n (q := 1) F dX6_isOriginal_0 rfl rfl (by first | exact xref_r | exact xref_n | exact xref_f _ | assumption) ?_
  refine x_iload_n (q := 2) F dX6_isOriginal_1 rfl rfl ?_
  refine x_callV1 (q := 5) F (1, 0) c_X6_itemOf dX6_isOriginal_2 rfl mv_X6_itemOf ml_X6_166 ⟨⟨xle rfl, xle rfl⟩, xle rfl, xle rfl⟩ rfl hC.1 (xle rfl) ?_
  refine ⟨A, x, hC, hA, rfl, fun _ => ?_⟩
  cases hx : ixN (aI A) x with
  | none =>
    rw [show itmV ad A x = .null by unfold itmV; rw [hx]; rfl]
    rw [show isOrig A x = false by unfold isOrig; rw [hx]] at hQ
    refine x_astore_n (q := 6) F dX6_isOriginal_5 rfl (by decide) (by first | exact xref_r | exact xref_n | exact xref_f _ | assumption) ?_
    refine x_aload_n (q := 7) F dX6_isOriginal_6 rfl rfl (by first | exact xref_r | exact xref_n | exact xref_f _ | assumption) ?_
    refine x_ifnull (q := 10) F 22 dX6_isOriginal_7 (by decide) rfl (by first | exact xref_r | exact xref_n | exact xref_f _ | assumption) (fun c7 => ?_) (fun a7 c7 => ?_)
    · refine x_iconst (q := 23) (v := 0) F dX6_isOriginal_22 rfl (by decide) ?_
      refine x_zret F dX6_isOriginal_23 (xle rfl) (xle rfl) (by first | exact Or.inl rfl | exact Or.inr rfl) ?_
      exact hQ
    · cases c7
  | some i =>
    obtain ⟨hi, rfl⟩ := ixN_some (by have := hA.2.2.2.1.1; omega) hx
    rw [show itmV ad A (nI i) = .ref (ad (30, i)) by unfold itmV; rw [hx]; rfl]
    have e1 := (hC.2.2.2.2.1.2.1 i hi).1
    have hfr := itm_fr hA hi
    refine x_astore_n (q := 6) F dX6_isOriginal_5 rfl (by decide) (by first | exact xref_r | exact xref_n | exact xref_f _ | assumption) ?_
    refine x_aload_n (q := 7) F dX6_isOriginal_6 rfl rfl (by first | exact xref_r | exact xref_n | exact xref_f _ | assumption) ?_
    refine x_ifnull (q := 10) F 22 dX6_isOriginal_7 (by decide) rfl (by first | exact xref_r | exact xref_n | exact xref_f _ | assumption) (fun c7 => ?_) (fun a7 c7 => ?_)
    · cases c7
    · refine x_aload_n (q := 11) F dX6_isOriginal_10 rfl rfl (by first | exact xref_r | exact xref_n | exact xref_f _ | assumption) ?_
      refine x_getN (q := 14) F dX6_isOriginal_11 rfl fn_X6_175 e1 rfl ?_
      refine x_iconst (q := 15) (v := -1) F dX6_isOriginal_14 rfl (by decide) ?_
      refine x_icmp_ne (q := 18) F 22 dX6_isOriginal_15 (by decide) rfl (fun c15 => ?_) (fun c15 => ?_)
      · have hz : ¬ iFr (aItm A i) = none := fun z => c15 (by rw [z]; rfl)
        rw [show isOrig A (nI i) = false by unfold isOrig; rw [hx]; exact decide_eq_false hz] at hQ
        refine x_iconst (q := 23) (v := 0) F dX6_isOriginal_22 rfl (by decide) ?_
        refine x_zret F dX6_isOriginal_23 (xle rfl) (xle rfl) (by first | exact Or.inl rfl | exact Or.inr rfl) ?_
        exact hQ
      · have hz : iFr (aItm A i) = none := (optI_inj hfr (o' := none) (fun v z => by cases z)).mp c15
        rw [show isOrig A (nI i) = true by unfold isOrig; rw [hx]; exact decide_eq_true hz] at hQ
        refine x_iconst (q := 19) (v := 1) F dX6_isOriginal_18 rfl (by decide) ?_
        refine x_goto F 23 dX6_isOriginal_19 (by decide) ?_
        refine x_zret F dX6_isOriginal_23 (xle rfl) (xle rfl) (by first | exact Or.inl rfl | exact Or.inr rfl) ?_
        exact hQ
/-- is there one below n -/
def anyB (p : Nat → Bool) : Nat → Bool
  | 0 => false
  | n + 1 => anyB p n || p n
theorem anyB_t {p : Nat → Bool} {i : Nat} (h : p i = true) : ∀ n, i < n → anyB p n = true := by
  intro n
  induction n with
  | zero => intro q; omega
  | succ n ih =>
    intro q
    show (anyB p n || p n) = true
    by_cases z : i = n
    · subst z; rw [h, Bool.or_true]
    · rw [ih (by omega), Bool.true_or]
theorem anyB_f {p : Nat → Bool} : ∀ n, (∀ i, i < n → p i = false) → anyB p n = false := by
  intro n
  induction n with
  | zero => intro _; rfl
  | succ n ih =>
    intro h
    show (anyB p n || p n) = false
    rw [ih (fun i hi => h i (by omega)), h n (by omega)]
    rfl
def derAt (A : AS) (j n : Nat) : Bool := !iGn (aItm A n) && decide (iFr (aItm A n) = some j)
def derByAt (A : AS) (j sc n : Nat) : Bool := derAt A j n && decide (iBy (aItm A n) = some sc)
def hasDer (A : AS) (j : Nat) : Bool := anyB (derAt A j) (aI A)
def hasDerBy (A : AS) (j sc : Nat) : Bool := anyB (derByAt A j sc) (aI A)
def s_hasDerived : xSp := fun ad h av Q => ∃ A j, pC ad h A ∧ aOK A ∧ av = [.ref (ad (1, 0)), .int (nI j)] ∧ j < 1000 ∧ Q (some (.int (bI (hasDer A j)))) ad h
set_option maxRecDepth 100000 in
theorem c_X6_hasDerived : Ct yX6_hasDerived cX6_hasDerived 4 (some .boolean) (xrm 2 0 0) s_hasDerived := by
  refine Ct.of (by decide) ?_
  intro p l e s m args below meth c0 G ad h av Q F hsp
  obtain ⟨A, j, hC, hA, rfl, hj, hQ⟩ := hsp
  have hb := hA.2.2.2.1.1
  refine ⟨x_ent rfl rfl, ?_⟩
  have loop : ∀ n : Nat, n ≤ aI A → (∀ i, i < n → derAt A j i = false) → xX p l e (xrm 2 0 0) s m args below meth c0 G ad h 4 (xZ below G ad h Q args s (xrm 2 0 0)) 2 [(0, .ref (ad (1, 0))), (1, .int (nI j)), (2, .int (nI n))] [] ad h 0 0 := by
    intro n
    induction hd : aI A - n using Nat.strongRecOn generalizing n with
    | ind d ih =>
      intro hn hno
      refine x_iload_n (q := 3) F dX6_hasDerived_2 rfl rfl ?_
      refine x_aload_n (q := 4) F dX6_hasDerived_3 rfl rfl (by first | exact xref_r | exact xref_n | exact xref_f _ | assumption) ?_
      refine x_get (q := 7) F dX6_hasDerived_4 rfl fs_X6_41 hC.1 rfl ?_
      refine x_icmp_ge (q := 10) F 36 dX6_hasDerived_7 (by decide) rfl (fun c7 => ?_) (fun c7 => ?_)
      · have : n = aI A := by have := (nI_leI (by omega) (by omega)).mp c7; omega
        subst this
        rw [show hasDer A j = false from anyB_f _ hno] at hQ
        refine x_iconst (q := 37) (v := 0) F dX6_hasDerived_36 rfl (by decide) ?_
        refine x_zret F dX6_hasDerived_37 (xle rfl) (xle rfl) (by first | exact Or.inl rfl | exact Or.inr rfl) ?_
        exact hQ
      · have hlt : n < aI A := by
          rcases Nat.lt_or_ge n (aI A) with q | q
          · exact q
          · exact absurd ((nI_leI (by omega) (by omega)).mpr q) c7
        have next : derAt A j n = false → xX p l e (xrm 2 0 0) s m args below meth c0 G ad h 4 (xZ below G ad h Q args s (xrm 2 0 0)) 30 [(0, .ref (ad (1, 0))), (1, .int (nI j)), (2, .int (nI n))] [] ad h 0 0 := by
          intro hf
          refine x_iinc (q := 33) F dX6_hasDerived_30 rfl rfl (nI_1 n) (by decide) ?_
          refine x_goto F 2 dX6_hasDerived_33 (by decide) ?_
          refine x_ls [(0, .ref (ad (1, 0))), (1, .int (nI j)), (2, .int (nI (n + 1)))] rfl ?_
          refine ih (aI A - (n + 1)) (by omega) (n + 1) rfl (by omega) (fun i hi => ?_)
          by_cases z : i = n
          · subst z; exact hf
          · exact hno i (by omega)
        refine x_aload_n (q := 11) F dX6_hasDerived_10 rfl rfl (by first | exact xref_r | exact xref_n | exact xref_f _ | assumption) ?_
        refine x_iload_n (q := 12) F dX6_hasDerived_11 rfl rfl ?_
        refine x_callV1 (q := 15) F (1, 0) c_X6_liveItem dX6_hasDerived_12 rfl mv_X6_liveItem ml_X6_123 ⟨⟨xle rfl, xle rfl⟩, xle rfl, xle rfl⟩ rfl hC.1 (xle rfl) ?_
        refine ⟨A, nI n, hC, hA, rfl, fun _ => ?_⟩
        have e1 := (hC.2.2.2.2.1.2.1 n hlt).1
        cases hg : iGn (aItm A n) with
        | true =>
          rw [show liveV ad A (nI n) = .null by unfold liveV; rw [liveN_nI hA hlt, if_pos hg]; rfl]
          refine x_astore_n (q := 16) F dX6_hasDerived_15 rfl (by decide) (by first | exact xref_r | exact xref_n | exact xref_f _ | assumption) ?_
          refine x_aload_n (q := 17) F dX6_hasDerived_16 rfl rfl (by first | exact xref_r | exact xref_n | exact xref_f _ | assumption) ?_
          refine x_ifnull (q := 20) F 30 dX6_hasDerived_17 (by decide) rfl (by first | exact xref_r | exact xref_n | exact xref_f _ | assumption) (fun c17 => ?_) (fun a17 c17 => ?_)
          · refine x_ls [(0, .ref (ad (1, 0))), (1, .int (nI j)), (2, .int (nI n))] rfl ?_
            exact next (by unfold derAt; rw [hg]; rfl)
          · cases c17
        | false =>
          rw [show liveV ad A (nI n) = .ref (ad (30, n)) by unfold liveV; rw [liveN_nI hA hlt, if_neg (by rw [hg]; decide)]; rfl]
          refine x_astore_n (q := 16) F dX6_hasDerived_15 rfl (by decide) (by first | exact xref_r | exact xref_n | exact xref_f _ | assumption) ?_
          refine x_aload_n (q := 17) F dX6_hasDerived_16 rfl rfl (by first | exact xref_r | exact xref_n | exact xref_f _ | assumption) ?_
          refine x_ifnull (q := 20) F 30 dX6_hasDerived_17 (by decide) rfl (by first | exact xref_r | exact xref_n | exact xref_f _ | assumption) (fun c17 => ?_) (fun a17 c17 => ?_)
          · cases c17
          · refine x_aload_n (q := 21) F dX6_hasDerived_20 rfl rfl (by first | exact xref_r | exact xref_n | exact xref_f _ | assumption) ?_
            refine x_getN (q := 24) F dX6_hasDerived_21 rfl fn_X6_175 e1 rfl ?_
            refine x_iload_n (q := 25) F dX6_hasDerived_24 rfl rfl ?_
            refine x_icmp_ne (q := 28) F 30 dX6_hasDerived_25 (by decide) rfl (fun c25 => ?_) (fun c25 => ?_)
            · have hz : ¬ iFr (aItm A n) = some j := fun z => c25 (by rw [z]; rfl)
              refine x_ls [(0, .ref (ad (1, 0))), (1, .int (nI j)), (2, .int (nI n))] rfl ?_
              exact next (by unfold derAt; rw [decide_eq_false hz, Bool.and_false])
            · have hz : iFr (aItm A n) = some j := (optI_inj (itm_fr hA hlt) (o' := some j) (fun v z => by cases z; omega)).mp c25
              rw [show hasDer A j = true from anyB_t (i := n) (by unfold derAt; rw [decide_eq_true hz, hg]; rfl) _ hlt] at hQ
              refine x_iconst (q := 29) (v := 1) F dX6_hasDerived_28 rfl (by decide) ?_
              refine x_zret F dX6_hasDerived_29 (xle rfl) (xle rfl) (by first | exact Or.inl rfl | exact Or.inr rfl) ?_
              exact hQ
  refine x_ls [(0, .ref (ad (1, 0))), (1, .int (nI j))] rfl ?_
  refine x_iconst (q := 1) (v := 0) F dX6_hasDerived_0 rfl (by decide) ?_
  refine x_istore_n (q := 2) F dX6_hasDerived_1 rfl (by decide) ?_
  refine x_ls [(0, .ref (ad (1, 0))), (1, .int (nI j)), (2, .int (nI 0))] rfl ?_
  exact loop 0 (Nat.zero_le _) (fun i hi => absurd hi (Nat.not_lt_zero i))
def s_hasDerivedBy : xSp := fun ad h av Q => ∃ A j sc, pC ad h A ∧ aOK A ∧ av = [.ref (ad (1, 0)), .int (nI j), .int (nI sc)] ∧ j < 1000 ∧ sc < 1000 ∧ Q (some (.int (bI (hasDerBy A j sc)))) ad h
set_option maxRecDepth 100000 in
theorem c_X6_hasDerivedBy : Ct yX6_hasDerivedBy cX6_hasDerivedBy 5 (some .boolean) (xrm 2 0 0) s_hasDerivedBy := by
  refine Ct.of (by decide) ?_
  intro p l e s m args below meth c0 G ad h av Q F hsp
  obtain ⟨A, j, sc, hC, hA, rfl, hj, hsc, hQ⟩ := hsp
  have hb := hA.2.2.2.1.1
  refine ⟨x_ent rfl rfl, ?_⟩
  have loop : ∀ n : Nat, n ≤ aI A → (∀ i, i < n → derByAt A j sc i = false) → xX p l e (xrm 2 0 0) s m args below meth c0 G ad h 5 (xZ below G ad h Q args s (xrm 2 0 0)) 2 [(0, .ref (ad (1, 0))), (1, .int (nI j)), (2, .int (nI sc)), (3, .int (nI n))] [] ad h 0 0 := by
    intro n
    induction hd : aI A - n using Nat.strongRecOn generalizing n with
    | ind d ih =>
      intro hn hno
      refine x_iload_n (q := 3) F dX6_hasDerivedBy_2 rfl rfl ?_
      refine x_aload_n (q := 4) F dX6_hasDerivedBy_3 rfl rfl (by first | exact xref_r | exact xref_n | exact xref_f _ | assumption) ?_
      refine x_get (q := 7) F dX6_hasDerivedBy_4 rfl fs_X6_41 hC.1 rfl ?_
      refine x_icmp_ge (q := 10) F 48 dX6_hasDerivedBy_7 (by decide) rfl (fun c7 => ?_) (fun c7 => ?_)
      · have : n = aI A := by have := (nI_leI (by omega) (by omega)).mp c7; omega
        subst this
        rw [show hasDerBy A j sc = false from anyB_f _ hno] at hQ
        refine x_iconst (q := 49) (v := 0) F dX6_hasDerivedBy_48 rfl (by decide) ?_
        refine x_zret F dX6_hasDerivedBy_49 (xle rfl) (xle rfl) (by first | exact Or.inl rfl | exact Or.inr rfl) ?_
        exact hQ
      · have hlt : n < aI A := by
          rcases Nat.lt_or_ge n (aI A) with q | q
          · exact q
          · exact absurd ((nI_leI (by omega) (by omega)).mpr q) c7
        have next : derByAt A j sc n = false → xX p l e (xrm 2 0 0) s m args below meth c0 G ad h 5 (xZ below G ad h Q args s (xrm 2 0 0)) 42 [(0, .ref (ad (1, 0))), (1, .int (nI j)), (2, .int (nI sc)), (3, .int (nI n))] [] ad h 0 0 := by
          intro hf
          refine x_iinc (q := 45) F dX6_hasDerivedBy_42 rfl rfl (nI_1 n) (by decide) ?_
          refine x_goto F 2 dX6_hasDerivedBy_45 (by decide) ?_
          refine x_ls [(0, .ref (ad (1, 0))), (1, .int (nI j)), (2, .int (nI sc)), (3, .int (nI (n + 1)))] rfl ?_
          refine ih (aI A - (n + 1)) (by omega) (n + 1) rfl (by omega) (fun i hi => ?_)
          by_cases z : i = n
          · subst z; exact hf
          · exact hno i (by omega)
        refine x_aload_n (q := 11) F dX6_hasDerivedBy_10 rfl rfl (by first | exact xref_r | exact xref_n | exact xref_f _ | assumption) ?_
        refine x_iload_n (q := 12) F dX6_hasDerivedBy_11 rfl rfl ?_
        refine x_callV1 (q := 15) F (1, 0) c_X6_liveItem dX6_hasDerivedBy_12 rfl mv_X6_liveItem ml_X6_123 ⟨⟨xle rfl, xle rfl⟩, xle rfl, xle rfl⟩ rfl hC.1 (xle rfl) ?_
        refine ⟨A, nI n, hC, hA, rfl, fun _ => ?_⟩
        have e1 := (hC.2.2.2.2.1.2.1 n hlt).1
        cases hg : iGn (aItm A n) with
        | true =>
          rw [show liveV ad A (nI n) = .null by unfold liveV; rw [liveN_nI hA hlt, if_pos hg]; rfl]
          refine x_astore (q := 17) F dX6_hasDerivedBy_15 rfl (by decide) (by first | exact xref_r | exact xref_n | exact xref_f _ | assumption) ?_
          refine x_aload (q := 19) F dX6_hasDerivedBy_17 rfl rfl (by first | exact xref_r | exact xref_n | exact xref_f _ | assumption) ?_
          refine x_ifnull (q := 22) F 42 dX6_hasDerivedBy_19 (by decide) rfl (by first | exact xref_r | exact xref_n | exact xref_f _ | assumption) (fun c17 => ?_) (fun a19 c17 => ?_)
          · refine x_ls [(0, .ref (ad (1, 0))), (1, .int (nI j)), (2, .int (nI sc)), (3, .int (nI n))] rfl ?_
            exact next (by unfold derByAt derAt; rw [hg]; rfl)
          · cases c17
        | false =>
          rw [show liveV ad A (nI n) = .ref (ad (30, n)) by unfold liveV; rw [liveN_nI hA hlt, if_neg (by rw [hg]; decide)]; rfl]
          refine x_astore (q := 17) F dX6_hasDerivedBy_15 rfl (by decide) (by first | exact xref_r | exact xref_n | exact xref_f _ | assumption) ?_
          refine x_aload (q := 19) F dX6_hasDerivedBy_17 rfl rfl (by first | exact xref_r | exact xref_n | exact xref_f _ | assumption) ?_
          refine x_ifnull (q := 22) F 42 dX6_hasDerivedBy_19 (by decide) rfl (by first | exact xref_r | exact xref_n | exact xref_f _ | assumption) (fun c17 => ?_) (fun a19 c17 => ?_)
          · cases c17
          · refine x_aload (q := 24) F dX6_hasDerivedBy_22 rfl rfl (by first | exact xref_r | exact xref_n | exact xref_f _ | assumption) ?_
            refine x_getN (q := 27) F dX6_hasDerivedBy_24 rfl fn_X6_175 e1 rfl ?_
            refine x_iload_n (q := 28) F dX6_hasDerivedBy_27 rfl rfl ?_
            refine x_icmp_ne (q := 31) F 42 dX6_hasDerivedBy_28 (by decide) rfl (fun c25 => ?_) (fun c25 => ?_)
            · have hz : ¬ iFr (aItm A n) = some j := fun z => c25 (by rw [z]; rfl)
              refine x_ls [(0, .ref (ad (1, 0))), (1, .int (nI j)), (2, .int (nI sc)), (3, .int (nI n))] rfl ?_
              exact next (by unfold derByAt derAt; rw [decide_eq_false hz, Bool.and_false, Bool.false_and])
            · have hz : iFr (aItm A n) = some j := (optI_inj (itm_fr hA hlt) (o' := some j) (fun v z => by cases z; omega)).mp c25
              refine x_aload (q := 33) F dX6_hasDerivedBy_31 rfl rfl (by first | exact xref_r | exact xref_n | exact xref_f _ | assumption) ?_
              refine x_getN (q := 36) F dX6_hasDerivedBy_33 rfl fn_X6_178 e1 rfl ?_
              refine x_iload_n (q := 37) F dX6_hasDerivedBy_36 rfl rfl ?_
              refine x_icmp_ne (q := 40) F 42 dX6_hasDerivedBy_37 (by decide) rfl (fun c37 => ?_) (fun c37 => ?_)
              · have hy : ¬ iBy (aItm A n) = some sc := fun z => c37 (by rw [z]; rfl)
                refine x_ls [(0, .ref (ad (1, 0))), (1, .int (nI j)), (2, .int (nI sc)), (3, .int (nI n))] rfl ?_
                exact next (by unfold derByAt; rw [decide_eq_false hy, Bool.and_false])
              · have hy : iBy (aItm A n) = some sc := (optI_inj (itm_by hA hlt) (o' := some sc) (fun v z => by cases z; omega)).mp c37
                rw [show hasDerBy A j sc = true from anyB_t (i := n) (by unfold derByAt derAt; rw [decide_eq_true hz, decide_eq_true hy, hg]; rfl) _ hlt] at hQ
                refine x_iconst (q := 41) (v := 1) F dX6_hasDerivedBy_40 rfl (by decide) ?_
                refine x_zret F dX6_hasDerivedBy_41 (xle rfl) (xle rfl) (by first | exact Or.inl rfl | exact Or.inr rfl) ?_
                exact hQ
  refine x_ls [(0, .ref (ad (1, 0))), (1, .int (nI j)), (2, .int (nI sc))] rfl ?_
  refine x_iconst (q := 1) (v := 0) F dX6_hasDerivedBy_0 rfl (by decide) ?_
  refine x_istore_n (q := 2) F dX6_hasDerivedBy_1 rfl (by decide) ?_
  refine x_ls [(0, .ref (ad (1, 0))), (1, .int (nI j)), (2, .int (nI sc)), (3, .int (nI 0))] rfl ?_
  exact loop 0 (Nat.zero_le _) (fun i hi => absurd hi (Nat.not_lt_zero i))
def s_against : xSp := fun ad h av Q => ∃ x : Int32, av = [.int x] ∧ Q (some (.int (if x < 0 then x else 0))) ad h
set_option maxRecDepth 100000 in
theorem c_X6_against : Ct yX6_against cX6_against 1 (some .int) (xrm 0 0 0) s_against := by
  refine Ct.of (by decide) ?_
  intro p l e s m args below meth c0 G ad h av Q F hsp
  obtain ⟨x, rfl, hQ⟩ := hsp
  refine ⟨x_ent rfl rfl, ?_⟩
  refine x_ls [(0, .int x)] rfl ?_
  refine x_iload_n (q := 1) F dX6_against_0 rfl rfl ?_
  refine x_if_lt (q := 4) F 8 dX6_against_1 (by decide) rfl (fun c1 => ?_) (fun c1 => ?_)
  · rw [if_pos c1] at hQ
    refine x_iload_n (q := 9) F dX6_against_8 rfl rfl ?_
    refine x_iret F dX6_against_9 (xle rfl) (xle rfl) ?_
    exact hQ
  · rw [if_neg c1] at hQ
    refine x_iconst (q := 5) (v := 0) F dX6_against_4 rfl (by decide) ?_
    refine x_goto F 9 dX6_against_5 (by decide) ?_
    refine x_iret F dX6_against_9 (xle rfl) (xle rfl) ?_
    exact hQ
def nextN (A : AS) (x : Int32) : Option Nat := (ixN (aS A) x).bind (fun s => sNx (aScr A s))
def s_nextOf : xSp := fun ad h av Q => ∃ A x, pC ad h A ∧ aOK A ∧ av = [.ref (ad (1, 0)), .int x] ∧ Q (some (.int (optI (nextN A x)))) ad h
set_option maxRecDepth 100000 in
theorem c_X6_nextOf : Ct yX6_nextOf cX6_nextOf 3 (some .int) (xrm 1 0 0) s_nextOf := by
  refine Ct.of (by decide) ?_
  intro p l e s m args below meth c0 G ad h av Q F hsp
  obtain ⟨A, x, hC, hA, rfl, hQ⟩ := hsp
  refine ⟨x_ent rfl rfl, ?_⟩
  refine x_ls [(0, .ref (ad (1, 0))), (1, .int x)] rfl ?_
  refine x_aload_n (q := 1) F dX6_nextOf_0 rfl rfl (by first | exact xref_r | exact xref_n | exact xref_f _ | assumption) ?_
  refine x_iload_n (q := 2) F dX6_nextOf_1 rfl rfl ?_
  refine x_callV1 (q := 5) F (1, 0) c_X6_scriptOf dX6_nextOf_2 rfl mv_X6_scriptOf ml_X6_108 ⟨⟨xle rfl, xle rfl⟩, xle rfl, xle rfl⟩ rfl hC.1 (xle rfl) ?_
  refine ⟨A, x, hC, hA, rfl, fun _ => ?_⟩
  cases hx : ixN (aS A) x with
  | none =>
    rw [show scrV ad A x = .null by unfold scrV; rw [hx]; rfl]
    rw [show nextN A x = none by unfold nextN; rw [hx]; rfl] at hQ
    refine x_astore_n (q := 6) F dX6_nextOf_5 rfl (by decide) (by first | exact xref_r | exact xref_n | exact xref_f _ | assumption) ?_
    refine x_aload_n (q := 7) F dX6_nextOf_6 rfl rfl (by first | exact xref_r | exact xref_n | exact xref_f _ | assumption) ?_
    refine x_ifnonnull (q := 10) F 14 dX6_nextOf_7 (by decide) rfl (by first | exact xref_r | exact xref_n | exact xref_f _ | assumption) (fun a7 c7 => ?_) (fun c7 => ?_)
    · cases c7
    · refine x_iconst (q := 11) (v := -1) F dX6_nextOf_10 rfl (by decide) ?_
      refine x_goto F 18 dX6_nextOf_11 (by decide) ?_
      refine x_iret F dX6_nextOf_18 (xle rfl) (xle rfl) ?_
      exact hQ
  | some i =>
    obtain ⟨hi, rfl⟩ := ixN_some (by have := hA.2.2.1.1; omega) hx
    rw [show scrV ad A (nI i) = .ref (ad (20, i)) by unfold scrV; rw [hx]; rfl]
    rw [show nextN A (nI i) = sNx (aScr A i) by unfold nextN; rw [hx]; rfl] at hQ
    have e1 := (hC.2.2.2.1.2.1 i hi).1
    refine x_astore_n (q := 6) F dX6_nextOf_5 rfl (by decide) (by first | exact xref_r | exact xref_n | exact xref_f _ | assumption) ?_
    refine x_aload_n (q := 7) F dX6_nextOf_6 rfl rfl (by first | exact xref_r | exact xref_n | exact xref_f _ | assumption) ?_
    refine x_ifnonnull (q := 10) F 14 dX6_nextOf_7 (by decide) rfl (by first | exact xref_r | exact xref_n | exact xref_f _ | assumption) (fun a7 c7 => ?_) (fun c7 => ?_)
    · refine x_aload_n (q := 15) F dX6_nextOf_14 rfl rfl (by first | exact xref_r | exact xref_n | exact xref_f _ | assumption) ?_
      refine x_getN (q := 18) F dX6_nextOf_15 rfl fn_X6_138 e1 rfl ?_
      refine x_iret F dX6_nextOf_18 (xle rfl) (xle rfl) ?_
      exact hQ
    · cases c7
theorem nextN_nI {A : AS} (hA : aOK A) {i : Nat} (h : i < aS A) : nextN A (nI i) = sNx (aScr A i) := by
  unfold nextN
  rw [ixN_nI h (by have := hA.2.2.1.1; omega)]
  rfl
/-- does one come from b on to w within f scripts -/
def comesF (A : AS) (w : Nat) : Nat → Option Nat → Bool
  | 0, _ => false
  | _ + 1, none => false
  | f + 1, some b => if b = w then true else comesF A w f (sNx (aScr A b))
def s_comesTo : xSp := fun ad h av Q => ∃ A b w, pC ad h A ∧ aOK A ∧ av = [.ref (ad (1, 0)), .int (optI b), .int (nI w)] ∧ (∀ v, b = some v → v < aS A) ∧ w < 1000 ∧ Q (some (.int (bI (comesF A w 10 b)))) ad h
set_option maxRecDepth 100000 in
theorem c_X6_comesTo : Ct yX6_comesTo cX6_comesTo 5 (some .boolean) (xrm 2 0 0) s_comesTo := by
  refine Ct.of (by decide) ?_
  intro p l e s m args below meth c0 G ad h av Q F hsp
  obtain ⟨A, b0, w, hC, hA, rfl, hb0, hw, hQ⟩ := hsp
  have hb := hA.2.2.1.1
  refine ⟨x_ent rfl rfl, ?_⟩
  have loop : ∀ (f n : Nat) (b : Option Nat), n + f = 10 → (∀ v, b = some v → v < aS A) → comesF A w f b = comesF A w 10 b0 → xX p l e (xrm 2 0 0) s m args below meth c0 G ad h 5 (xZ below G ad h Q args s (xrm 2 0 0)) 5 [(0, .ref (ad (1, 0))), (2, .int (nI w)), (3, .int (optI b)), (4, .int (nI n))] [] ad h 0 0 := by
    intro f
    induction f with
    | zero =>
      intro n b hn hbb he
      rw [← he] at hQ
      refine x_iload (q := 7) F dX6_comesTo_5 rfl rfl ?_
      refine x_bipush (q := 9) (v := 10) F dX6_comesTo_7 rfl (by decide) ?_
      refine x_icmp_ge (q := 12) F 36 dX6_comesTo_9 (by decide) rfl (fun c9 => ?_) (fun c9 => ?_)
      · refine x_iconst (q := 37) (v := 0) F dX6_comesTo_36 rfl (by decide) ?_
        refine x_zret F dX6_comesTo_37 (xle rfl) (xle rfl) (by first | exact Or.inl rfl | exact Or.inr rfl) ?_
        exact hQ
      · exact absurd ((nI_leI (a := 10) (b := n) (by omega) (by omega)).mpr (by omega)) c9
    | succ f ih =>
      intro n b hn hbb he
      refine x_iload (q := 7) F dX6_comesTo_5 rfl rfl ?_
      refine x_bipush (q := 9) (v := 10) F dX6_comesTo_7 rfl (by decide) ?_
      refine x_icmp_ge (q := 12) F 36 dX6_comesTo_9 (by decide) rfl (fun c9 => ?_) (fun c9 => ?_)
      · exact absurd ((nI_leI (a := 10) (b := n) (by omega) (by omega)).mp c9) (by omega)
      · refine x_iload_n (q := 13) F dX6_comesTo_12 rfl rfl ?_
        refine x_iconst (q := 14) (v := -1) F dX6_comesTo_13 rfl (by decide) ?_
        cases b with
        | none =>
          rw [← he] at hQ
          refine x_icmp_eq (q := 17) F 36 dX6_comesTo_14 (by decide) rfl (fun c14 => ?_) (fun c14 => ?_)
          · refine x_iconst (q := 37) (v := 0) F dX6_comesTo_36 rfl (by decide) ?_
            refine x_zret F dX6_comesTo_37 (xle rfl) (xle rfl) (by first | exact Or.inl rfl | exact Or.inr rfl) ?_
            exact hQ
          · exact absurd rfl c14
        | some v =>
          have hv := hbb v rfl
          refine x_icmp_eq (q := 17) F 36 dX6_comesTo_14 (by decide) rfl (fun c14 => ?_) (fun c14 => ?_)
          · exact absurd c14 (nI_neg1 (by omega))
          · refine x_iload_n (q := 18) F dX6_comesTo_17 rfl rfl ?_
            refine x_iload_n (q := 19) F dX6_comesTo_18 rfl rfl ?_
            refine x_icmp_ne (q := 22) F 24 dX6_comesTo_19 (by decide) rfl (fun c19 => ?_) (fun c19 => ?_)
            · have hz : ¬ v = w := fun z => c19 (by rw [z]; rfl)
              rw [comesF, if_neg hz] at he
              refine x_aload_n (q := 25) F dX6_comesTo_24 rfl rfl (by first | exact xref_r | exact xref_n | exact xref_f _ | assumption) ?_
              refine x_iload_n (q := 26) F dX6_comesTo_25 rfl rfl ?_
              refine x_callV1 (q := 29) F (1, 0) c_X6_nextOf dX6_comesTo_26 rfl mv_X6_nextOf ml_X6_141 ⟨⟨xle rfl, xle rfl⟩, xle rfl, xle rfl⟩ rfl hC.1 (xle rfl) ?_
              refine ⟨A, nI v, hC, hA, rfl, fun _ => ?_⟩
              rw [nextN_nI hA hv]
              refine x_istore_n (q := 30) F dX6_comesTo_29 rfl (by decide) ?_
              refine x_iinc (q := 33) F dX6_comesTo_30 rfl rfl (nI_1 n) (by decide) ?_
              refine x_goto F 5 dX6_comesTo_33 (by decide) ?_
              refine x_ls [(0, .ref (ad (1, 0))), (2, .int (nI w)), (3, .int (optI (sNx (aScr A v)))), (4, .int (nI (n + 1)))] rfl ?_
              exact ih (n + 1) _ (by omega) (fun u hu => (hA.2.2.1.2 v hv).2.2.2.2.2.2 u hu) he
            · have hz : v = w := (nI_eq (by omega) (by omega)).mp c19
              rw [← he, comesF, if_pos hz] at hQ
              refine x_iconst (q := 23) (v := 1) F dX6_comesTo_22 rfl (by decide) ?_
              refine x_zret F dX6_comesTo_23 (xle rfl) (xle rfl) (by first | exact Or.inl rfl | exact Or.inr rfl) ?_
              exact hQ
  refine x_ls [(0, .ref (ad (1, 0))), (1, .int (optI b0)), (2, .int (nI w))] rfl ?_
  refine x_iload_n (q := 1) F dX6_comesTo_0 rfl rfl ?_
  refine x_istore_n (q := 2) F dX6_comesTo_1 rfl (by decide) ?_
  refine x_iconst (q := 3) (v := 0) F dX6_comesTo_2 rfl (by decide) ?_
  refine x_istore (q := 5) F dX6_comesTo_3 rfl (by decide) ?_
  refine x_ls [(0, .ref (ad (1, 0))), (2, .int (nI w)), (3, .int (optI b0)), (4, .int (nI 0))] rfl ?_
  exact loop 10 0 b0 rfl hb0 rfl
