/-! ===== the state, as the document has it; and how the class holds it ===== -/
/-- a script: how many commands, letters, numbers; checks before: how many, kinds, values; checks behind; the next in the chain -/
abbrev ScrD : Type := (Nat × (Nat → Nat) × (Nat → Nat)) × (Nat × (Nat → Nat) × (Nat → Nat)) × (Nat × (Nat → Nat) × (Nat → Nat)) × Option Nat
/-- an item: size, bytes; from, by, the original; the open batch that it is of, gone -/
abbrev ItmD : Type := (Nat × (Nat → Nat)) × (Option Nat × Option Nat × Nat) × (Option Nat × Bool)
def sNk (d : ScrD) : Nat := d.1.1
def sL (d : ScrD) : Nat → Nat := d.1.2.1
def sV (d : ScrD) : Nat → Nat := d.1.2.2
def sBn (d : ScrD) : Nat := d.2.1.1
def sBk (d : ScrD) : Nat → Nat := d.2.1.2.1
def sBv (d : ScrD) : Nat → Nat := d.2.1.2.2
def sHn (d : ScrD) : Nat := d.2.2.1.1
def sHk (d : ScrD) : Nat → Nat := d.2.2.1.2.1
def sHv (d : ScrD) : Nat → Nat := d.2.2.1.2.2
def sNx (d : ScrD) : Option Nat := d.2.2.2
def iN (d : ItmD) : Nat := d.1.1
def iB (d : ItmD) : Nat → Nat := d.1.2
def iFr (d : ItmD) : Option Nat := d.2.1.1
def iBy (d : ItmD) : Option Nat := d.2.1.2.1
def iRt (d : ItmD) : Nat := d.2.1.2.2
def iBt (d : ItmD) : Option Nat := d.2.2.1
def iGn (d : ItmD) : Bool := d.2.2.2
/-- text; collected; scripts; items; STEPS, CELLS; put out; PLACE, steps done; open batches, where wrong, met last -/
abbrev AS : Type := (Nat × (Nat → Nat)) × (Nat × (Nat → Nat)) × (Nat × (Nat → ScrD)) × (Nat × (Nat → ItmD)) × (Nat × Nat) × (Nat × (Nat → Nat)) × (Option Nat × Nat) × (Nat × Option Nat × Int32)
def aNs (A : AS) : Nat := A.1.1
def aSg (A : AS) : Nat → Nat := A.1.2
def aCn (A : AS) : Nat := A.2.1.1
def aCb (A : AS) : Nat → Nat := A.2.1.2
def aS (A : AS) : Nat := A.2.2.1.1
def aScr (A : AS) : Nat → ScrD := A.2.2.1.2
def aI (A : AS) : Nat := A.2.2.2.1.1
def aItm (A : AS) : Nat → ItmD := A.2.2.2.1.2
def aSt (A : AS) : Nat := A.2.2.2.2.1.1
def aNc (A : AS) : Nat := A.2.2.2.2.1.2
def aNo (A : AS) : Nat := A.2.2.2.2.2.1.1
def aOut (A : AS) : Nat → Nat := A.2.2.2.2.2.1.2
def aFa (A : AS) : Option Nat := A.2.2.2.2.2.2.1.1
def aCt (A : AS) : Nat := A.2.2.2.2.2.2.1.2
def aOb (A : AS) : Nat := A.2.2.2.2.2.2.2.1
def aWr (A : AS) : Option Nat := A.2.2.2.2.2.2.2.2.1
def aMl (A : AS) : Int32 := A.2.2.2.2.2.2.2.2.2
def setTx (A : AS) (x : Nat × (Nat → Nat)) : AS := (x, A.2.1, A.2.2.1, A.2.2.2.1, A.2.2.2.2.1, A.2.2.2.2.2.1, A.2.2.2.2.2.2.1, A.2.2.2.2.2.2.2)
def setCo (A : AS) (x : Nat × (Nat → Nat)) : AS := (A.1, x, A.2.2.1, A.2.2.2.1, A.2.2.2.2.1, A.2.2.2.2.2.1, A.2.2.2.2.2.2.1, A.2.2.2.2.2.2.2)
def setSc (A : AS) (x : Nat × (Nat → ScrD)) : AS := (A.1, A.2.1, x, A.2.2.2.1, A.2.2.2.2.1, A.2.2.2.2.2.1, A.2.2.2.2.2.2.1, A.2.2.2.2.2.2.2)
def setIt (A : AS) (x : Nat × (Nat → ItmD)) : AS := (A.1, A.2.1, A.2.2.1, x, A.2.2.2.2.1, A.2.2.2.2.2.1, A.2.2.2.2.2.2.1, A.2.2.2.2.2.2.2)
def setRn (A : AS) (x : Nat × (Nat → Nat)) (y : Option Nat × Nat) : AS := (A.1, A.2.1, A.2.2.1, A.2.2.2.1, A.2.2.2.2.1, x, y, A.2.2.2.2.2.2.2)
def setOb (A : AS) (x : Nat) : AS := (A.1, A.2.1, A.2.2.1, A.2.2.2.1, A.2.2.2.2.1, A.2.2.2.2.2.1, A.2.2.2.2.2.2.1, (x, aWr A, aMl A))
def setWr (A : AS) (x : Option Nat) : AS := (A.1, A.2.1, A.2.2.1, A.2.2.2.1, A.2.2.2.2.1, A.2.2.2.2.2.1, A.2.2.2.2.2.2.1, (aOb A, x, aMl A))
def setMl (A : AS) (x : Int32) : AS := (A.1, A.2.1, A.2.2.1, A.2.2.2.1, A.2.2.2.2.1, A.2.2.2.2.2.1, A.2.2.2.2.2.2.1, (aOb A, aWr A, x))
def updS (f : Nat → ScrD) (j : Nat) (v : ScrD) : Nat → ScrD := fun i => if i = j then v else f i
def updI (f : Nat → ItmD) (j : Nat) (v : ItmD) : Nat → ItmD := fun i => if i = j then v else f i
def setBt (d : ItmD) (x : Option Nat) : ItmD := (d.1, d.2.1, (x, d.2.2.2))
def setGn (d : ItmD) (x : Bool) : ItmD := (d.1, d.2.1, (d.2.2.1, x))
def setNx (d : ScrD) (x : Option Nat) : ScrD := (d.1, d.2.1, d.2.2.1, x)
/-- numbers in their ranges: a script, an item, all -/
def scrOK (nS : Nat) (d : ScrD) : Prop := sNk d ≤ 40 ∧ (∀ j, j < sNk d → sL d j ∈ L14 ∧ sV d j < 256) ∧ sBn d ≤ 4 ∧ (∀ j, j < sBn d → sBk d j ≤ 3 ∧ sBv d j < 256) ∧ sHn d ≤ 4 ∧ (∀ j, j < sHn d → sHk d j ≤ 3 ∧ sHv d j < 256) ∧ ∀ t, sNx d = some t → t < nS
def itmOK (nI i : Nat) (d : ItmD) : Prop := iN d ≤ 40 ∧ (∀ j, j < iN d → iB d j < 256) ∧ (∀ x, iFr d = some x → x < i) ∧ (∀ x, iBy d = some x → x < 10) ∧ iRt d < nI ∧ (∀ x, iBt d = some x → x < 1000) ∧ (iFr d = none → iGn d = false)
def aOK (A : AS) : Prop := (aNs A ≤ 200 ∧ ∀ j, j < aNs A → aSg A j < 256) ∧ (aCn A ≤ 40 ∧ ∀ j, j < aCn A → aCb A j < 256) ∧ (aS A ≤ 10 ∧ ∀ s, s < aS A → scrOK (aS A) (aScr A s)) ∧ (aI A ≤ 60 ∧ ∀ i, i < aI A → itmOK (aI A) i (aItm A i)) ∧ (aSt A ≤ 2000 ∧ aNc A ≤ 32) ∧ (aNo A ≤ 40 ∧ ∀ j, j < aNo A → aOut A j < 256) ∧ (∀ x, aFa A = some x → x < 256) ∧ (aOb A ≤ 600 ∧ ∀ x, aWr A = some x → x < 1000)
abbrev cQ (ti N : Nat) (f : Nat → Option Nat) : xE := .inl (ti, N, .inr (.inr (.inr (.inr f))))
/-- a script in its cells -/
def pScr (ad : xAd) (h : xH) (s : Nat) (d : ScrD) : Prop :=
  h (20, s) = some (cScr (ad (21, s)) (ad (22, s)) (ad (23, s)) (ad (24, s)) (optI (sNx d))) ∧ h (21, s) = some (cN (sNk d) (sL d)) ∧ h (22, s) = some (cN (sNk d) (sV d)) ∧
  h (23, s) = some (cChk (ad (25, s)) (ad (26, s)) (nI (sBn d))) ∧ h (24, s) = some (cChk (ad (27, s)) (ad (28, s)) (nI (sHn d))) ∧ h (25, s) = some (cN 4 (sBk d)) ∧ h (26, s) = some (cN 4 (sBv d)) ∧ h (27, s) = some (cN 4 (sHk d)) ∧ h (28, s) = some (cN 4 (sHv d))
/-- an item in its cells -/
def pItm (ad : xAd) (h : xH) (i : Nat) (d : ItmD) : Prop :=
  h (30, i) = some (cItem (ad (31, i)) (optI (iFr d)) (optI (iBy d)) (nI (iRt d)) (optI (iBt d)) (iGn d)) ∧ h (31, i) = some (cRow (ad (32, i)) (nI (iN d))) ∧ h (32, i) = some (cN (iN d) (iB d))
abbrev cMain (ad : xAd) (A : AS) : xE := .inr (6, [.ref (ad (2, 0)), .ref (ad (6, 0)), .ref (ad (8, 0)), .ref (ad (9, 0)), .ref (ad (10, 0)), .int (nI (aS A)), .int (nI (aI A)), .int (nI (aOb A)), .int (optI (aWr A)), .int (aMl A)])
def refN (ad : xAd) (k n : Nat) : Nat → Option Nat := fun s => if s < n then some (ad (k, s)) else none
def pTx (ad : xAd) (h : xH) (A : AS) : Prop := ∃ lt nu k, h (2, 0) = some (cTxt (ad (3, 0)) (ad (4, 0)) (ad (5, 0)) (aNs A) k) ∧ h (3, 0) = some (cN 200 (aSg A)) ∧ h (4, 0) = some (cN 40 lt) ∧ h (5, 0) = some (cN 40 nu)
def pRn (ad : xAd) (h : xH) (A : AS) : Prop := ∃ mem a i p fl, h (11, 0) = some (cN (aNc A) mem) ∧ h (13, 0) = some (cN 40 (aOut A)) ∧ h (12, 0) = some (cRow (ad (13, 0)) (nI (aNo A))) ∧
  h (10, 0) = some (.inr (3, [.int (nI (aSt A)), .ref (ad (11, 0)), .ref (ad (12, 0)), .int (nI a), .int (nI i), .int (nI p), .int (nI fl), .int (optI (aFa A)), .long (lN (aCt A))]))
def pC (ad : xAd) (h : xH) (A : AS) : Prop :=
  h (1, 0) = some (cMain ad A) ∧ pTx ad h A ∧ (h (6, 0) = some (cRow (ad (7, 0)) (nI (aCn A))) ∧ h (7, 0) = some (cN 40 (aCb A))) ∧
  (h (8, 0) = some (cQ 4 10 (refN ad 20 (aS A))) ∧ (∀ s, s < aS A → pScr ad h s (aScr A s)) ∧ ∀ k s, 20 ≤ k → k ≤ 28 → aS A ≤ s → h (k, s) = none) ∧
  (h (9, 0) = some (cQ 5 60 (refN ad 30 (aI A))) ∧ (∀ i, i < aI A → pItm ad h i (aItm A i)) ∧ ∀ k i, 30 ≤ k → k ≤ 32 → aI A ≤ i → h (k, i) = none) ∧ pRn ad h A
/-- a number as an index below n -/
def ixN (n : Nat) (x : Int32) : Option Nat := if x < 0 ∨ n ≤ x.toNatClampNeg then none else some x.toNatClampNeg
theorem ixN_nI {n j : Nat} (h : j < n) (hn : n < 2 ^ 31) : ixN n (nI j) = some j := by
  unfold ixN
  rw [if_neg (vp_in_nI h hn), nI_clamp (by omega)]
theorem ixN_neg {n : Nat} {x : Int32} (h : x < 0) : ixN n x = none := if_pos (Or.inl h)
theorem ixN_ge {n : Nat} {x : Int32} (hn : n < 2 ^ 31) (h : nI n ≤ x) : ixN n x = none := by
  unfold ixN
  by_cases q : x < 0
  · rw [if_pos (Or.inl q)]
  · obtain ⟨j, hj, rfl⟩ := nI_of q
    rw [if_pos (Or.inr ?_)]
    rw [nI_clamp hj]
    exact (nI_leI hn hj).mp h
theorem ixN_some {n : Nat} (hn : n < 2 ^ 31) {x : Int32} {j : Nat} (h : ixN n x = some j) : j < n ∧ x = nI j := by
  rcases pk_ix x hn with q | q | ⟨i, hi, rfl⟩
  · rw [ixN_neg q] at h; cases h
  · rw [ixN_ge hn q] at h; cases h
  · rw [ixN_nI hi hn] at h; cases h; exact ⟨hi, rfl⟩
def scrV (ad : xAd) (A : AS) (x : Int32) : Value := va_rf ((ixN (aS A) x).map (fun s => ad (20, s)))
def itmV (ad : xAd) (A : AS) (x : Int32) : Value := va_rf ((ixN (aI A) x).map (fun i => ad (30, i)))
def s_scriptOf : xSp := fun ad h av Q => ∃ A x, pC ad h A ∧ aOK A ∧ av = [.ref (ad (1, 0)), .int x] ∧ Q (some (scrV ad A x)) ad h
def s_itemOf : xSp := fun ad h av Q => ∃ A x, pC ad h A ∧ aOK A ∧ av = [.ref (ad (1, 0)), .int x] ∧ Q (some (itmV ad A x)) ad h
set_option maxRecDepth 100000 in
theorem c_X6_scriptOf : Ct yX6_scriptOf cX6_scriptOf 2 (some (.object "MigrateSteps$Script")) (xrm 0 0 0) s_scriptOf := by
  refine Ct.of (by decide) ?_
  intro p l e s m args below meth c0 G ad h av Q F hsp
  obtain ⟨A, x, hC, hA, rfl, hQ⟩ := hsp
  obtain ⟨hM, hT, hCo, hS, hI, hRn⟩ := hC
  have hb := hA.2.2.1.1
  refine ⟨x_ent rfl rfl, ?_⟩
  refine x_ls [(0, .ref (ad (1, 0))), (1, .int x)] rfl ?_
  refine x_iload_n (q := 1) F dX6_scriptOf_0 rfl rfl ?_
  refine x_if_lt (q := 4) F 21 dX6_scriptOf_1 (by decide) rfl (fun c1 => ?_) (fun c1 => ?_)
  · refine x_null (q := 22) F dX6_scriptOf_21 rfl ?_
    refine x_aret F dX6_scriptOf_22 (xle rfl) (xle rfl) (Or.inl ⟨_, rfl⟩) (by first | exact xref_r | exact xref_n | exact xref_f _ | assumption) ?_
    rw [show scrV ad A x = .null by unfold scrV; rw [ixN_neg c1]; rfl] at hQ
    exact hQ
  · refine x_iload_n (q := 5) F dX6_scriptOf_4 rfl rfl ?_
    refine x_aload_n (q := 6) F dX6_scriptOf_5 rfl rfl (by first | exact xref_r | exact xref_n | exact xref_f _ | assumption) ?_
    refine x_get (q := 9) F dX6_scriptOf_6 rfl fs_X6_37 hM rfl ?_
    refine x_icmp_ge (q := 12) F 21 dX6_scriptOf_9 (by decide) rfl (fun c9 => ?_) (fun c9 => ?_)
    · refine x_null (q := 22) F dX6_scriptOf_21 rfl ?_
      refine x_aret F dX6_scriptOf_22 (xle rfl) (xle rfl) (Or.inl ⟨_, rfl⟩) (by first | exact xref_r | exact xref_n | exact xref_f _ | assumption) ?_
      rw [show scrV ad A x = .null by unfold scrV; rw [ixN_ge (by omega) c9]; rfl] at hQ
      exact hQ
    · obtain ⟨j, hj, rfl⟩ := nI_of c1
      have hlt : j < aS A := by
        rcases Nat.lt_or_ge j (aS A) with q | q
        · exact q
        · exact absurd ((nI_leI (by omega) (by omega)).mpr q) c9
      refine x_aload_n (q := 13) F dX6_scriptOf_12 rfl rfl (by first | exact xref_r | exact xref_n | exact xref_f _ | assumption) ?_
      refine x_get (q := 16) F dX6_scriptOf_13 rfl fs_X6_27 hM rfl ?_
      refine x_iload_n (q := 17) F dX6_scriptOf_16 rfl rfl ?_
      refine x_aald4 (q := 18) F dX6_scriptOf_17 rfl hS.1 rfl (by omega) (by omega) ?_
      refine x_goto F 22 dX6_scriptOf_18 (by decide) ?_
      refine x_aret F dX6_scriptOf_22 (xle rfl) (xle rfl) (Or.inl ⟨_, rfl⟩) (by first | exact xref_r | exact xref_n | exact xref_f _ | assumption) ?_
      rw [show scrV ad A (nI j) = va_rf (refN ad 20 (aS A) j) by unfold scrV refN; rw [ixN_nI hlt (by omega), if_pos hlt]; rfl] at hQ
      exact hQ
set_option maxRecDepth 100000 in
theorem c_X6_itemOf : Ct yX6_itemOf cX6_itemOf 2 (some (.object "MigrateSteps$Item")) (xrm 0 0 0) s_itemOf := by
  refine Ct.of (by decide) ?_
  intro p l e s m args below meth c0 G ad h av Q F hsp
  obtain ⟨A, x, hC, hA, rfl, hQ⟩ := hsp
  obtain ⟨hM, hT, hCo, hS, hI, hRn⟩ := hC
  have hb := hA.2.2.2.1.1
  refine ⟨x_ent rfl rfl, ?_⟩
  refine x_ls [(0, .ref (ad (1, 0))), (1, .int x)] rfl ?_
  refine x_iload_n (q := 1) F dX6_itemOf_0 rfl rfl ?_
  refine x_if_lt (q := 4) F 21 dX6_itemOf_1 (by decide) rfl (fun c1 => ?_) (fun c1 => ?_)
  · refine x_null (q := 22) F dX6_itemOf_21 rfl ?_
    refine x_aret F dX6_itemOf_22 (xle rfl) (xle rfl) (Or.inl ⟨_, rfl⟩) (by first | exact xref_r | exact xref_n | exact xref_f _ | assumption) ?_
    rw [show itmV ad A x = .null by unfold itmV; rw [ixN_neg c1]; rfl] at hQ
    exact hQ
  · refine x_iload_n (q := 5) F dX6_itemOf_4 rfl rfl ?_
    refine x_aload_n (q := 6) F dX6_itemOf_5 rfl rfl (by first | exact xref_r | exact xref_n | exact xref_f _ | assumption) ?_
    refine x_get (q := 9) F dX6_itemOf_6 rfl fs_X6_41 hM rfl ?_
    refine x_icmp_ge (q := 12) F 21 dX6_itemOf_9 (by decide) rfl (fun c9 => ?_) (fun c9 => ?_)
    · refine x_null (q := 22) F dX6_itemOf_21 rfl ?_
      refine x_aret F dX6_itemOf_22 (xle rfl) (xle rfl) (Or.inl ⟨_, rfl⟩) (by first | exact xref_r | exact xref_n | exact xref_f _ | assumption) ?_
      rw [show itmV ad A x = .null by unfold itmV; rw [ixN_ge (by omega) c9]; rfl] at hQ
      exact hQ
    · obtain ⟨j, hj, rfl⟩ := nI_of c1
      have hlt : j < aI A := by
        rcases Nat.lt_or_ge j (aI A) with q | q
        · exact q
        · exact absurd ((nI_leI (by omega) (by omega)).mpr q) c9
      refine x_aload_n (q := 13) F dX6_itemOf_12 rfl rfl (by first | exact xref_r | exact xref_n | exact xref_f _ | assumption) ?_
      refine x_get (q := 16) F dX6_itemOf_13 rfl fs_X6_33 hM rfl ?_
      refine x_iload_n (q := 17) F dX6_itemOf_16 rfl rfl ?_
      refine x_aald5 (q := 18) F dX6_itemOf_17 rfl hI.1 rfl (by omega) (by omega) ?_
      refine x_goto F 22 dX6_itemOf_18 (by decide) ?_
      refine x_aret F dX6_itemOf_22 (xle rfl) (xle rfl) (Or.inl ⟨_, rfl⟩) (by first | exact xref_r | exact xref_n | exact xref_f _ | assumption) ?_
      rw [show itmV ad A (nI j) = va_rf (refN ad 30 (aI A) j) by unfold itmV refN; rw [ixN_nI hlt (by omega), if_pos hlt]; rfl] at hQ
      exact hQ
