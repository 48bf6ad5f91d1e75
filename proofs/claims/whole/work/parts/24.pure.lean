/-! ===== the pure side of what the class's public methods do ===== -/
theorem loopF_fa {nc sz : Nat} {f L V : Nat → Nat} {nk : Nat} : ∀ (k : Nat) (q : RS) (fa : Option Nat) (d : Nat), (∀ x, fa = some x → x < nk) → ∀ x, (loopF nc sz f L V nk k q fa d).2.1 = some x → x < nk := by
  intro k
  induction k with
  | zero => intro q fa d h; exact h
  | succ k ih =>
    intro q fa d h
    unfold loopF
    by_cases z : rP q < nk ∧ rF q = 0
    · rw [if_pos z]
      refine ih _ _ _ (fun x hx => ?_)
      by_cases y : rF (stepF nc sz f (L (rP q)) (V (rP q)) (setP q (rP q + 1))) = 0
      · rw [if_pos y] at hx; exact h x hx
      · rw [if_neg y] at hx; cases hx; exact z.1
    · rw [if_neg z]; exact h
theorem runF_fa {nc sz : Nat} {f L V : Nat → Nat} {nk st : Nat} {out : Nat → Nat} : ∀ x, (runF nc sz f L V nk st out).2.1 = some x → x < nk := by
  intro x
  have h := loopF_fa (nc := nc) (sz := sz) (f := f) (L := L) (V := V) (nk := nk) st (fun _ => 0, 0, out, 0, 0, 0, 0) none 0 (fun x z => by cases z) x
  unfold runF endF
  by_cases q : rF (loopF nc sz f L V nk st (fun _ => 0, 0, out, 0, 0, 0, 0) none 0).1 = 0 ∧ rP (loopF nc sz f L V nk st (fun _ => 0, 0, out, 0, 0, 0, 0) none 0).1 < nk
  · rw [if_pos q]
    intro z
    cases z
    exact q.2
  · rw [if_neg q]; exact h
theorem ranA_ok {A : AS} (hA : aOK A) {i sc : Nat} (hi : i < aI A) (hs : sc < aS A) : aOK (ranA A i sc) := by
  have hok := runA_ok hA hi hs
  obtain ⟨h1, h2, h3, h4, h5, h6, h7, h8⟩ := hA
  refine ⟨h1, h2, h3, h4, h5, ⟨hok.2.2.1, hok.2.2.2.2.2.2⟩, fun x hx => ?_, h8⟩
  have := runF_fa x hx
  have := (h3.2 sc hs).1
  omega
theorem itmOK_mono {n m i : Nat} {d : ItmD} (h : itmOK n i d) (hm : n ≤ m) : itmOK m i d := ⟨h.1, h.2.1, h.2.2.1, h.2.2.2.1, Nat.lt_of_lt_of_le h.2.2.2.2.1 hm, h.2.2.2.2.2⟩
/-- one item more -/
theorem aOK.push {A : AS} (hA : aOK A) (hlt : aI A < 60) {d : ItmD} (hd : itmOK (aI A + 1) (aI A) d) : aOK (setIt A (aI A + 1, updI (aItm A) (aI A) d)) := by
  obtain ⟨h1, h2, h3, h4, h5, h6, h7, h8⟩ := hA
  refine ⟨h1, h2, h3, ⟨by show aI A + 1 ≤ 60; omega, fun j hj => ?_⟩, h5, h6, h7, h8⟩
  have hj : j < aI A + 1 := hj
  show itmOK (aI A + 1) j (updI (aItm A) (aI A) d j)
  by_cases z : j = aI A
  · subst z; rw [show updI (aItm A) (aI A) d (aI A) = d from if_pos rfl]; exact hd
  · rw [show updI (aItm A) (aI A) d j = aItm A j from if_neg z]; exact itmOK_mono (h4.2 j (by omega)) (by omega)
/-- an item changed -/
theorem aOK.item {A : AS} (hA : aOK A) {i : Nat} {d : ItmD} (hd : itmOK (aI A) i d) : aOK (setIt A (aI A, updI (aItm A) i d)) := by
  obtain ⟨h1, h2, h3, h4, h5, h6, h7, h8⟩ := hA
  refine ⟨h1, h2, h3, ⟨h4.1, fun j hj => ?_⟩, h5, h6, h7, h8⟩
  have hj : j < aI A := hj
  show itmOK (aI A) j (updI (aItm A) i d j)
  by_cases z : j = i
  · subst z; rw [show updI (aItm A) j d j = d from if_pos rfl]; exact hd
  · rw [show updI (aItm A) i d j = aItm A j from if_neg z]; exact h4.2 j hj
theorem newI_ok {A : AS} (hA : aOK A) {i sc : Nat} (hi : i < aI A) (hs : sc < aS A) : itmOK (aI A + 1) (aI A) (newI A i sc) := by
  have hok := runA_ok hA hi hs
  have hS := hA.2.2.1.1
  have hr := (hA.2.2.2.1.2 i hi).2.2.2.2.1
  exact ⟨hok.2.2.1, hok.2.2.2.2.2.2, fun x hx => (by cases hx; exact hi), fun x hx => (by cases hx; omega), (by show iRt (aItm A i) < aI A + 1; omega), fun x hx => (by cases hx), fun z => (by cases z)⟩
/-- what can come of it -/
theorem deriveF_cases {A : AS} (hA : aOK A) {i sc : Nat} (hi : i < aI A) (hs : sc < aS A) : ((deriveF A i sc).1 < 0 ∧ aOK (deriveF A i sc).2 ∧ aI (deriveF A i sc).2 = aI A ∧ aItm (deriveF A i sc).2 = aItm A) ∨ (aI A < 60 ∧ (deriveF A i sc).1 = nI (aI A) ∧ (deriveF A i sc).2 = setIt (ranA A i sc) (aI A + 1, updI (aItm A) (aI A) (newI A i sc)) ∧ aOK (deriveF A i sc).2) := by
  unfold deriveF
  have hfl : rF (runA A i sc).1 ≤ 4 := (runA_ok hA hi hs).2.2.2.2.2.1
  by_cases a1 : hasDerBy A i sc = true
  · rw [if_pos a1]; exact Or.inl ⟨(by show (-11 : Int32) < 0; decide), hA, rfl, rfl⟩
  rw [if_neg a1]
  by_cases a2 : chkB (aScr A sc) (iN (aItm A i)) (iB (aItm A i)) = false
  · rw [if_pos a2]; exact Or.inl ⟨(by show (-12 : Int32) < 0; decide), hA, rfl, rfl⟩
  rw [if_neg a2]
  by_cases a3 : rF (runA A i sc).1 ≠ 0
  · rw [if_pos a3]
    refine Or.inl ⟨?_, ranA_ok hA hi hs, rfl, rfl⟩
    show -12 - nI (rF (runA A i sc).1) < 0
    rcases (show rF (runA A i sc).1 = 0 ∨ rF (runA A i sc).1 = 1 ∨ rF (runA A i sc).1 = 2 ∨ rF (runA A i sc).1 = 3 ∨ rF (runA A i sc).1 = 4 by omega) with z | z | z | z | z <;> rw [z] <;> decide
  rw [if_neg a3]
  by_cases a4 : chkH (aScr A sc) (rNo (runA A i sc).1) (rOut (runA A i sc).1) = false
  · rw [if_pos a4]; exact Or.inl ⟨(by show (-17 : Int32) < 0; decide), ranA_ok hA hi hs, rfl, rfl⟩
  rw [if_neg a4]
  by_cases a5 : 60 ≤ aI A
  · rw [if_pos a5]; exact Or.inl ⟨(by show (-4 : Int32) < 0; decide), ranA_ok hA hi hs, rfl, rfl⟩
  rw [if_neg a5]
  exact Or.inr ⟨by omega, rfl, rfl, (ranA_ok hA hi hs).push (show aI A < 60 by omega) (newI_ok hA hi hs)⟩
/-- what stays of a state when items come -/
def sameS (A B : AS) : Prop := aS B = aS A ∧ aScr B = aScr A ∧ aOb B = aOb A ∧ aMl B = aMl A ∧ aWr B = aWr A
theorem deriveF_same (A : AS) (i sc : Nat) : sameS A (deriveF A i sc).2 := by
  unfold deriveF
  by_cases a1 : hasDerBy A i sc = true
  · rw [if_pos a1]; exact ⟨rfl, rfl, rfl, rfl, rfl⟩
  rw [if_neg a1]
  by_cases a2 : chkB (aScr A sc) (iN (aItm A i)) (iB (aItm A i)) = false
  · rw [if_pos a2]; exact ⟨rfl, rfl, rfl, rfl, rfl⟩
  rw [if_neg a2]
  by_cases a3 : rF (runA A i sc).1 ≠ 0
  · rw [if_pos a3]; exact ⟨rfl, rfl, rfl, rfl, rfl⟩
  rw [if_neg a3]
  by_cases a4 : chkH (aScr A sc) (rNo (runA A i sc).1) (rOut (runA A i sc).1) = false
  · rw [if_pos a4]; exact ⟨rfl, rfl, rfl, rfl, rfl⟩
  rw [if_neg a4]
  by_cases a5 : 60 ≤ aI A
  · rw [if_pos a5]; exact ⟨rfl, rfl, rfl, rfl, rfl⟩
  rw [if_neg a5]; exact ⟨rfl, rfl, rfl, rfl, rfl⟩
def lowB (x : Int32) : Nat := x.toBitVec.toNat % 256
theorem lowB_eq (x : Int32) : x &&& 255 = nI (lowB x) := pk_and x 8 (by decide)
theorem lowB_lt (x : Int32) : lowB x < 256 := Nat.mod_lt _ (by decide)
def ag (x : Int32) : Int32 := if x < 0 then x else 0
def signF (A : AS) (x : Int32) : AS := if aNs A < 200 then setTx A (aNs A + 1, updN (aSg A) (aNs A) (lowB x)) else A
def octetF (A : AS) (x : Int32) : AS := if aCn A < 40 then setCo A (aCn A + 1, updN (aCb A) (aCn A) (lowB x)) else A
def origI (A : AS) : ItmD := ((aCn A, aCb A), (none, none, aI A), (none, false))
def originalF (A : AS) : Int32 × AS := if 60 ≤ aI A then (-4, A) else (nI (aI A), setCo (setIt A (aI A + 1, updI (aItm A) (aI A) (origI A))) (0, aCb A))
def addB (d : ScrD) (k v : Nat) : ScrD := (d.1, (sBn d + 1, updN (sBk d) (sBn d) k, updN (sBv d) (sBn d) v), d.2.2.1, d.2.2.2)
def addH (d : ScrD) (k v : Nat) : ScrD := (d.1, d.2.1, (sHn d + 1, updN (sHk d) (sHn d) k, updN (sHv d) (sHn d) v), d.2.2.2)
def checkF (A : AS) (x : Int32) (bh : Bool) (kd v : Int32) : Int32 × AS := match ixN (aS A) x with
  | none => (-1, A)
  | some s => match ixN 4 kd, ixN 256 v with
    | some k, some w => if bh = true then (if sHn (aScr A s) < 4 then (nI (sHn (aScr A s) + 1), setSc A (aS A, updS (aScr A) s (addH (aScr A s) k w))) else (-4, A)) else (if sBn (aScr A s) < 4 then (nI (sBn (aScr A s) + 1), setSc A (aS A, updS (aScr A) s (addB (aScr A s) k w))) else (-4, A))
    | _, _ => (-2, A)
def migrateF (A : AS) (x y : Int32) : Int32 × AS := match liveN A x, ixN (aS A) y with
  | some i, some sc => ((deriveF A i sc).1, setMl (deriveF A i sc).2 (ag (deriveF A i sc).1))
  | _, _ => (-1, A)
def chainF (A : AS) (x y : Int32) : Int32 × AS := match ixN (aS A) x with
  | none => (-1, A)
  | some s => if y = -1 then (1, setSc A (aS A, updS (aScr A) s (setNx (aScr A s) none))) else match ixN (aS A) y with
    | none => (-1, A)
    | some t => if comesF A s 10 (some t) = true then (-3, A) else (1, setSc A (aS A, updS (aScr A) s (setNx (aScr A s) (some t))))
def goesF : Nat → AS → Nat → Option Nat → Nat × AS
  | 0, A, _, _ => (0, A)
  | _ + 1, A, _, none => (0, A)
  | f + 1, A, i, some sc => if (deriveF A i sc).1 < 0 then (0, setMl (deriveF A i sc).2 (ag (deriveF A i sc).1)) else ((goesF f (setMl (deriveF A i sc).2 (ag (deriveF A i sc).1)) (aI A) (sNx (aScr A sc))).1 + 1, (goesF f (setMl (deriveF A i sc).2 (ag (deriveF A i sc).1)) (aI A) (sNx (aScr A sc))).2)
def goesOnF (A : AS) (x y : Int32) : Int32 × AS := match liveN A x, ixN (aS A) y with
  | some i, some sc => (nI (goesF 10 A i (some sc)).1, (goesF 10 A i (some sc)).2)
  | _, _ => (-1, A)
/-- an item that came joins the batch -/
def joinA (A : AS) (n : Nat) : AS := setIt A (aI A, updI (aItm A) n (setBt (aItm A n) (some (aOb A))))
def batF (sc : Nat) : Nat → Nat → AS → Nat × AS
  | 0, _, A => (0, A)
  | f + 1, n, A => if iFr (aItm A n) = none then (if (deriveF A n sc).1 < 0 then batF sc f (n + 1) (deriveF A n sc).2 else ((batF sc f (n + 1) (joinA (deriveF A n sc).2 (aI A))).1 + 1, (batF sc f (n + 1) (joinA (deriveF A n sc).2 (aI A))).2)) else batF sc f (n + 1) A
def batchF (A : AS) (x : Int32) : Int32 × AS := match ixN (aS A) x with
  | none => (-1, A)
  | some sc => (nI (batF sc (aI A) 0 A).1, if 0 < (batF sc (aI A) 0 A).1 then setOb (batF sc (aI A) 0 A).2 (aOb (batF sc (aI A) 0 A).2 + 1) else (batF sc (aI A) 0 A).2)
def leftA (A : AS) (n : Nat) : AS := setIt A (aI A, updI (aItm A) n (setBt (aItm A n) none))
def goneA (A : AS) (n : Nat) : AS := setIt A (aI A, updI (aItm A) n (setGn (aItm A n) true))
def undF : Nat → AS → Nat × AS
  | 0, A => (0, A)
  | n + 1, A => if iBt (aItm A n) = some (aOb A) then
      (if hasDer (leftA A n) n = true ∨ iGn (aItm (leftA A n) n) = true then undF n (leftA A n) else ((undF n (goneA (leftA A n) n)).1 + 1, (undF n (goneA (leftA A n) n)).2))
    else undF n A
def undoF (A : AS) : Int32 × AS := if aOb A = 0 then (-1, A) else (nI (undF (aI A) (setOb A (aOb A - 1))).1, (undF (aI A) (setOb A (aOb A - 1))).2)
def dropF (A : AS) (x : Int32) : Int32 × AS := match liveN A x with
  | none => (-1, A)
  | some i => if iFr (aItm A i) = none ∨ hasDer A i = true then (-3, A) else (1, goneA A i)
def aboutF (A : AS) (x y : Int32) : Int32 := match ixN (aI A) x with
  | none => -1
  | some i => if y = 0 then nI (iN (aItm A i)) else if y = 1 then optI (iFr (aItm A i)) else if y = 2 then optI (iBy (aItm A i)) else if y = 3 then bI (iGn (aItm A i)) else if y = 4 then nI (iRt (aItm A i)) else -1
def triedF (A : AS) (x : Int32) : Int32 := rowAt (aNo A) (fun j => nI (aOut A j)) x
