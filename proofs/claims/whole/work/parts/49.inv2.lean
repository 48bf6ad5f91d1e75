/-! ===== .. call by call ===== -/
def Inv (A : AS) : Prop := InvI A ∧ nR A
theorem Inv.it {A B : AS} (h : Inv A) (e2 : B.2.2.1 = A.2.2.1) (e4 : B.2.2.2.1 = A.2.2.2.1) (hB : aOK B) : Inv B := by
  obtain ⟨⟨hA, hb, hr⟩, hn⟩ := h
  refine ⟨⟨hB, ?_, ?_⟩, ?_⟩
  · unfold btFr aI aItm; rw [e4]; exact hb
  · unfold rtOK aI aItm; rw [e4]; exact hr
  · unfold nR aS aScr; rw [e2]; exact hn
theorem Inv_new (x y : Int32) : Inv (newA x y) := ⟨⟨newA_ok x y, fun i hi => absurd hi (Nat.not_lt_zero i), fun i hi => absurd hi (Nat.not_lt_zero i)⟩, ⟨fun _ => 0, fun s hs => absurd hs (Nat.not_lt_zero s)⟩⟩
theorem Inv.sign {A : AS} (h : Inv A) (x : Int32) : Inv (signF A x) := by
  unfold signF
  by_cases z : aNs A < 200
  · rw [if_pos z]
    refine h.it rfl rfl ?_
    obtain ⟨h1, h2, h3, h4, h5, h6, h7, h8⟩ := h.1.1
    refine ⟨⟨by show aNs A + 1 ≤ 200; omega, fun j hj => ?_⟩, h2, h3, h4, h5, h6, h7, h8⟩
    have hj : j < aNs A + 1 := hj
    show updN (aSg A) (aNs A) (lowB x) j < 256
    by_cases y : j = aNs A
    · rw [y, updN_self]; exact lowB_lt x
    · rw [updN_ne _ _ y]; exact h1.2 j (by omega)
  · rw [if_neg z]; exact h
theorem Inv.octet {A : AS} (h : Inv A) (x : Int32) : Inv (octetF A x) := by
  unfold octetF
  by_cases z : aCn A < 40
  · rw [if_pos z]
    refine h.it rfl rfl ?_
    obtain ⟨h1, h2, h3, h4, h5, h6, h7, h8⟩ := h.1.1
    refine ⟨h1, ⟨by show aCn A + 1 ≤ 40; omega, fun j hj => ?_⟩, h3, h4, h5, h6, h7, h8⟩
    have hj : j < aCn A + 1 := hj
    show updN (aCb A) (aCn A) (lowB x) j < 256
    by_cases y : j = aCn A
    · rw [y, updN_self]; exact lowB_lt x
    · rw [updN_ne _ _ y]; exact h2.2 j (by omega)
  · rw [if_neg z]; exact h
theorem scrOK_mono {n m : Nat} {d : ScrD} (h : scrOK n d) (hm : n ≤ m) : scrOK m d := ⟨h.1, h.2.1, h.2.2.1, h.2.2.2.1, h.2.2.2.2.1, h.2.2.2.2.2.1, fun t ht => Nat.lt_of_lt_of_le (h.2.2.2.2.2.2 t ht) hm⟩
theorem toldA_ok {A : AS} (hA : aOK A) : aOK (toldA A) := by
  obtain ⟨h1, h2, h3, h4, h5, h6, h7, h8⟩ := hA
  refine ⟨⟨Nat.zero_le _, fun j hj => absurd hj (Nat.not_lt_zero j)⟩, h2, h3, h4, h5, h6, h7, h8.1, fun x hx => ?_⟩
  have := (parA_ok A).2.2.1 x hx
  omega
theorem aOK.scr {A : AS} (hA : aOK A) {s : Nat} {d : ScrD} (hd : scrOK (aS A) d) : aOK (setSc A (aS A, updS (aScr A) s d)) := by
  obtain ⟨h1, h2, h3, h4, h5, h6, h7, h8⟩ := hA
  refine ⟨h1, h2, ⟨h3.1, fun j hj => ?_⟩, h4, h5, h6, h7, h8⟩
  have hj : j < aS A := hj
  show scrOK (aS A) (updS (aScr A) s d j)
  by_cases z : j = s
  · rw [show updS (aScr A) s d j = d from if_pos z]; exact hd
  · rw [show updS (aScr A) s d j = aScr A j from if_neg z]; exact h3.2 j hj
theorem nR.scr {A : AS} (h : nR A) {s : Nat} {d : ScrD} (e : sNx d = sNx (aScr A s)) : nR (setSc A (aS A, updS (aScr A) s d)) := by
  obtain ⟨rk, hr⟩ := h
  refine ⟨rk, fun u hu v hv => ?_⟩
  have hu : u < aS A := hu
  have hv : sNx (updS (aScr A) s d u) = some v := hv
  by_cases z : u = s
  · rw [show updS (aScr A) s d u = d from if_pos z, e, ← z] at hv; exact hr u hu v hv
  · rw [show updS (aScr A) s d u = aScr A u from if_neg z] at hv; exact hr u hu v hv
theorem Inv.told {A : AS} (h : Inv A) : Inv (toldA A) := h.it rfl rfl (toldA_ok h.1.1)
theorem Inv.read {A B : AS} {o : Option Int32} (h : Inv A) (e : readF A = (o, B)) : Inv B := by
  cases hp : (parA A).1 with
  | some x => rw [readF_no hp] at e; cases e; exact h.told
  | none =>
    by_cases z : 10 ≤ aS A
    · rw [readF_full hp z] at e; cases e; exact h.told
    · rw [readF_new hp z] at e
      cases e
      have hT := h.told
      obtain ⟨p1, p2, p3, p4⟩ := parA_ok A
      obtain ⟨⟨hA, hb, hr⟩, rk, hn⟩ := hT
      refine ⟨⟨?_, hb, hr⟩, rk, fun u hu v hv => ?_⟩
      · obtain ⟨h1, h2, h3, h4, h5, h6, h7, h8⟩ := hA
        refine ⟨h1, h2, ⟨by show aS A + 1 ≤ 10; omega, fun j hj => ?_⟩, h4, h5, h6, h7, h8⟩
        have hj : j < aS A + 1 := hj
        show scrOK (aS A + 1) (updS (aScr A) (aS A) (newS (parA A)) j)
        by_cases y : j = aS A
        · rw [show updS (aScr A) (aS A) (newS (parA A)) j = newS (parA A) from if_pos y]
          exact ⟨by show (parA A).2.1 ≤ 40; omega, p4, Nat.zero_le _, fun j hj => absurd hj (Nat.not_lt_zero j), Nat.zero_le _, fun j hj => absurd hj (Nat.not_lt_zero j), fun t ht => by cases ht⟩
        · rw [show updS (aScr A) (aS A) (newS (parA A)) j = aScr A j from if_neg y]
          exact scrOK_mono (h3.2 j (show j < aS A by omega)) (Nat.le_succ _)
      · have hu : u < aS A + 1 := hu
        have hv : sNx (updS (aScr A) (aS A) (newS (parA A)) u) = some v := hv
        by_cases y : u = aS A
        · rw [show updS (aScr A) (aS A) (newS (parA A)) u = newS (parA A) from if_pos y] at hv; cases hv
        · rw [show updS (aScr A) (aS A) (newS (parA A)) u = aScr A u from if_neg y] at hv
          exact hn u (show u < aS A by omega) v hv
theorem Inv.original {A : AS} (h : Inv A) : Inv (originalF A).2 := by
  unfold originalF
  by_cases z : 60 ≤ aI A
  · rw [if_pos z]; exact h
  · rw [if_neg z]
    obtain ⟨⟨hA, hb, hr⟩, hn⟩ := h
    have hp : aOK (setIt A (aI A + 1, updI (aItm A) (aI A) (origI A))) := hA.push (by omega) ⟨hA.2.1.1, hA.2.1.2, fun x hx => (by cases hx), fun x hx => (by cases hx), by show aI A < aI A + 1; omega, fun x hx => (by cases hx), fun _ => rfl⟩
    refine ⟨⟨?_, btFr.push hb (fun w => absurd rfl w), rtOK.push hr hA ⟨fun _ => rfl, fun x hx => (by cases hx)⟩⟩, hn⟩
    obtain ⟨h1, h2, h3, h4, h5, h6, h7, h8⟩ := hp
    exact ⟨h1, ⟨Nat.zero_le _, fun j hj => absurd hj (Nat.not_lt_zero j)⟩, h3, h4, h5, h6, h7, h8⟩
theorem Inv.check {A : AS} (h : Inv A) (x : Int32) (bh : Bool) (kd v : Int32) : Inv (checkF A x bh kd v).2 := by
  unfold checkF
  have hnS := h.1.1.2.2.1.1
  cases hx : ixN (aS A) x with
  | none => exact h
  | some s =>
    obtain ⟨hs, _⟩ := ixN_some (by omega) hx
    have oS := h.1.1.2.2.1.2 s hs
    cases hk : ixN 4 kd with
    | none => exact h
    | some k =>
      obtain ⟨hk4, _⟩ := ixN_some (by omega) hk
      cases hv : ixN 256 v with
      | none => exact h
      | some w =>
        obtain ⟨hw, _⟩ := ixN_some (by omega) hv
        obtain ⟨o1, o2, o3, o4, o5, o6, o7⟩ := oS
        cases bh with
        | true =>
          show Inv (if sHn (aScr A s) < 4 then (nI (sHn (aScr A s) + 1), setSc A (aS A, updS (aScr A) s (addH (aScr A s) k w))) else (-4, A)).2
          by_cases z : sHn (aScr A s) < 4
          · rw [if_pos z]
            refine ⟨⟨h.1.1.scr ⟨o1, o2, o3, o4, by show sHn (aScr A s) + 1 ≤ 4; omega, fun j hj => ?_, o7⟩, h.1.2.1, h.1.2.2⟩, h.2.scr rfl⟩
            have hj : j < sHn (aScr A s) + 1 := hj
            show updN (sHk (aScr A s)) (sHn (aScr A s)) k j ≤ 3 ∧ updN (sHv (aScr A s)) (sHn (aScr A s)) w j < 256
            by_cases y : j = sHn (aScr A s)
            · rw [y, updN_self, updN_self]; exact ⟨by omega, hw⟩
            · rw [updN_ne _ _ y, updN_ne _ _ y]; exact o6 j (by omega)
          · rw [if_neg z]; exact h
        | false =>
          show Inv (if sBn (aScr A s) < 4 then (nI (sBn (aScr A s) + 1), setSc A (aS A, updS (aScr A) s (addB (aScr A s) k w))) else (-4, A)).2
          by_cases z : sBn (aScr A s) < 4
          · rw [if_pos z]
            refine ⟨⟨h.1.1.scr ⟨o1, o2, by show sBn (aScr A s) + 1 ≤ 4; omega, fun j hj => ?_, o5, o6, o7⟩, h.1.2.1, h.1.2.2⟩, h.2.scr rfl⟩
            have hj : j < sBn (aScr A s) + 1 := hj
            show updN (sBk (aScr A s)) (sBn (aScr A s)) k j ≤ 3 ∧ updN (sBv (aScr A s)) (sBn (aScr A s)) w j < 256
            by_cases y : j = sBn (aScr A s)
            · rw [y, updN_self, updN_self]; exact ⟨by omega, hw⟩
            · rw [updN_ne _ _ y, updN_ne _ _ y]; exact o4 j (by omega)
          · rw [if_neg z]; exact h
theorem Inv.migrate {A : AS} (h : Inv A) (x y : Int32) : Inv (migrateF A x y).2 := by
  unfold migrateF
  cases hx : liveN A x with
  | none => exact h
  | some i =>
    cases hy : ixN (aS A) y with
    | none => exact h
    | some sc =>
      obtain ⟨hi, _, _⟩ := liveN_some h.1.1 hx
      obtain ⟨hs, _⟩ := ixN_some (by have := h.1.1.2.2.1.1; omega) hy
      exact ⟨(h.1.derive hi hs).ml _, h.2.same (sameSc.derive A i sc)⟩
theorem Inv.chain {A : AS} (h : Inv A) (x y : Int32) : Inv (chainF A x y).2 := by
  unfold chainF
  have hnS := h.1.1.2.2.1.1
  cases hx : ixN (aS A) x with
  | none => exact h
  | some s =>
    obtain ⟨hs, _⟩ := ixN_some (by omega) hx
    have oS := h.1.1.2.2.1.2 s hs
    obtain ⟨o1, o2, o3, o4, o5, o6, o7⟩ := oS
    show Inv (if y = -1 then ((1 : Int32), setSc A (aS A, updS (aScr A) s (setNx (aScr A s) none))) else match ixN (aS A) y with | none => (-1, A) | some t => if comesF A s 10 (some t) = true then (-3, A) else (1, setSc A (aS A, updS (aScr A) s (setNx (aScr A s) (some t))))).2
    by_cases z : y = -1
    · rw [if_pos z]
      exact ⟨⟨h.1.1.scr ⟨o1, o2, o3, o4, o5, o6, fun t ht => by cases ht⟩, h.1.2.1, h.1.2.2⟩, h.2.next h.1.1 (fun t ht => by cases ht)⟩
    · rw [if_neg z]
      cases hy : ixN (aS A) y with
      | none => exact h
      | some t =>
        obtain ⟨ht, _⟩ := ixN_some (by omega) hy
        show Inv (if comesF A s 10 (some t) = true then ((-3 : Int32), A) else (1, setSc A (aS A, updS (aScr A) s (setNx (aScr A s) (some t))))).2
        by_cases w : comesF A s 10 (some t) = true
        · rw [if_pos w]; exact h
        · rw [if_neg w]
          exact ⟨⟨h.1.1.scr ⟨o1, o2, o3, o4, o5, o6, fun u hu => by cases hu; exact ht⟩, h.1.2.1, h.1.2.2⟩, h.2.next h.1.1 (fun u hu => by cases hu; exact ⟨ht, by cases hc : comesF A s 10 (some t) with | false => rfl | true => exact absurd hc w⟩)⟩
theorem Inv.goesOn {A : AS} (h : Inv A) (x y : Int32) : Inv (goesOnF A x y).2 := by
  unfold goesOnF
  cases hx : liveN A x with
  | none => exact h
  | some i =>
    cases hy : ixN (aS A) y with
    | none => exact h
    | some sc =>
      obtain ⟨hi, _, _⟩ := liveN_some h.1.1 hx
      obtain ⟨hs, _⟩ := ixN_some (by have := h.1.1.2.2.1.1; omega) hy
      obtain ⟨a1, a2⟩ := goesF_inv 10 A i (some sc) h.1 (fun v hv => by cases hv; exact ⟨hs, hi⟩)
      exact ⟨a1, h.2.same a2⟩
theorem Inv.batch {A : AS} (h : Inv A) (x : Int32) (hob : aOb (batchF A x).2 ≤ 600) : Inv (batchF A x).2 := by
  unfold batchF at hob ⊢
  cases hx : ixN (aS A) x with
  | none => exact h
  | some sc =>
    rw [hx] at hob
    obtain ⟨hs, _⟩ := ixN_some (by have := h.1.1.2.2.1.1; omega) hx
    obtain ⟨a1, a2⟩ := batF_inv sc (aI A) 0 A h.1 hs (by omega)
    have hob : aOb (if 0 < (batF sc (aI A) 0 A).1 then setOb (batF sc (aI A) 0 A).2 (aOb (batF sc (aI A) 0 A).2 + 1) else (batF sc (aI A) 0 A).2) ≤ 600 := hob
    show Inv (if 0 < (batF sc (aI A) 0 A).1 then setOb (batF sc (aI A) 0 A).2 (aOb (batF sc (aI A) 0 A).2 + 1) else (batF sc (aI A) 0 A).2)
    by_cases z : 0 < (batF sc (aI A) 0 A).1
    · rw [if_pos z] at hob ⊢
      exact ⟨a1.ob hob, h.2.same a2⟩
    · rw [if_neg z]
      exact ⟨a1, h.2.same a2⟩
theorem Inv.undo {A : AS} (h : Inv A) : Inv (undoF A).2 := by
  unfold undoF
  by_cases z : aOb A = 0
  · rw [if_pos z]; exact h
  · rw [if_neg z]
    obtain ⟨a1, a2⟩ := undF_inv (aI A) (setOb A (aOb A - 1)) (h.1.ob (by have := h.1.1.2.2.2.2.2.2.2.1; omega)) (Nat.le_refl _)
    exact ⟨a1, h.2.same a2⟩
theorem Inv.drop {A : AS} (h : Inv A) (x : Int32) : Inv (dropF A x).2 := by
  unfold dropF
  cases hx : liveN A x with
  | none => exact h
  | some i =>
    obtain ⟨hi, _, _⟩ := liveN_some h.1.1 hx
    show Inv (if iFr (aItm A i) = none ∨ hasDer A i = true then ((-3 : Int32), A) else (1, goneA A i)).2
    by_cases z : iFr (aItm A i) = none ∨ hasDer A i = true
    · rw [if_pos z]; exact h
    · rw [if_neg z]
      exact ⟨h.1.gone hi (fun w => z (Or.inl w)), h.2⟩
