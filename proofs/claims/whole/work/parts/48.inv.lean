/-! ===== what every call keeps ===== -/
def InvI (A : AS) : Prop := aOK A ∧ btFr A ∧ rtOK A
theorem rtOK.push {A : AS} (h : rtOK A) (hA : aOK A) {d : ItmD} (hd : (iFr d = none → iRt d = aI A) ∧ ∀ x, iFr d = some x → x < aI A ∧ iRt d = iRt (aItm A x)) : rtOK (setIt A (aI A + 1, updI (aItm A) (aI A) d)) := by
  intro i hi
  have hi : i < aI A + 1 := hi
  show (iFr (updI (aItm A) (aI A) d i) = none → iRt (updI (aItm A) (aI A) d i) = i) ∧ ∀ x, iFr (updI (aItm A) (aI A) d i) = some x → iRt (updI (aItm A) (aI A) d i) = iRt (updI (aItm A) (aI A) d x)
  by_cases z : i = aI A
  · rw [show updI (aItm A) (aI A) d i = d from if_pos z]
    refine ⟨fun w => by rw [z]; exact hd.1 w, fun x hx => ?_⟩
    obtain ⟨x1, x2⟩ := hd.2 x hx
    rw [show updI (aItm A) (aI A) d x = aItm A x from if_neg (by omega)]
    exact x2
  · rw [show updI (aItm A) (aI A) d i = aItm A i from if_neg z]
    obtain ⟨a1, a2⟩ := h i (by omega)
    refine ⟨a1, fun x hx => ?_⟩
    have := (hA.2.2.2.1.2 i (by omega)).2.2.1 x hx
    rw [show updI (aItm A) (aI A) d x = aItm A x from if_neg (by omega)]
    exact a2 x hx
theorem rtOK.upd {A : AS} (h : rtOK A) {n : Nat} {d : ItmD} (e1 : iFr d = iFr (aItm A n)) (e2 : iRt d = iRt (aItm A n)) : rtOK (setIt A (aI A, updI (aItm A) n d)) := by
  have key : ∀ i, iFr (updI (aItm A) n d i) = iFr (aItm A i) ∧ iRt (updI (aItm A) n d i) = iRt (aItm A i) := fun i => by
    by_cases z : i = n
    · rw [show updI (aItm A) n d i = d from if_pos z, z]; exact ⟨e1, e2⟩
    · rw [show updI (aItm A) n d i = aItm A i from if_neg z]; exact ⟨rfl, rfl⟩
  intro i hi
  have hi : i < aI A := hi
  show (iFr (updI (aItm A) n d i) = none → iRt (updI (aItm A) n d i) = i) ∧ ∀ x, iFr (updI (aItm A) n d i) = some x → iRt (updI (aItm A) n d i) = iRt (updI (aItm A) n d x)
  rw [(key i).1, (key i).2]
  refine ⟨(h i hi).1, fun x hx => ?_⟩
  rw [(key x).2]
  exact (h i hi).2 x hx
theorem btFr.push {A : AS} (h : btFr A) {d : ItmD} (hd : iBt d ≠ none → iFr d ≠ none) : btFr (setIt A (aI A + 1, updI (aItm A) (aI A) d)) := by
  intro i hi
  have hi : i < aI A + 1 := hi
  show iBt (updI (aItm A) (aI A) d i) ≠ none → iFr (updI (aItm A) (aI A) d i) ≠ none
  by_cases z : i = aI A
  · rw [show updI (aItm A) (aI A) d i = d from if_pos z]; exact hd
  · rw [show updI (aItm A) (aI A) d i = aItm A i from if_neg z]; exact h i (by omega)
theorem InvI.derive {A : AS} (h : InvI A) {i sc : Nat} (hi : i < aI A) (hs : sc < aS A) : InvI (deriveF A i sc).2 := by
  obtain ⟨hA, hb, hr⟩ := h
  rcases deriveF_cases hA hi hs with ⟨d1, d2, d3, d4⟩ | ⟨d1, d2, d3, d4⟩
  · refine ⟨d2, ?_, ?_⟩
    · unfold btFr; rw [d3, d4]; exact hb
    · unfold rtOK; rw [d3, d4]; exact hr
  · refine ⟨d4, ?_, ?_⟩
    · rw [d3]
      exact btFr.push (A := ranA A i sc) hb (fun w => absurd rfl w)
    · rw [d3]
      exact rtOK.push (A := ranA A i sc) hr (ranA_ok hA hi hs) ⟨fun w => (by cases w), fun x hx => (by cases hx; exact ⟨hi, rfl⟩)⟩
theorem InvI.ml {A : AS} (h : InvI A) (v : Int32) : InvI (setMl A v) := h
theorem InvI.join {A : AS} (h : InvI A) {n : Nat} (hn : n < aI A) (hf : iFr (aItm A n) ≠ none) : InvI (joinA A n) := ⟨joinA_ok h.1 hn, h.2.1.upd (fun _ => hf), h.2.2.upd rfl rfl⟩
theorem InvI.left {A : AS} (h : InvI A) {n : Nat} (hn : n < aI A) : InvI (leftA A n) := ⟨leftA_ok h.1 hn, h.2.1.upd (fun w => absurd rfl w), h.2.2.upd rfl rfl⟩
theorem InvI.gone {A : AS} (h : InvI A) {n : Nat} (hn : n < aI A) (hf : iFr (aItm A n) ≠ none) : InvI (goneA A n) := ⟨h.1.item ((h.1.2.2.2.1.2 n hn).gn hf), h.2.1.upd (fun _ => hf), h.2.2.upd rfl rfl⟩
theorem InvI.ob {A : AS} (h : InvI A) {v : Nat} (hv : v ≤ 600) : InvI (setOb A v) := ⟨h.1.ob hv, h.2⟩
/-- scripts are as they were -/
def sameSc (A B : AS) : Prop := aS B = aS A ∧ aScr B = aScr A
theorem sameSc.rf {A : AS} : sameSc A A := ⟨rfl, rfl⟩
theorem sameSc.tr {A B C : AS} (a : sameSc A B) (b : sameSc B C) : sameSc A C := ⟨b.1.trans a.1, b.2.trans a.2⟩
theorem sameSc.derive (A : AS) (i sc : Nat) : sameSc A (deriveF A i sc).2 := ⟨(deriveF_same A i sc).1, (deriveF_same A i sc).2.1⟩
theorem goesF_inv : ∀ (f : Nat) (A : AS) (i : Nat) (o : Option Nat), InvI A → (∀ v, o = some v → v < aS A ∧ i < aI A) → InvI (goesF f A i o).2 ∧ sameSc A (goesF f A i o).2 := by
  intro f
  induction f with
  | zero => intro A i o h _; exact ⟨h, sameSc.rf⟩
  | succ f ih =>
    intro A i o h ho
    cases o with
    | none => exact ⟨h, sameSc.rf⟩
    | some sc =>
      obtain ⟨hs, hi⟩ := ho sc rfl
      have hD := h.derive hi hs
      have hsm := sameSc.derive A i sc
      rw [goesF]
      by_cases z : (deriveF A i sc).1 < 0
      · rw [if_pos z]
        exact ⟨hD.ml _, hsm⟩
      · rw [if_neg z]
        have hI : aI A < aI (deriveF A i sc).2 := by
          rcases deriveF_cases h.1 hi hs with ⟨d1, d2, d3, d4⟩ | ⟨d1, d2, d3, d4⟩
          · exact absurd d1 z
          · rw [d3]; show aI A < aI A + 1; omega
        have := ih (setMl (deriveF A i sc).2 (ag (deriveF A i sc).1)) (aI A) (sNx (aScr A sc)) (hD.ml _) (fun v hv => ⟨by
          show v < aS (deriveF A i sc).2
          rw [hsm.1]
          exact (h.1.2.2.1.2 sc hs).2.2.2.2.2.2 v hv, hI⟩)
        exact ⟨this.1, sameSc.tr (B := setMl (deriveF A i sc).2 (ag (deriveF A i sc).1)) hsm this.2⟩
theorem batF_inv (sc : Nat) : ∀ (f n : Nat) (A : AS), InvI A → sc < aS A → n + f ≤ aI A → InvI (batF sc f n A).2 ∧ sameSc A (batF sc f n A).2 := by
  intro f
  induction f with
  | zero => intro n A h _ _; exact ⟨h, sameSc.rf⟩
  | succ f ih =>
    intro n A h hs hn
    have hsm := sameSc.derive A n sc
    rw [batF]
    by_cases hf : iFr (aItm A n) = none
    · rw [if_pos hf]
      have hD := h.derive (show n < aI A by omega) hs
      rcases deriveF_cases h.1 (show n < aI A by omega) hs with ⟨d1, d2, d3, d4⟩ | ⟨d1, d2, d3, d4⟩
      · rw [if_pos d1]
        have := ih (n + 1) (deriveF A n sc).2 hD (by rw [hsm.1]; exact hs) (by omega)
        exact ⟨this.1, hsm.tr this.2⟩
      · have hI : aI (deriveF A n sc).2 = aI A + 1 := by rw [d3]; rfl
        rw [if_neg (by rw [d2]; exact nI_pos (by omega))]
        have hfr : iFr (aItm (deriveF A n sc).2 (aI A)) ≠ none := by
          rw [d3]
          show iFr (updI (aItm A) (aI A) (newI A n sc) (aI A)) ≠ none
          rw [show updI (aItm A) (aI A) (newI A n sc) (aI A) = newI A n sc from if_pos rfl]
          exact fun w => by cases w
        have := ih (n + 1) (joinA (deriveF A n sc).2 (aI A)) (hD.join (by omega) hfr) (by show sc < aS (deriveF A n sc).2; rw [hsm.1]; exact hs) (by show n + 1 + f ≤ aI (deriveF A n sc).2; omega)
        exact ⟨this.1, sameSc.tr (B := joinA (deriveF A n sc).2 (aI A)) hsm this.2⟩
    · rw [if_neg hf]
      exact ih (n + 1) A h hs (by omega)
theorem undF_inv : ∀ (n : Nat) (A : AS), InvI A → n ≤ aI A → InvI (undF n A).2 ∧ sameSc A (undF n A).2 := by
  intro n
  induction n with
  | zero => intro A h _; exact ⟨h, sameSc.rf⟩
  | succ n ih =>
    intro A h hn
    rw [undF]
    by_cases hf : iBt (aItm A n) = some (aOb A)
    · rw [if_pos hf]
      have hL := h.left (show n < aI A by omega)
      by_cases z : hasDer (leftA A n) n = true ∨ iGn (aItm (leftA A n) n) = true
      · rw [if_pos z]
        exact ih (leftA A n) hL (by show n ≤ aI A; omega)
      · rw [if_neg z]
        refine ih (goneA (leftA A n) n) (hL.gone (show n < aI A by omega) ?_) (by show n ≤ aI A; omega)
        show iFr (updI (aItm A) n (setBt (aItm A n) none) n) ≠ none
        rw [show updI (aItm A) n (setBt (aItm A n) none) n = setBt (aItm A n) none from if_pos rfl]
        exact h.2.1 n (by omega) (by rw [hf]; exact fun w => by cases w)
    · rw [if_neg hf]
      exact ih A h (by omega)
/-! chains have no ring -/
def nR (A : AS) : Prop := ∃ rk : Nat → Nat, ∀ s, s < aS A → ∀ t, sNx (aScr A s) = some t → rk t < rk s
theorem nR.same {A B : AS} (h : nR A) (e : sameSc A B) : nR B := by
  obtain ⟨rk, hr⟩ := h
  refine ⟨rk, ?_⟩
  rw [e.1, e.2]
  exact hr
def pathN (A : AS) : Nat → Option Nat → Option Nat
  | 0, o => o
  | k + 1, o => pathN A k (o.bind (fun s => sNx (aScr A s)))
theorem pathN_none (A : AS) : ∀ k, pathN A k none = none := by
  intro k
  induction k with
  | zero => rfl
  | succ k ih => exact ih
theorem pathN_s (A : AS) : ∀ k o, pathN A (k + 1) o = (pathN A k o).bind (fun s => sNx (aScr A s)) := by
  intro k
  induction k with
  | zero => intro o; rfl
  | succ k ih => intro o; exact ih _
theorem endsN_of (A : AS) : ∀ f o, pathN A f o = none → endsN A f o := by
  intro f
  induction f with
  | zero => intro o h; cases o with
    | none => trivial
    | some s => cases h
  | succ f ih => intro o h; cases o with
    | none => trivial
    | some s => exact ih _ h
theorem pigeon : ∀ (n : Nat) (f : Nat → Nat), (∀ i, i ≤ n → f i < n) → ∃ i j, i < j ∧ j ≤ n ∧ f i = f j := by
  intro n
  induction n with
  | zero => intro f h; exact absurd (h 0 (Nat.le_refl _)) (Nat.not_lt_zero _)
  | succ n ih =>
    intro f h
    by_cases z : ∃ i, i ≤ n ∧ f i = f (n + 1)
    · obtain ⟨i, hi, e⟩ := z
      exact ⟨i, n + 1, by omega, Nat.le_refl _, e⟩
    · have hne : ∀ i, i ≤ n → f i ≠ f (n + 1) := fun i hi e => z ⟨i, hi, e⟩
      have hl := h (n + 1) (Nat.le_refl _)
      obtain ⟨i, j, q1, q2, q3⟩ := ih (fun i => if f i < f (n + 1) then f i else f i - 1) (fun i hi => by
        have h1 := hne i hi
        have h2 := h i (by omega)
        show (if f i < f (n + 1) then f i else f i - 1) < n
        by_cases w : f i < f (n + 1)
        · rw [if_pos w]; omega
        · rw [if_neg w]; omega)
      have a1 := hne i (by omega)
      have a2 := hne j q2
      have q3 : (if f i < f (n + 1) then f i else f i - 1) = (if f j < f (n + 1) then f j else f j - 1) := q3
      refine ⟨i, j, q1, by omega, ?_⟩
      by_cases w : f i < f (n + 1)
      · rw [if_pos w] at q3
        by_cases v : f j < f (n + 1)
        · rw [if_pos v] at q3; exact q3
        · rw [if_neg v] at q3; omega
      · rw [if_neg w] at q3
        by_cases v : f j < f (n + 1)
        · rw [if_pos v] at q3; omega
        · rw [if_neg v] at q3; omega
theorem path_10 {A : AS} (hA : aOK A) (h : nR A) {t : Nat} (ht : t < aS A) : pathN A 10 (some t) = none := by
  obtain ⟨rk, hr⟩ := h
  cases hp : pathN A 10 (some t) with
  | none => rfl
  | some v =>
    have hS := hA.2.2.1.1
    have some_ : ∀ d k, k + d = 10 → ∃ w, pathN A k (some t) = some w := by
      intro d
      induction d with
      | zero => intro k hk; rw [show k = 10 by omega]; exact ⟨v, hp⟩
      | succ d ih =>
        intro k hk
        obtain ⟨w, hw⟩ := ih (k + 1) (by omega)
        rw [pathN_s] at hw
        cases hq : pathN A k (some t) with
        | none => rw [hq] at hw; cases hw
        | some u => exact ⟨u, rfl⟩
    have lt_ : ∀ k w, pathN A k (some t) = some w → w < aS A := by
      intro k
      induction k with
      | zero => intro w hw; cases hw; exact ht
      | succ k ih =>
        intro w hw
        rw [pathN_s] at hw
        cases hq : pathN A k (some t) with
        | none => rw [hq] at hw; cases hw
        | some u =>
          rw [hq] at hw
          exact (hA.2.2.1.2 u (ih u hq)).2.2.2.2.2.2 w hw
    have dec : ∀ d k u w, pathN A k (some t) = some u → pathN A (k + d + 1) (some t) = some w → rk w < rk u := by
      intro d
      induction d with
      | zero =>
        intro k u w hu hw
        rw [show k + 0 + 1 = k + 1 by omega, pathN_s, hu] at hw
        exact hr u (lt_ k u hu) w hw
      | succ d ih =>
        intro k u w hu hw
        rw [show k + (d + 1) + 1 = (k + d + 1) + 1 by omega, pathN_s] at hw
        cases hq : pathN A (k + d + 1) (some t) with
        | none => rw [hq] at hw; cases hw
        | some x =>
          rw [hq] at hw
          have h1 := ih k u x hu hq
          have h2 := hr x (lt_ _ x hq) w hw
          omega
    obtain ⟨i, j, q1, q2, q3⟩ := pigeon 10 (fun k => (pathN A k (some t)).getD 0) (fun i hi => by
      obtain ⟨w, hw⟩ := some_ (10 - i) i (by omega)
      have := lt_ i w hw
      show (pathN A i (some t)).getD 0 < 10
      rw [hw]
      show w < 10
      omega)
    obtain ⟨u, hu⟩ := some_ (10 - i) i (by omega)
    obtain ⟨w, hw⟩ := some_ (10 - j) j (by omega)
    have q3 : (pathN A i (some t)).getD 0 = (pathN A j (some t)).getD 0 := q3
    rw [hu, hw] at q3
    have q3 : u = w := q3
    subst q3
    have := dec (j - i - 1) i u u hu (by rw [show i + (j - i - 1) + 1 = j by omega]; exact hw)
    omega
theorem nR.ends {A : AS} (h : nR A) (hA : aOK A) {t : Nat} (ht : t < aS A) : endsN A 10 (some t) := endsN_of A 10 _ (path_10 hA h ht)
theorem comesF_path (A : AS) (w : Nat) : ∀ f k o, k < f → pathN A k o = some w → comesF A w f o = true := by
  intro f
  induction f with
  | zero => intro k o hk _; omega
  | succ f ih =>
    intro k o hk hp
    cases o with
    | none => rw [pathN_none] at hp; cases hp
    | some b =>
      show (if b = w then true else comesF A w f (sNx (aScr A b))) = true
      by_cases z : b = w
      · rw [if_pos z]
      · rw [if_neg z]
        cases k with
        | zero => cases hp; exact absurd rfl z
        | succ k => exact ih k _ (by omega) hp
theorem pathN_ge (A : AS) {o : Option Nat} {n : Nat} (h : pathN A n o = none) : ∀ k, pathN A (n + k) o = none := by
  intro k
  induction k with
  | zero => exact h
  | succ k ih => rw [show n + (k + 1) = (n + k) + 1 by omega, pathN_s, ih]; rfl
theorem nR.next {A : AS} (h : nR A) (hA : aOK A) {s : Nat} {o : Option Nat} (ho : ∀ t, o = some t → t < aS A ∧ comesF A s 10 (some t) = false) : nR (setSc A (aS A, updS (aScr A) s (setNx (aScr A s) o))) := by
  have h0 := h
  obtain ⟨rk, hr⟩ := h
  cases o with
  | none =>
    refine ⟨rk, fun u hu v hv => ?_⟩
    have hu : u < aS A := hu
    have hv : sNx (updS (aScr A) s (setNx (aScr A s) none) u) = some v := hv
    by_cases z : u = s
    · rw [show updS (aScr A) s (setNx (aScr A s) none) u = setNx (aScr A s) none from if_pos z] at hv; cases hv
    · rw [show updS (aScr A) s (setNx (aScr A s) none) u = aScr A u from if_neg z] at hv; exact hr u hu v hv
  | some t =>
    obtain ⟨ht, hc⟩ := ho t rfl
    have nr : ∀ k, pathN A k (some t) ≠ some s := fun k hp => by
      rcases Nat.lt_or_ge k 10 with q | q
      · rw [comesF_path A s 10 k (some t) q hp] at hc; cases hc
      · have := pathN_ge A (path_10 hA h0 ht) (k - 10)
        rw [show 10 + (k - 10) = k by omega, hp] at this
        cases this
    obtain ⟨rk', r1, r2⟩ : ∃ rk' : Nat → Nat, (∀ u, (∃ k, pathN A k (some u) = some s) → rk' u = rk u + (rk t + 1)) ∧ ∀ u, (¬ ∃ k, pathN A k (some u) = some s) → rk' u = rk u := ⟨fun u => @ite Nat (∃ k, pathN A k (some u) = some s) (Classical.propDecidable _) (rk u + (rk t + 1)) (rk u), fun u hu => if_pos hu, fun u hu => if_neg hu⟩
    refine ⟨rk', fun u hu v hv => ?_⟩
    have hu : u < aS A := hu
    have hv : sNx (updS (aScr A) s (setNx (aScr A s) (some t)) u) = some v := hv
    by_cases z : u = s
    · rw [show updS (aScr A) s (setNx (aScr A s) (some t)) u = setNx (aScr A s) (some t) from if_pos z] at hv
      have hv : some t = some v := hv
      cases hv
      rw [r1 u ⟨0, by rw [z]; rfl⟩, r2 t (fun ⟨k, w⟩ => nr k w)]
      omega
    · rw [show updS (aScr A) s (setNx (aScr A s) (some t)) u = aScr A u from if_neg z] at hv
      have hlt := hr u hu v hv
      by_cases y : ∃ k, pathN A k (some v) = some s
      · obtain ⟨k, hk⟩ := y
        have yu : ∃ k, pathN A k (some u) = some s := ⟨k + 1, by show pathN A k (sNx (aScr A u)) = some s; rw [hv]; exact hk⟩
        rw [r1 v ⟨k, hk⟩, r1 u yu]
        omega
      · have yu : ¬ ∃ k, pathN A k (some u) = some s := by
          rintro ⟨k, hk⟩
          cases k with
          | zero => cases hk; exact z rfl
          | succ k => exact y ⟨k, by have hk : pathN A k (sNx (aScr A u)) = some s := hk; rw [hv] at hk; exact hk⟩
        rw [r2 v y, r2 u yu]
        exact hlt
