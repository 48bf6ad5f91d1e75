/-! ===== read ===== -/
/-- what the search answers rests on the text alone -/
def parOK (s : Nat → Option Nat) (f k i : Nat) (P : Option Nat × Nat × (Nat → Nat) × (Nat → Nat)) : Prop := P.2.1 ≤ k + f ∧ k ≤ P.2.1 ∧ (∀ x, P.1 = some x → x ≤ i + 5 * f + 5) ∧ ∀ j, j < P.2.1 → P.2.2.1 j ∈ L14 ∧ P.2.2.2 j < 256
theorem updN_self (f : Nat → Nat) (j v : Nat) : updN f j v j = v := if_pos rfl
theorem updN_ne (f : Nat → Nat) {j i : Nat} (v : Nat) (h : i ≠ j) : updN f j v i = f i := if_neg h
theorem parseF_ok {s : Nat → Option Nat} {ns : Nat} : ∀ (f k i : Nat) (lt nu : Nat → Nat), (∀ j, j < k → lt j ∈ L14 ∧ nu j < 256) → parOK s f k i (parseF s ns f k i lt nu) := by
  intro f
  induction f with
  | zero => intro k i lt nu h; exact ⟨Nat.le_refl _, Nat.le_refl _, fun x hx => (by cases hx; omega), h⟩
  | succ f ih =>
    intro k i lt nu h
    cases hs : s i with
    | none =>
      rw [show parseF s ns (f + 1) k i lt nu = (some i, k, lt, nu) by rw [parseF, hs]]
      exact ⟨by show k ≤ _; omega, Nat.le_refl _, fun x hx => (by cases hx; omega), h⟩
    | some c =>
      by_cases hL : c ∈ L14
      · rw [parseF_s hs hL]
        have hd := digN_le s (i + 1)
        by_cases z : digN s (i + 1) = 0 ∨ 255 < numN s (i + 1) (digN s (i + 1))
        · rw [if_pos z]
          exact ⟨by show k ≤ _; omega, Nat.le_refl _, fun x hx => (by cases hx; omega), h⟩
        · rw [if_neg z]
          have hn : ∀ j, j < k + 1 → updN lt k c j ∈ L14 ∧ updN nu k (numN s (i + 1) (digN s (i + 1))) j < 256 := by
            intro j hj
            by_cases w : j = k
            · subst w
              rw [updN_self, updN_self]
              exact ⟨hL, by omega⟩
            · rw [updN_ne _ _ w, updN_ne _ _ w]
              exact h j (by omega)
          by_cases y : ns ≤ i + 1 + digN s (i + 1)
          · rw [if_pos y]
            exact ⟨by show k + 1 ≤ _; omega, by show k ≤ k + 1; omega, fun x hx => (by cases hx), hn⟩
          · rw [if_neg y]
            by_cases u : s (i + 1 + digN s (i + 1)) = some 32
            · rw [if_pos u]
              obtain ⟨a1, a2, a3, a4⟩ := ih (k + 1) (i + 1 + digN s (i + 1) + 1) _ _ hn
              exact ⟨by omega, by omega, fun x hx => (by have := a3 x hx; omega), a4⟩
            · rw [if_neg u]
              exact ⟨by show k + 1 ≤ _; omega, by show k ≤ k + 1; omega, fun x hx => (by cases hx; omega), hn⟩
      · rw [show parseF s ns (f + 1) k i lt nu = (some i, k, lt, nu) by rw [parseF, hs]; exact if_neg hL]
        exact ⟨by show k ≤ _; omega, Nat.le_refl _, fun x hx => (by cases hx; omega), h⟩
def parEq (P P' : Option Nat × Nat × (Nat → Nat) × (Nat → Nat)) : Prop := P.1 = P'.1 ∧ P.2.1 = P'.2.1 ∧ ∀ j, j < P.2.1 → P.2.2.1 j = P'.2.2.1 j ∧ P.2.2.2 j = P'.2.2.2 j
theorem parseF_eq {s : Nat → Option Nat} {ns : Nat} : ∀ (f k i : Nat) (lt nu lt' nu' : Nat → Nat), (∀ j, j < k → lt j = lt' j ∧ nu j = nu' j) → parEq (parseF s ns f k i lt nu) (parseF s ns f k i lt' nu') := by
  intro f
  induction f with
  | zero => intro k i lt nu lt' nu' h; exact ⟨rfl, rfl, h⟩
  | succ f ih =>
    intro k i lt nu lt' nu' h
    cases hs : s i with
    | none =>
      rw [show parseF s ns (f + 1) k i lt nu = (some i, k, lt, nu) by rw [parseF, hs], show parseF s ns (f + 1) k i lt' nu' = (some i, k, lt', nu') by rw [parseF, hs]]
      exact ⟨rfl, rfl, h⟩
    | some c =>
      by_cases hL : c ∈ L14
      · rw [parseF_s hs hL, parseF_s hs hL]
        by_cases z : digN s (i + 1) = 0 ∨ 255 < numN s (i + 1) (digN s (i + 1))
        · rw [if_pos z, if_pos z]; exact ⟨rfl, rfl, h⟩
        · rw [if_neg z, if_neg z]
          have hn : ∀ j, j < k + 1 → updN lt k c j = updN lt' k c j ∧ updN nu k (numN s (i + 1) (digN s (i + 1))) j = updN nu' k (numN s (i + 1) (digN s (i + 1))) j := by
            intro j hj
            by_cases w : j = k
            · subst w
              rw [updN_self, updN_self, updN_self, updN_self]
              exact ⟨rfl, rfl⟩
            · rw [updN_ne _ _ w, updN_ne _ _ w, updN_ne _ _ w, updN_ne _ _ w]
              exact h j (by omega)
          by_cases y : ns ≤ i + 1 + digN s (i + 1)
          · rw [if_pos y, if_pos y]; exact ⟨rfl, rfl, hn⟩
          · rw [if_neg y, if_neg y]
            by_cases u : s (i + 1 + digN s (i + 1)) = some 32
            · rw [if_pos u, if_pos u]; exact ih _ _ _ _ _ _ hn
            · rw [if_neg u, if_neg u]; exact ⟨rfl, rfl, hn⟩
      · rw [show parseF s ns (f + 1) k i lt nu = (some i, k, lt, nu) by rw [parseF, hs]; exact if_neg hL, show parseF s ns (f + 1) k i lt' nu' = (some i, k, lt', nu') by rw [parseF, hs]; exact if_neg hL]
        exact ⟨rfl, rfl, h⟩
def parA (A : AS) : Option Nat × Nat × (Nat → Nat) × (Nat → Nat) := parseF (sgn (aNs A) (aSg A)) (aNs A) 40 0 0 (fun _ => 0) (fun _ => 0)
theorem parA_ok (A : AS) : parOK (sgn (aNs A) (aSg A)) 40 0 0 (parA A) := parseF_ok 40 0 0 _ _ (fun j hj => absurd hj (Nat.not_lt_zero j))
def newS (P : Option Nat × Nat × (Nat → Nat) × (Nat → Nat)) : ScrD := ((P.2.1, P.2.2.1, P.2.2.2), (0, fun _ => 0, fun _ => 0), (0, fun _ => 0, fun _ => 0), none)
def toldA (A : AS) : AS := setTx (setWr A (parA A).1) (0, aSg A)
def readF (A : AS) : Option Int32 × AS := match (parA A).1 with
  | some _ => (none, toldA A)
  | none => if 10 ≤ aS A then (some (-4), toldA A) else (some (nI (aS A)), setSc (toldA A) (aS A + 1, updS (aScr A) (aS A) (newS (parA A))))
theorem readF_no {A : AS} {x : Nat} (h : (parA A).1 = some x) : readF A = (none, toldA A) := by unfold readF; rw [h]
theorem readF_full {A : AS} (h : (parA A).1 = none) (h2 : 10 ≤ aS A) : readF A = (some (-4), toldA A) := by unfold readF; rw [h]; exact if_pos h2
theorem readF_new {A : AS} (h : (parA A).1 = none) (h2 : ¬ 10 ≤ aS A) : readF A = (some (nI (aS A)), setSc (toldA A) (aS A + 1, updS (aScr A) (aS A) (newS (parA A)))) := by unfold readF; rw [h]; exact if_neg h2
/-- one script more -/
theorem pC.pushS {ad : xAd} {h h' : xH} {A : AS} (H : pC ad h A) {d : ScrD} (h1 : h' (1, 0) = some (cMain ad (setSc A (aS A + 1, aScr A)))) (h8 : h' (8, 0) = some (cQ 4 10 (refN ad 20 (aS A + 1)))) (hd : pScr ad h' (aS A) d)
    (o : ∀ t : Tg, t ≠ (1, 0) → t ≠ (8, 0) → ¬ (20 ≤ t.1 ∧ t.1 ≤ 28 ∧ t.2 = aS A) → h' t = h t) : pC ad h' (setSc A (aS A + 1, updS (aScr A) (aS A) d)) := by
  obtain ⟨hM, hT, ⟨c1, c2⟩, ⟨s1, s2, s3⟩, ⟨i1, i2, i3⟩, hR⟩ := H
  have o2 : ∀ k i, k ≠ 1 → k ≠ 8 → (k < 20 ∨ 28 < k) → h' (k, i) = h (k, i) := fun k i q1 q2 q3 => o _ (tg_ne q1 _ _) (tg_ne q2 _ _) (fun z => by have := z.1; have := z.2.1; omega)
  refine ⟨h1, hT.congr (fun k _ _ => o2 k 0 (by omega) (by omega) (by omega)), ⟨(o2 6 0 (by omega) (by omega) (by omega)).trans c1, (o2 7 0 (by omega) (by omega) (by omega)).trans c2⟩, ⟨h8, fun j hj => ?_, fun k j q1 q2 q3 => ?_⟩, ⟨(o2 9 0 (by omega) (by omega) (by omega)).trans i1, fun s hs => (i2 s hs).congr (fun k _ _ => o2 k s (by omega) (by omega) (by omega)), fun k s q1 q2 q3 => (o2 k s (by omega) (by omega) (by omega)).trans (i3 k s q1 q2 q3)⟩, hR.congr (fun k _ _ => o2 k 0 (by omega) (by omega) (by omega))⟩
  · have hj : j < aS A + 1 := hj
    by_cases z : j = aS A
    · subst z
      show pScr ad h' (aS A) (updS (aScr A) (aS A) d (aS A))
      rw [show updS (aScr A) (aS A) d (aS A) = d from if_pos rfl]
      exact hd
    · show pScr ad h' j (updS (aScr A) (aS A) d j)
      rw [show updS (aScr A) (aS A) d j = aScr A j from if_neg z]
      exact (s2 j (by omega)).congr (fun k q1 q2 => o _ (tg_ne (by omega) _ _) (tg_ne (by omega) _ _) (fun w => z w.2.2))
  · have q3 : aS A + 1 ≤ j := q3
    rw [o (k, j) (tg_ne (by omega) _ _) (tg_ne (by omega) _ _) (fun w => by have : j = aS A := w.2.2; omega)]
    exact s3 k j q1 q2 (by omega)
theorem wT_main (g : xH) (ad : xAd) (ns : Nat) (sg lt nu : Nat → Nat) (k : Nat) (e : xE) : xup (wT g ad ns sg lt nu k) (1, 0) e = wT (xup g (1, 0) e) ad ns sg lt nu k := by
  unfold wT
  rw [xup_comm _ _ _ (tg_ne (a := 2) (b := 1) (by decide) _ _), xup_comm _ _ _ (tg_ne (a := 5) (b := 1) (by decide) _ _), xup_comm _ _ _ (tg_ne (a := 4) (b := 1) (by decide) _ _), xup_comm _ _ _ (tg_ne (a := 3) (b := 1) (by decide) _ _)]
theorem optI_m1 {o : Option Nat} (h : ∀ x, o = some x → x < 1000) : optI o = -1 ↔ o = none := by
  cases o with
  | none => exact ⟨fun _ => rfl, fun _ => rfl⟩
  | some x => exact ⟨fun z => absurd z (nI_neg1 (by have := h x rfl; omega)), fun z => by cases z⟩
set_option maxRecDepth 100000 in
set_option maxHeartbeats 4000000 in
theorem c_X6_read : Cx yX6_read cX6_read 1 (some .int) (xrm 6 9 107) (fun ad h av Q QX => ∃ A, pC ad h A ∧ aOK A ∧ av = [.ref (ad (1, 0))] ∧ (∀ v B, readF A = (some v, B) → ∀ ad' h', pC ad' h' B → fr40 h h' → Q (some (.int v)) ad' h') ∧ (∀ B, readF A = (none, B) → ∀ ad' h', pC ad' h' B → fr40 h h' → QX "java/lang/IllegalStateException" ad' h')) := by
  refine Cx.of (by decide) ?_
  intro p l e s m args below meth c0 G ad h av Q QX hl hno F hsp
  obtain ⟨A, hC, hA, rfl, hQ, hQX⟩ := hsp
  have hnS := hA.2.2.1.1
  refine ⟨x_ent rfl rfl, ?_⟩
  refine x_ls [(0, .ref (ad (1, 0)))] rfl ?_
  obtain ⟨lt, nu, k, hv⟩ := hC.2.1.view
  refine x_aload_n (q := 1) F dX6_read_0 rfl rfl (by first | exact xref_r | exact xref_n | exact xref_f _ | assumption) ?_
  refine x_aload_n (q := 2) F dX6_read_1 rfl rfl (by first | exact xref_r | exact xref_n | exact xref_f _ | assumption) ?_
  refine x_get (q := 5) F dX6_read_2 rfl fs_X6_10 hC.1 rfl ?_
  refine x_callV0 (q := 8) F (2, 0) c_X5_parse dX6_read_5 rfl mv_X5_parse ml_X6_75 ⟨⟨xle rfl, xle rfl⟩, xle rfl, xle rfl⟩ rfl (by rw [hv]; rfl) (xle rfl) ?_
  refine ⟨h, aNs A, aSg A, lt, nu, k, hv, rfl, hA.1.1, hA.1.2, fun _ => ?_⟩
  obtain ⟨p1, p2, p3⟩ := parseF_eq (s := sgn (aNs A) (aSg A)) (ns := aNs A) 40 0 0 lt nu (fun _ => 0) (fun _ => 0) (fun j hj => absurd hj (Nat.not_lt_zero j))
  obtain ⟨b1, b2, b3, b4⟩ := parA_ok A
  have p1 : _ = (parA A).1 := p1
  have p2 : _ = (parA A).2.1 := p2
  rw [p1]
  generalize parseF (sgn (aNs A) (aSg A)) (aNs A) 40 0 0 lt nu = P at p1 p2 p3 ⊢
  obtain ⟨P1, pk, plt, pnu⟩ := P
  have p2 : pk = (parA A).2.1 := p2
  subst p2
  have hW : ∀ x, (parA A).1 = some x → x < 1000 := fun x hx => by have := b3 x hx; omega
  refine x_put (q := 11) F dX6_read_8 rfl fs_X6_47 hC.1 (xle rfl) rfl rfl ?_
  refine x_h (wT_main _ _ _ _ _ _ _ _) ?_
  have hC2 := hC.main (B := setWr A (parA A).1) ⟨rfl, rfl, rfl, rfl, rfl, rfl, rfl⟩
  have hC4 := hC2.text 0 (aSg A) plt pnu (parA A).2.1
  have hfr : fr40 h (wT (xup h (1, 0) (cMain ad (setWr A (parA A).1))) ad 0 (aSg A) plt pnu (parA A).2.1) := fr40.tr (fr40.up (by decide)) wT_fr40
  refine x_aload_n (q := 12) F dX6_read_11 rfl rfl (by first | exact xref_r | exact xref_n | exact xref_f _ | assumption) ?_
  refine x_get (q := 15) F dX6_read_12 rfl fs_X6_10 hC2.1 rfl ?_
  refine x_callV0 (q := 18) F (2, 0) c_X5_clear dX6_read_15 rfl mv_X5_clear ml_X6_79 ⟨⟨xle rfl, xle rfl⟩, xle rfl, xle rfl⟩ rfl rfl (xle rfl) ?_
  refine ⟨xup h (1, 0) (cMain ad (setWr A (parA A).1)), aNs A, aSg A, plt, pnu, (parA A).2.1, rfl, rfl, fun _ => ?_⟩
  generalize hgen : wT (xup h (1, 0) (cMain ad (setWr A (parA A).1))) ad 0 (aSg A) plt pnu (parA A).2.1 = h4 at hC4 hfr ⊢
  have k2 : h4 (2, 0) = some (cTxt (ad (3, 0)) (ad (4, 0)) (ad (5, 0)) 0 (parA A).2.1) := by rw [← hgen]; rfl
  have k4 : h4 (4, 0) = some (cN 40 plt) := by rw [← hgen]; rfl
  have k5 : h4 (5, 0) = some (cN 40 pnu) := by rw [← hgen]; rfl
  clear hgen hC2
  have hC4 : pC ad h4 (toldA A) := hC4
  refine x_aload_n (q := 19) F dX6_read_18 rfl rfl (by first | exact xref_r | exact xref_n | exact xref_f _ | assumption) ?_
  refine x_get (q := 22) F dX6_read_19 rfl fs_X6_47 hC4.1 rfl ?_
  refine x_iconst (q := 23) (v := -1) F dX6_read_22 rfl (by decide) ?_
  refine x_icmp_eq (q := 26) F 36 dX6_read_23 (by decide) rfl (fun c23 => ?_) (fun c23 => ?_)
  · have hP : (parA A).1 = none := (optI_m1 hW).mp c23
    refine x_aload_n (q := 37) F dX6_read_36 rfl rfl (by first | exact xref_r | exact xref_n | exact xref_f _ | assumption) ?_
    refine x_get (q := 40) F dX6_read_37 rfl fs_X6_37 hC4.1 rfl ?_
    refine x_bipush (q := 42) (v := 10) F dX6_read_40 rfl (by decide) ?_
    refine x_icmp_lt (q := 45) F 48 dX6_read_42 (by decide) rfl (fun c42 => ?_) (fun c42 => ?_)
    · have hlt : aS A < 10 := (nI_ltI (a := aS A) (b := 10) (by omega) (by omega)).mp c42
      have hR := readF_new hP (by omega)
      have n20 : ∀ j, 20 ≤ j → j ≤ 28 → h4 (j, aS A) = none := fun j q1 q2 => hC4.2.2.2.1.2.2 j (aS A) q1 q2 (Nat.le_refl _)
      refine x_aload_n (q := 49) F dX6_read_48 rfl rfl (by first | exact xref_r | exact xref_n | exact xref_f _ | assumption) ?_
      refine x_get (q := 52) F dX6_read_49 rfl fs_X6_27 hC4.1 rfl ?_
      refine x_aload_n (q := 53) F dX6_read_52 rfl rfl (by first | exact xref_r | exact xref_n | exact xref_f _ | assumption) ?_
      refine x_get (q := 56) F dX6_read_53 rfl fs_X6_37 hC4.1 rfl ?_
      refine x_aload_n (q := 57) F dX6_read_56 rfl rfl (by first | exact xref_r | exact xref_n | exact xref_f _ | assumption) ?_
      refine x_get (q := 60) F dX6_read_57 rfl fs_X6_10 hC4.1 rfl ?_
      refine x_callV0 (q := 63) F (2, 0) c_X5_parsed dX6_read_60 rfl mv_X5_parsed ml_X6_89 ⟨⟨xle rfl, xle rfl⟩, xle rfl, xle rfl⟩ rfl k2 (xle rfl) ?_
      refine ⟨aS A, 0, (parA A).2.1, plt, pnu, rfl, k2, k4, k5, b1, n20, fun ad2 h5 E2 h21 h22 h20 h23 h24 h25 h26 h27 h28 o2 _ => ?_⟩
      have E2' : ∀ {k i : Nat}, ¬ (20 ≤ k ∧ k ≤ 28) → ad2 (k, i) = ad (k, i) := fun q => E2 _ (fun z => q ⟨z.1, z.2.1⟩)
      rw [← E2' (k := 1) (by decide)]
      have hx8 : ad2 (8, 0) = ad (8, 0) := E2' (by decide)
      have hC5 := hC4.move (ad' := ad2) (fun t ht => E2 t (fun z => ht (by have := n20 t.1 z.1 z.2.1; rw [← z.2.2] at this; exact this)))
      refine x_h (h2 := xup (xup h5 (21, aS A) (cN (parA A).2.1 plt)) (22, aS A) (cN (parA A).2.1 pnu)) (by rw [xup_same h5 h21, xup_same h5 h22]) ?_
      refine x_cell (g := fun j => nI ((parA A).2.2.2 j)) (fun j hj => congrArg nI (p3 j hj).2) ?_
      refine x_h (xup_comm _ _ _ (tg_ne (a := 21) (b := 22) (by decide) _ _)) ?_
      refine x_cell (g := fun j => nI ((parA A).2.2.1 j)) (fun j hj => congrArg nI (p3 j hj).1) ?_
      generalize hgen6 : xup (xup h5 (22, aS A) (.inl (0, (parA A).2.1, .inl fun j => nI ((parA A).2.2.2 j)))) (21, aS A) (.inl (0, (parA A).2.1, .inl fun j => nI ((parA A).2.2.1 j))) = h6
      have g6 : ∀ (k : Nat), k ≠ 21 → k ≠ 22 → ∀ i, h6 (k, i) = h5 (k, i) := fun k q1 q2 i => by rw [← hgen6, up_ne q1, up_ne q2]
      have hS6 : pScr ad2 h6 (aS A) (newS (parA A)) := ⟨(g6 20 (by omega) (by omega) _).trans h20, by rw [← hgen6]; exact xup_self _ _ _, by rw [← hgen6]; exact xk (xup_self _ _ _), (g6 23 (by omega) (by omega) _).trans h23, (g6 24 (by omega) (by omega) _).trans h24, (g6 25 (by omega) (by omega) _).trans h25, (g6 26 (by omega) (by omega) _).trans h26, (g6 27 (by omega) (by omega) _).trans h27, (g6 28 (by omega) (by omega) _).trans h28⟩
      have o6 : ∀ t : Tg, ¬ (20 ≤ t.1 ∧ t.1 ≤ 28 ∧ t.2 = aS A) → h6 t = h4 t := fun t ht => by
        rw [← hgen6, xup_ne _ _ (fun z => ht (by rw [z]; exact ⟨by show 20 ≤ 21; omega, by show 21 ≤ 28; omega, rfl⟩)), xup_ne _ _ (fun z => ht (by rw [z]; exact ⟨by show 20 ≤ 22; omega, by show 22 ≤ 28; omega, rfl⟩))]
        exact o2 t ht
      clear hgen6 h21 h22 h20 h23 h24 h25 h26 h27 h28 o2 g6
      have hm6 : h6 (1, 0) = some (cMain ad2 (toldA A)) := (o6 _ (fun z => absurd z.1 (by show ¬ 20 ≤ 1; omega))).trans hC5.1
      have h86 : h6 (8, 0) = some (cQ 4 10 (refN ad2 20 (aS A))) := (o6 _ (fun z => absurd z.1 (by show ¬ 20 ≤ 8; omega))).trans hC5.2.2.2.1.1
      rw [← hx8]
      refine x_aast4 (q := 64) (t := (8, 0)) (u := (20, aS A)) (j := aS A) F dX6_read_63 rfl h86 hS6.1 rfl hlt (by omega) ?_
      rw [refN_s]
      refine x_aload_n (q := 65) F dX6_read_64 rfl rfl (by first | exact xref_r | exact xref_n | exact xref_f _ | assumption) ?_
      refine x_dup (q := 66) F dX6_read_65 rfl rfl ?_
      refine x_get (q := 69) F dX6_read_66 rfl fs_X6_37 (xk hm6) rfl ?_
      refine x_iconst (q := 70) (v := 1) F dX6_read_69 rfl (by decide) ?_
      refine x_iadd (q := 71) F dX6_read_70 rfl ?_
      refine x_topi (nI_1 _) ?_
      refine x_put (q := 74) F dX6_read_71 rfl fs_X6_37 (xk hm6) (xle rfl) rfl rfl ?_
      refine x_aload_n (q := 75) F dX6_read_74 rfl rfl (by first | exact xref_r | exact xref_n | exact xref_f _ | assumption) ?_
      refine x_get (q := 78) F dX6_read_75 rfl fs_X6_37 (xup_self _ _ _) rfl ?_
      refine x_iconst (q := 79) (v := 1) F dX6_read_78 rfl (by decide) ?_
      refine x_isub (q := 80) F dX6_read_79 rfl ?_
      refine x_topi (nI_pred (aS A)) ?_
      refine x_back ?_
      refine x_iret F dX6_read_80 (xle rfl) (xle rfl) ?_
      refine hQ _ _ hR ad2 _ (hC5.pushS (A := toldA A) (xup_self _ _ _) (xk (xup_self _ _ _)) ?_ (fun t q1 q2 q3 => ?_)) (fun t ht => ?_)
      · exact hS6.congr (fun k q1 q2 => by rw [up_ne (by show k ≠ 1; omega), up_ne (by show k ≠ 8; omega)])
      · rw [xup_ne _ _ q1, xup_ne _ _ q2]; exact o6 t q3
      · rw [up_ne (by omega), up_ne (by omega), o6 t (fun z => by have := z.2.1; omega)]; exact hfr t ht
    · have hge : 10 ≤ aS A := by
        rcases Nat.lt_or_ge (aS A) 10 with q | q
        · exact absurd ((nI_ltI (a := aS A) (b := 10) (by omega) (by omega)).mpr q) c42
        · exact q
      refine x_bipush (q := 47) (v := -4) F dX6_read_45 rfl (by decide) ?_
      refine x_back ?_
      refine x_iret F dX6_read_47 (xle rfl) (xle rfl) ?_
      exact hQ _ _ (readF_full hP hge) ad h4 hC4 hfr
  · cases hP : (parA A).1 with
    | none => exact absurd ((optI_m1 hW).mpr hP) c23
    | some x => exact x_throwS F hl hno (names := ["java/lang/RuntimeException", "java/lang/Exception"]) (by decide +kernel) (by decide +kernel) xt_w1 F.2.2.2.2.2.2.2.2.2.2.2.1 xt_ise xt_ise2 dX6_read_26 dX6_read_29 dX6_read_30 dX6_read_32 dX6_read_35 (by decide) (by decide) (xle rfl) (xle rfl) (hQX _ (readF_no hP) ad h4 hC4 hfr)
