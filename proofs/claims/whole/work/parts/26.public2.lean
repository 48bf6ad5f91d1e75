/-! ===== the class's public methods, on ===== -/
theorem pC.script {ad : xAd} {h h' : xH} {A : AS} (H : pC ad h A) {s : Nat} {d : ScrD} (hd : pScr ad h' s d) (o : ∀ t : Tg, ¬ (20 ≤ t.1 ∧ t.1 ≤ 28 ∧ t.2 = s) → h' t = h t) (hs : s < aS A) : pC ad h' (setSc A (aS A, updS (aScr A) s d)) := by
  obtain ⟨hM, hT, ⟨c1, c2⟩, ⟨s1, s2, s3⟩, ⟨i1, i2, i3⟩, hR⟩ := H
  have o2 : ∀ k i, (k < 20 ∨ 28 < k) → h' (k, i) = h (k, i) := fun k i q => o _ (fun z => by have := z.1; have := z.2.1; omega)
  refine ⟨(o2 1 0 (by omega)).trans hM, hT.congr (fun k _ _ => o2 k 0 (by omega)), ⟨(o2 6 0 (by omega)).trans c1, (o2 7 0 (by omega)).trans c2⟩, ⟨(o2 8 0 (by omega)).trans s1, fun j hj => ?_, fun k j q1 q2 q3 => ?_⟩, ⟨(o2 9 0 (by omega)).trans i1, fun j hj => (i2 j hj).congr (fun k _ _ => o2 k j (by omega)), fun k j q1 q2 q3 => (o2 k j (by omega)).trans (i3 k j q1 q2 q3)⟩, hR.congr (fun k _ _ => o2 k 0 (by omega))⟩
  · have hj : j < aS A := hj
    by_cases z : j = s
    · subst z
      show pScr ad h' j (updS (aScr A) j d j)
      rw [show updS (aScr A) j d j = d from if_pos rfl]
      exact hd
    · show pScr ad h' j (updS (aScr A) s d j)
      rw [show updS (aScr A) s d j = aScr A j from if_neg z]
      exact (s2 j hj).congr (fun k _ _ => o _ (fun w => z w.2.2))
  · have q3 : aS A ≤ j := q3
    rw [o (k, j) (fun w => by have : j = s := w.2.2; omega)]
    exact s3 k j q1 q2 q3
theorem i32_lt {a b : Int32} (h : a.toInt < b.toInt) : a < b := Int32.lt_iff_toInt_lt.mpr h
theorem i32_gt4 {n : Nat} {x c : Int32} (h : nI (n + 1) ≤ x) (hn : n < 2 ^ 30) (hc : c = nI n) : c < x := by
  subst hc
  apply i32_lt
  have h1 := Int32.le_iff_toInt_le.mp h
  rw [nI_toInt (by omega)] at h1
  rw [nI_toInt (by omega)]
  omega
set_option maxRecDepth 100000 in
set_option maxHeartbeats 2000000 in
theorem c_X6_check : Ct yX6_check cX6_check 6 (some .int) (xrm 1 0 0) (fun ad h av Q => ∃ A x bh kd v, pC ad h A ∧ aOK A ∧ av = [.ref (ad (1, 0)), .int x, .int (bI bh), .int kd, .int v] ∧ ∀ ad' h', pC ad' h' (checkF A x bh kd v).2 → fr40 h h' → Q (some (.int (checkF A x bh kd v).1)) ad' h') := by
  refine Ct.of (by decide) ?_
  intro p l e s m args below meth c0 G ad h av Q F hsp
  obtain ⟨A, x, bh, kd, v, hC, hA, rfl, hQ⟩ := hsp
  have hnS := hA.2.2.1.1
  refine ⟨x_ent rfl rfl, ?_⟩
  refine x_ls [(0, .ref (ad (1, 0))), (1, .int x), (2, .int (bI bh)), (3, .int kd), (4, .int v)] rfl ?_
  refine x_aload_n (q := 1) F dX6_check_0 rfl rfl (by first | exact xref_r | exact xref_n | exact xref_f _ | assumption) ?_
  refine x_iload_n (q := 2) F dX6_check_1 rfl rfl ?_
  refine x_callV1 (q := 5) F (1, 0) c_X6_scriptOf dX6_check_2 rfl mv_X6_scriptOf ml_X6_108 ⟨⟨xle rfl, xle rfl⟩, xle rfl, xle rfl⟩ rfl hC.1 (xle rfl) ?_
  refine ⟨A, x, hC, hA, rfl, fun _ => ?_⟩
  cases hx : ixN (aS A) x with
  | none =>
    rw [show scrV ad A x = .null by unfold scrV; rw [hx]; rfl]
    have hF : checkF A x bh kd v = (-1, A) := by unfold checkF; rw [hx]
    rw [hF] at hQ
    refine x_astore (q := 7) F dX6_check_5 rfl (by decide) (by first | exact xref_r | exact xref_n | exact xref_f _ | assumption) ?_
    refine x_aload (q := 9) F dX6_check_7 rfl rfl (by first | exact xref_r | exact xref_n | exact xref_f _ | assumption) ?_
    refine x_ifnonnull (q := 12) F 14 dX6_check_9 (by decide) rfl (by first | exact xref_r | exact xref_n | exact xref_f _ | assumption) (fun a9 c9 => ?_) (fun c9 => ?_)
    · cases c9
    · refine x_iconst (q := 13) (v := -1) F dX6_check_12 rfl (by decide) ?_
      refine x_iret F dX6_check_13 (xle rfl) (xle rfl) ?_
      exact hQ ad h hC fr40.rf
  | some sc =>
    obtain ⟨hs, rfl⟩ := ixN_some (by omega) hx
    rw [show scrV ad A (nI sc) = .ref (ad (20, sc)) by unfold scrV; rw [hx]; rfl]
    obtain ⟨S1, S2, S3, S4, S5, S6, S7, S8, S9⟩ := hC.2.2.2.1.2.1 sc hs
    obtain ⟨o1, o2, o3, o4, o5, o6, o7⟩ := hA.2.2.1.2 sc hs
    refine x_astore (q := 7) F dX6_check_5 rfl (by decide) (by first | exact xref_r | exact xref_n | exact xref_f _ | assumption) ?_
    refine x_aload (q := 9) F dX6_check_7 rfl rfl (by first | exact xref_r | exact xref_n | exact xref_f _ | assumption) ?_
    refine x_ifnonnull (q := 12) F 14 dX6_check_9 (by decide) rfl (by first | exact xref_r | exact xref_n | exact xref_f _ | assumption) (fun a9 c9 => ?_) (fun c9 => ?_)
    · refine x_ls [(0, .ref (ad (1, 0))), (1, .int (nI sc)), (2, .int (bI bh)), (3, .int kd), (4, .int v), (5, .ref (ad (20, sc)))] rfl ?_
      have bad : (ixN 4 kd = none ∨ ixN 256 v = none) → xX p l e (xrm 1 0 0) s m args below meth c0 G ad h 6 (xZ below G ad h Q args s (xrm 1 0 0)) 36 [(0, .ref (ad (1, 0))), (1, .int (nI sc)), (2, .int (bI bh)), (3, .int kd), (4, .int v), (5, .ref (ad (20, sc)))] [] ad h 0 0 := by
        intro hz
        have hF : checkF A (nI sc) bh kd v = (-2, A) := by
          unfold checkF
          rw [hx]
          rcases hz with hz | hz
          · simp only [hz]
          · cases hk : ixN 4 kd <;> simp only [hz]
        rw [hF] at hQ
        refine x_bipush (q := 38) (v := -2) F dX6_check_36 rfl (by decide) ?_
        refine x_iret F dX6_check_38 (xle rfl) (xle rfl) ?_
        exact hQ ad h hC fr40.rf
      refine x_iload_n (q := 15) F dX6_check_14 rfl rfl ?_
      rcases pk_ix kd (n := 4) (by omega) with zk | zk | ⟨k, hk, rfl⟩
      · refine x_if_lt (q := 18) F 36 dX6_check_15 (by decide) rfl (fun c15 => ?_) (fun c15 => ?_)
        · exact bad (Or.inl (ixN_neg zk))
        · exact absurd zk c15
      · refine x_if_lt (q := 18) F 36 dX6_check_15 (by decide) rfl (fun c15 => ?_) (fun c15 => ?_)
        · exact bad (Or.inl (ixN_neg c15))
        · refine x_iload_n (q := 19) F dX6_check_18 rfl rfl ?_
          refine x_iconst (q := 20) (v := 3) F dX6_check_19 rfl (by decide) ?_
          refine x_icmp_gt (q := 23) F 36 dX6_check_20 (by decide) rfl (fun c20 => ?_) (fun c20 => ?_)
          · exact bad (Or.inl (ixN_ge (by omega) zk))
          · exact absurd (i32_gt4 (n := 3) zk (by omega) rfl) c20
      · refine x_if_lt (q := 18) F 36 dX6_check_15 (by decide) rfl (fun c15 => ?_) (fun c15 => ?_)
        · exact absurd c15 (nI_pos (by omega))
        · refine x_iload_n (q := 19) F dX6_check_18 rfl rfl ?_
          refine x_iconst (q := 20) (v := 3) F dX6_check_19 rfl (by decide) ?_
          refine x_icmp_gt (q := 23) F 36 dX6_check_20 (by decide) rfl (fun c20 => ?_) (fun c20 => ?_)
          · exact absurd ((nI_ltI (a := 3) (b := k) (by omega) (by omega)).mp c20) (by omega)
          · refine x_iload (q := 25) F dX6_check_23 rfl rfl ?_
            rcases pk_ix v (n := 256) (by omega) with zv | zv | ⟨w, hw, rfl⟩
            · refine x_if_lt (q := 28) F 36 dX6_check_25 (by decide) rfl (fun c25 => ?_) (fun c25 => ?_)
              · exact bad (Or.inr (ixN_neg zv))
              · exact absurd zv c25
            · refine x_if_lt (q := 28) F 36 dX6_check_25 (by decide) rfl (fun c25 => ?_) (fun c25 => ?_)
              · exact bad (Or.inr (ixN_neg c25))
              · refine x_iload (q := 30) F dX6_check_28 rfl rfl ?_
                refine x_sipush (q := 33) (v := 255) F dX6_check_30 rfl (by decide) ?_
                refine x_icmp_le (q := 36) F 39 dX6_check_33 (by decide) rfl (fun c33 => ?_) (fun c33 => ?_)
                · exact absurd (i32_gt4 (n := 255) zv (by omega) rfl) (Int32.not_lt.mpr c33)
                · exact bad (Or.inr (ixN_ge (by omega) zv))
            · refine x_if_lt (q := 28) F 36 dX6_check_25 (by decide) rfl (fun c25 => ?_) (fun c25 => ?_)
              · exact absurd c25 (nI_pos (by omega))
              · refine x_iload (q := 30) F dX6_check_28 rfl rfl ?_
                refine x_sipush (q := 33) (v := 255) F dX6_check_30 rfl (by decide) ?_
                refine x_icmp_le (q := 36) F 39 dX6_check_33 (by decide) rfl (fun c33 => ?_) (fun c33 => ?_)
                · refine x_iload_n (q := 40) F dX6_check_39 rfl rfl ?_
                  have hk4 : ixN 4 (nI k) = some k := ixN_nI hk (by omega)
                  have hw4 : ixN 256 (nI w) = some w := ixN_nI hw (by omega)
                  cases bh with
                  | false =>
                    have hF : checkF A (nI sc) false (nI k) (nI w) = if sBn (aScr A sc) < 4 then (nI (sBn (aScr A sc) + 1), setSc A (aS A, updS (aScr A) sc (addB (aScr A sc) k w))) else (-4, A) := by
                      unfold checkF; rw [hx, hk4, hw4]; rfl
                    rw [hF] at hQ
                    refine x_if_eq (q := 43) F 57 dX6_check_40 (by decide) rfl (fun c40 => ?_) (fun c40 => ?_)
                    · refine x_aload (q := 59) F dX6_check_57 rfl rfl (by first | exact xref_r | exact xref_n | exact xref_f _ | assumption) ?_
                      refine x_getN (q := 62) F dX6_check_59 rfl fn_X6_120 S1 rfl ?_
                      refine x_iload_n (q := 63) F dX6_check_62 rfl rfl ?_
                      refine x_iload (q := 65) F dX6_check_63 rfl rfl ?_
                      refine x_callV2 (q := 68) F (23, sc) c_X1_add dX6_check_65 rfl mv_X1_add ml_X6_116 ⟨⟨xle rfl, xle rfl⟩, xle rfl, xle rfl⟩ rfl S4 (xle rfl) ?_
                      refine ⟨(23, sc), (25, sc), (26, sc), sBn (aScr A sc), _, _, _, _, rfl, S4, S6, S7, tg_ne (by decide) _ _, tg_ne (by decide) _ _, tg_ne (by decide) _ _, o3, fun z _ => ?_, fun z _ => ?_⟩
                      · rw [if_neg (by omega)] at hQ
                        refine x_iret F dX6_check_68 (xle rfl) (xle rfl) ?_
                        exact hQ ad h hC fr40.rf
                      · rw [if_pos z] at hQ
                        refine x_iret F dX6_check_68 (xle rfl) (xle rfl) ?_
                        refine hQ ad _ (hC.script (s := sc) (d := addB (aScr A sc) k w) ⟨xk (xk (xk S1)), xk (xk (xk S2)), xk (xk (xk S3)), xup_self _ _ _, xk (xk (xk S5)), ?_, ?_, xk (xk (xk S8)), xk (xk (xk S9))⟩ (fun t ht => ?_) hs) (fun t ht => ?_)
                        · rw [upd_N, upd_N]; exact xk (xk (xup_self _ _ _))
                        · rw [upd_N, upd_N]; exact xk (xup_self _ _ _)
                        · have z : ∀ k, 20 ≤ k → k ≤ 28 → t ≠ (k, sc) := fun k z1 z2 w => ht (by rw [w]; exact ⟨z1, z2, rfl⟩)
                          rw [xup_ne _ _ (z 23 (by omega) (by omega)), xup_ne _ _ (z 26 (by omega) (by omega)), xup_ne _ _ (z 25 (by omega) (by omega))]
                        · rw [up_ne (by omega), up_ne (by omega), up_ne (by omega)]
                    · exact absurd rfl c40
                  | true =>
                    have hF : checkF A (nI sc) true (nI k) (nI w) = if sHn (aScr A sc) < 4 then (nI (sHn (aScr A sc) + 1), setSc A (aS A, updS (aScr A) sc (addH (aScr A sc) k w))) else (-4, A) := by
                      unfold checkF; rw [hx, hk4, hw4]; rfl
                    rw [hF] at hQ
                    refine x_if_eq (q := 43) F 57 dX6_check_40 (by decide) rfl (fun c40 => ?_) (fun c40 => ?_)
                    · exact absurd c40 (by decide)
                    · refine x_aload (q := 45) F dX6_check_43 rfl rfl (by first | exact xref_r | exact xref_n | exact xref_f _ | assumption) ?_
                      refine x_getN (q := 48) F dX6_check_45 rfl fn_X6_112 S1 rfl ?_
                      refine x_iload_n (q := 49) F dX6_check_48 rfl rfl ?_
                      refine x_iload (q := 51) F dX6_check_49 rfl rfl ?_
                      refine x_callV2 (q := 54) F (24, sc) c_X1_add dX6_check_51 rfl mv_X1_add ml_X6_116 ⟨⟨xle rfl, xle rfl⟩, xle rfl, xle rfl⟩ rfl S5 (xle rfl) ?_
                      refine ⟨(24, sc), (27, sc), (28, sc), sHn (aScr A sc), _, _, _, _, rfl, S5, S8, S9, tg_ne (by decide) _ _, tg_ne (by decide) _ _, tg_ne (by decide) _ _, o5, fun z _ => ?_, fun z _ => ?_⟩
                      · rw [if_neg (by omega)] at hQ
                        refine x_goto F 68 dX6_check_54 (by decide) ?_
                        refine x_iret F dX6_check_68 (xle rfl) (xle rfl) ?_
                        exact hQ ad h hC fr40.rf
                      · rw [if_pos z] at hQ
                        refine x_goto F 68 dX6_check_54 (by decide) ?_
                        refine x_iret F dX6_check_68 (xle rfl) (xle rfl) ?_
                        refine hQ ad _ (hC.script (s := sc) (d := addH (aScr A sc) k w) ⟨xk (xk (xk S1)), xk (xk (xk S2)), xk (xk (xk S3)), xk (xk (xk S4)), xup_self _ _ _, xk (xk (xk S6)), xk (xk (xk S7)), ?_, ?_⟩ (fun t ht => ?_) hs) (fun t ht => ?_)
                        · rw [upd_N, upd_N]; exact xk (xk (xup_self _ _ _))
                        · rw [upd_N, upd_N]; exact xk (xup_self _ _ _)
                        · have z : ∀ k, 20 ≤ k → k ≤ 28 → t ≠ (k, sc) := fun k z1 z2 w => ht (by rw [w]; exact ⟨z1, z2, rfl⟩)
                          rw [xup_ne _ _ (z 24 (by omega) (by omega)), xup_ne _ _ (z 28 (by omega) (by omega)), xup_ne _ _ (z 27 (by omega) (by omega))]
                        · rw [up_ne (by omega), up_ne (by omega), up_ne (by omega)]
                · exact absurd ((nI_leI (a := w) (b := 255) (by omega) (by omega)).mpr (by omega)) c33
    · cases c9
theorem scrV_none {ad : xAd} {A : AS} {x : Int32} (h : ixN (aS A) x = none) : scrV ad A x = .null := by unfold scrV; rw [h]; rfl
theorem scrV_some {ad : xAd} {A : AS} {x : Int32} {s : Nat} (h : ixN (aS A) x = some s) : scrV ad A x = .ref (ad (20, s)) := by unfold scrV; rw [h]; rfl
theorem itmV_none {ad : xAd} {A : AS} {x : Int32} (h : ixN (aI A) x = none) : itmV ad A x = .null := by unfold itmV; rw [h]; rfl
theorem itmV_some {ad : xAd} {A : AS} {x : Int32} {s : Nat} (h : ixN (aI A) x = some s) : itmV ad A x = .ref (ad (30, s)) := by unfold itmV; rw [h]; rfl
theorem liveV_none {ad : xAd} {A : AS} {x : Int32} (h : liveN A x = none) : liveV ad A x = .null := by unfold liveV; rw [h]; rfl
theorem liveV_some {ad : xAd} {A : AS} {x : Int32} {s : Nat} (h : liveN A x = some s) : liveV ad A x = .ref (ad (30, s)) := by unfold liveV; rw [h]; rfl
theorem pC.ml {ad : xAd} {h : xH} {A : AS} (H : pC ad h A) (v : Int32) : pC ad (xup h (1, 0) (cMain ad (setMl A v))) (setMl A v) := H.main ⟨rfl, rfl, rfl, rfl, rfl, rfl, rfl⟩
set_option maxRecDepth 100000 in
set_option maxHeartbeats 2000000 in
theorem c_X6_migrate : Ct yX6_migrate cX6_migrate 4 (some .int) (xrm 5 3 48) (fun ad h av Q => ∃ A x y, pC ad h A ∧ aOK A ∧ av = [.ref (ad (1, 0)), .int x, .int y] ∧ ∀ ad' h', pC ad' h' (migrateF A x y).2 → fr40 h h' → Q (some (.int (migrateF A x y).1)) ad' h') := by
  refine Ct.of (by decide) ?_
  intro p l e s m args below meth c0 G ad h av Q F hsp
  obtain ⟨A, x, y, hC, hA, rfl, hQ⟩ := hsp
  have hnS := hA.2.2.1.1
  refine ⟨x_ent rfl rfl, ?_⟩
  refine x_ls [(0, .ref (ad (1, 0))), (1, .int x), (2, .int y)] rfl ?_
  have bad : (liveN A x = none ∨ ixN (aS A) y = none) → xX p l e (xrm 5 3 48) s m args below meth c0 G ad h 4 (xZ below G ad h Q args s (xrm 5 3 48)) 16 [(0, .ref (ad (1, 0))), (1, .int x), (2, .int y)] [] ad h 0 0 := by
    intro hz
    have hF : migrateF A x y = (-1, A) := by
      unfold migrateF
      rcases hz with hz | hz
      · rw [hz]
      · rw [hz]; cases liveN A x <;> rfl
    rw [hF] at hQ
    refine x_iconst (q := 17) (v := -1) F dX6_migrate_16 rfl (by decide) ?_
    refine x_iret F dX6_migrate_17 (xle rfl) (xle rfl) ?_
    exact hQ ad h hC fr40.rf
  refine x_aload_n (q := 1) F dX6_migrate_0 rfl rfl (by first | exact xref_r | exact xref_n | exact xref_f _ | assumption) ?_
  refine x_iload_n (q := 2) F dX6_migrate_1 rfl rfl ?_
  refine x_callV1 (q := 5) F (1, 0) c_X6_liveItem dX6_migrate_2 rfl mv_X6_liveItem ml_X6_123 ⟨⟨xle rfl, xle rfl⟩, xle rfl, xle rfl⟩ rfl hC.1 (xle rfl) ?_
  refine ⟨A, x, hC, hA, rfl, fun _ => ?_⟩
  cases hx : liveN A x with
  | none =>
    rw [liveV_none hx]
    refine x_ifnull (q := 8) F 16 dX6_migrate_5 (by decide) rfl (by first | exact xref_r | exact xref_n | exact xref_f _ | assumption) (fun c5 => ?_) (fun a5 c5 => ?_)
    · exact bad (Or.inl hx)
    · cases c5
  | some i =>
    rw [liveV_some hx]
    obtain ⟨hi, rfl, hg⟩ := liveN_some hA hx
    refine x_ifnull (q := 8) F 16 dX6_migrate_5 (by decide) rfl (by first | exact xref_r | exact xref_n | exact xref_f _ | assumption) (fun c5 => ?_) (fun a5 c5 => ?_)
    · cases c5
    · refine x_aload_n (q := 9) F dX6_migrate_8 rfl rfl (by first | exact xref_r | exact xref_n | exact xref_f _ | assumption) ?_
      refine x_iload_n (q := 10) F dX6_migrate_9 rfl rfl ?_
      refine x_callV1 (q := 13) F (1, 0) c_X6_scriptOf dX6_migrate_10 rfl mv_X6_scriptOf ml_X6_108 ⟨⟨xle rfl, xle rfl⟩, xle rfl, xle rfl⟩ rfl hC.1 (xle rfl) ?_
      refine ⟨A, y, hC, hA, rfl, fun _ => ?_⟩
      cases hy : ixN (aS A) y with
      | none =>
        rw [scrV_none hy]
        refine x_ifnonnull (q := 16) F 18 dX6_migrate_13 (by decide) rfl (by first | exact xref_r | exact xref_n | exact xref_f _ | assumption) (fun a13 c13 => ?_) (fun c13 => ?_)
        · cases c13
        · exact bad (Or.inr hy)
      | some sc =>
        rw [scrV_some hy]
        obtain ⟨hs, rfl⟩ := ixN_some (by omega) hy
        have hF : migrateF A (nI i) (nI sc) = ((deriveF A i sc).1, setMl (deriveF A i sc).2 (ag (deriveF A i sc).1)) := by unfold migrateF; rw [hx, hy]
        rw [hF] at hQ
        refine x_ifnonnull (q := 16) F 18 dX6_migrate_13 (by decide) rfl (by first | exact xref_r | exact xref_n | exact xref_f _ | assumption) (fun a13 c13 => ?_) (fun c13 => ?_)
        · refine x_aload_n (q := 19) F dX6_migrate_18 rfl rfl (by first | exact xref_r | exact xref_n | exact xref_f _ | assumption) ?_
          refine x_iload_n (q := 20) F dX6_migrate_19 rfl rfl ?_
          refine x_iload_n (q := 21) F dX6_migrate_20 rfl rfl ?_
          refine x_callV2 (q := 24) F (1, 0) c_X6_derive dX6_migrate_21 rfl mv_X6_derive ml_X6_127 ⟨⟨xle rfl, xle rfl⟩, xle rfl, xle rfl⟩ rfl hC.1 (xle rfl) ?_
          refine ⟨A, i, sc, hC, hA, hi, hg, hs, rfl, fun ad2 h2 hC2 hfr hE => ?_⟩
          have e1 : ad2 (1, 0) = ad (1, 0) := (hE (1, 0) (by rw [hC.1]; exact fun z => by cases z)).2
          rw [← e1]
          refine x_istore_n (q := 25) F dX6_migrate_24 rfl (by decide) ?_
          refine x_aload_n (q := 26) F dX6_migrate_25 rfl rfl (by first | exact xref_r | exact xref_n | exact xref_f _ | assumption) ?_
          refine x_iload_n (q := 27) F dX6_migrate_26 rfl rfl ?_
          refine x_callS1 (q := 30) F c_X6_against dX6_migrate_27 rfl ms_X6_against ml_X6_130 ⟨⟨xle rfl, xle rfl⟩, xle rfl, xle rfl⟩ (xle rfl) ?_
          refine ⟨_, rfl, fun _ => ?_⟩
          refine x_put (q := 33) F dX6_migrate_30 rfl fs_X6_50 hC2.1 (xle rfl) rfl rfl ?_
          refine x_iload_n (q := 34) F dX6_migrate_33 rfl rfl ?_
          refine x_iret F dX6_migrate_34 (xle rfl) (xle rfl) ?_
          exact hQ ad2 _ (hC2.ml (ag (deriveF A i sc).1)) (hfr.tr (fr40.up (by decide)))
        · cases c13
set_option maxRecDepth 100000 in
set_option maxHeartbeats 2000000 in
theorem c_X6_chain : Ct yX6_chain cX6_chain 4 (some .int) (xrm 3 0 0) (fun ad h av Q => ∃ A x y, pC ad h A ∧ aOK A ∧ av = [.ref (ad (1, 0)), .int x, .int y] ∧ ∀ ad' h', pC ad' h' (chainF A x y).2 → fr40 h h' → Q (some (.int (chainF A x y).1)) ad' h') := by
  refine Ct.of (by decide) ?_
  intro p l e s m args below meth c0 G ad h av Q F hsp
  obtain ⟨A, x, y, hC, hA, rfl, hQ⟩ := hsp
  have hnS := hA.2.2.1.1
  refine ⟨x_ent rfl rfl, ?_⟩
  refine x_ls [(0, .ref (ad (1, 0))), (1, .int x), (2, .int y)] rfl ?_
  refine x_aload_n (q := 1) F dX6_chain_0 rfl rfl (by first | exact xref_r | exact xref_n | exact xref_f _ | assumption) ?_
  refine x_iload_n (q := 2) F dX6_chain_1 rfl rfl ?_
  refine x_callV1 (q := 5) F (1, 0) c_X6_scriptOf dX6_chain_2 rfl mv_X6_scriptOf ml_X6_108 ⟨⟨xle rfl, xle rfl⟩, xle rfl, xle rfl⟩ rfl hC.1 (xle rfl) ?_
  refine ⟨A, x, hC, hA, rfl, fun _ => ?_⟩
  cases hx : ixN (aS A) x with
  | none =>
    rw [scrV_none hx]
    have hF : chainF A x y = (-1, A) := by unfold chainF; rw [hx]
    rw [hF] at hQ
    refine x_astore_n (q := 6) F dX6_chain_5 rfl (by decide) (by first | exact xref_r | exact xref_n | exact xref_f _ | assumption) ?_
    refine x_aload_n (q := 7) F dX6_chain_6 rfl rfl (by first | exact xref_r | exact xref_n | exact xref_f _ | assumption) ?_
    refine x_ifnull (q := 10) F 23 dX6_chain_7 (by decide) rfl (by first | exact xref_r | exact xref_n | exact xref_f _ | assumption) (fun c7 => ?_) (fun a7 c7 => ?_)
    · refine x_iconst (q := 24) (v := -1) F dX6_chain_23 rfl (by decide) ?_
      refine x_iret F dX6_chain_24 (xle rfl) (xle rfl) ?_
      exact hQ ad h hC fr40.rf
    · cases c7
  | some sc =>
    rw [scrV_some hx]
    obtain ⟨hs, rfl⟩ := ixN_some (by omega) hx
    obtain ⟨S1, S2, S3, S4, S5, S6, S7, S8, S9⟩ := hC.2.2.2.1.2.1 sc hs
    have good : ∀ (o : Option Nat), y = optI o → (∀ v, o = some v → v < aS A) → chainF A (nI sc) y = (if comesF A sc 10 o = true then (-3, A) else (1, setSc A (aS A, updS (aScr A) sc (setNx (aScr A sc) o)))) → xX p l e (xrm 3 0 0) s m args below meth c0 G ad h 4 (xZ below G ad h Q args s (xrm 3 0 0)) 25 [(0, .ref (ad (1, 0))), (1, .int (nI sc)), (2, .int y), (3, .ref (ad (20, sc)))] [] ad h 0 0 := by
      intro o hy ho hF
      rw [hF] at hQ
      subst hy
      refine x_aload_n (q := 26) F dX6_chain_25 rfl rfl (by first | exact xref_r | exact xref_n | exact xref_f _ | assumption) ?_
      refine x_iload_n (q := 27) F dX6_chain_26 rfl rfl ?_
      refine x_iload_n (q := 28) F dX6_chain_27 rfl rfl ?_
      refine x_callV2 (q := 31) F (1, 0) c_X6_comesTo dX6_chain_28 rfl mv_X6_comesTo ml_X6_134 ⟨⟨xle rfl, xle rfl⟩, xle rfl, xle rfl⟩ rfl hC.1 (xle rfl) ?_
      refine ⟨A, o, sc, hC, hA, rfl, ho, by omega, fun _ => ?_⟩
      cases hc : comesF A sc 10 o with
      | true =>
        rw [if_pos hc] at hQ
        refine x_if_eq (q := 34) F 37 dX6_chain_31 (by decide) rfl (fun c31 => ?_) (fun c31 => ?_)
        · exact absurd c31 (by decide)
        · refine x_bipush (q := 36) (v := -3) F dX6_chain_34 rfl (by decide) ?_
          refine x_iret F dX6_chain_36 (xle rfl) (xle rfl) ?_
          exact hQ ad h hC fr40.rf
      | false =>
        rw [if_neg (by rw [hc]; decide)] at hQ
        refine x_if_eq (q := 34) F 37 dX6_chain_31 (by decide) rfl (fun c31 => ?_) (fun c31 => ?_)
        · refine x_aload_n (q := 38) F dX6_chain_37 rfl rfl (by first | exact xref_r | exact xref_n | exact xref_f _ | assumption) ?_
          refine x_iload_n (q := 39) F dX6_chain_38 rfl rfl ?_
          refine x_putN (q := 42) F dX6_chain_39 rfl fn_X6_138 S1 (xle rfl) rfl rfl ?_
          refine x_iconst (q := 43) (v := 1) F dX6_chain_42 rfl (by decide) ?_
          refine x_iret F dX6_chain_43 (xle rfl) (xle rfl) ?_
          exact hQ ad _ (hC.script (s := sc) (d := setNx (aScr A sc) o) ⟨xup_self _ _ _, xk S2, xk S3, xk S4, xk S5, xk S6, xk S7, xk S8, xk S9⟩ (fun t ht => xup_ne _ _ (fun w => ht (by rw [w]; exact ⟨by show 20 ≤ 20; omega, by show 20 ≤ 28; omega, rfl⟩))) hs) (fr40.up (by decide))
        · exact absurd rfl c31
    refine x_astore_n (q := 6) F dX6_chain_5 rfl (by decide) (by first | exact xref_r | exact xref_n | exact xref_f _ | assumption) ?_
    refine x_aload_n (q := 7) F dX6_chain_6 rfl rfl (by first | exact xref_r | exact xref_n | exact xref_f _ | assumption) ?_
    refine x_ifnull (q := 10) F 23 dX6_chain_7 (by decide) rfl (by first | exact xref_r | exact xref_n | exact xref_f _ | assumption) (fun c7 => ?_) (fun a7 c7 => ?_)
    · cases c7
    · refine x_iload_n (q := 11) F dX6_chain_10 rfl rfl ?_
      refine x_iconst (q := 12) (v := -1) F dX6_chain_11 rfl (by decide) ?_
      refine x_icmp_eq (q := 15) F 25 dX6_chain_12 (by decide) rfl (fun c12 => ?_) (fun c12 => ?_)
      · refine x_ls [(0, .ref (ad (1, 0))), (1, .int (nI sc)), (2, .int y), (3, .ref (ad (20, sc)))] rfl ?_
        refine good none c12 (fun v z => by cases z) ?_
        unfold chainF
        rw [hx]
        show (if y = -1 then _ else _) = _
        rw [if_pos c12]
        rfl
      · refine x_aload_n (q := 16) F dX6_chain_15 rfl rfl (by first | exact xref_r | exact xref_n | exact xref_f _ | assumption) ?_
        refine x_iload_n (q := 17) F dX6_chain_16 rfl rfl ?_
        refine x_callV1 (q := 20) F (1, 0) c_X6_scriptOf dX6_chain_17 rfl mv_X6_scriptOf ml_X6_108 ⟨⟨xle rfl, xle rfl⟩, xle rfl, xle rfl⟩ rfl hC.1 (xle rfl) ?_
        refine ⟨A, y, hC, hA, rfl, fun _ => ?_⟩
        cases hy : ixN (aS A) y with
        | none =>
          rw [scrV_none hy]
          have hF : chainF A (nI sc) y = (-1, A) := by
            unfold chainF
            rw [hx]
            show (if y = -1 then _ else _) = _
            rw [if_neg c12, hy]
          rw [hF] at hQ
          refine x_ifnonnull (q := 23) F 25 dX6_chain_20 (by decide) rfl (by first | exact xref_r | exact xref_n | exact xref_f _ | assumption) (fun a20 c20 => ?_) (fun c20 => ?_)
          · cases c20
          · refine x_iconst (q := 24) (v := -1) F dX6_chain_23 rfl (by decide) ?_
            refine x_iret F dX6_chain_24 (xle rfl) (xle rfl) ?_
            exact hQ ad h hC fr40.rf
        | some t =>
          rw [scrV_some hy]
          obtain ⟨ht, rfl⟩ := ixN_some (by omega) hy
          refine x_ifnonnull (q := 23) F 25 dX6_chain_20 (by decide) rfl (by first | exact xref_r | exact xref_n | exact xref_f _ | assumption) (fun a20 c20 => ?_) (fun c20 => ?_)
          · refine x_ls [(0, .ref (ad (1, 0))), (1, .int (nI sc)), (2, .int (nI t)), (3, .ref (ad (20, sc)))] rfl ?_
            refine good (some t) rfl (fun v z => by cases z; exact ht) ?_
            unfold chainF
            rw [hx]
            show (if nI t = -1 then _ else _) = _
            rw [if_neg c12, hy]
          · cases c20
