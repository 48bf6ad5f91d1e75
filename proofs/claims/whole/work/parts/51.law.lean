/-! ===== the law: both sides hold the same state behind every call ===== -/
def lawI (ad : xAd) (h : xH) (A : AS) : Prop := pC ad h A ∧ Inv A ∧ (∃ S ct V, h = wM h ad S ct V ∧ rM A S ct V) ∧ ∃ f, h (90, 0) = some (cJ1 f)
theorem law_cls {ad ad1 : xAd} {h h1 : xH} {A : AS} {S : Nat → Int32} {ct : Int64} {V : MV} (hC : pC ad h A) (hw : h = wM h ad S ct V) (h90 : h (90, 0) ≠ none) (hk : ∀ k, 50 ≤ k → k ≤ 68 → h1 (k, 0) = h (k, 0)) (hE : xExt ad h ad1 h1) : ad1 (1, 0) = ad (1, 0) ∧ ad1 (50, 0) = ad (50, 0) ∧ ad1 (90, 0) = ad (90, 0) ∧ h1 = wM h1 ad1 S ct V := by
  have live : ∀ k, 50 ≤ k → k ≤ 68 → h (k, 0) ≠ none := fun k q1 q2 => by
    rw [show h (k, 0) = wM h ad S ct V (k, 0) from congrFun hw (k, 0)]
    unfold wM
    rw [if_pos ⟨rfl, q1, q2⟩]
    by_cases z : (k, 0).1 = 50
    · rw [if_pos z]; exact fun w => by cases w
    · rw [if_neg z]; exact fun w => by cases w
  exact ⟨(hE (1, 0) (pC_live1 hC)).2, (hE (50, 0) (live 50 (by omega) (by omega))).2, (hE (90, 0) h90).2, wM_moved hw (fun k q1 q2 => (hE (k, 0) (live k q1 q2)).2) hk⟩
theorem law_mod {ad : xAd} {h : xH} {B : AS} {S' : Nat → Int32} {ct' : Int64} {V' : MV} {f : Nat → Int64} (hC : pC ad h B) (hI : Inv B) (hr : rM B S' ct' V') (h90 : h (90, 0) = some (cJ1 f)) : lawI ad (wM h ad S' ct' V') B :=
  ⟨hC.congr (fun t ht => wM_n _ _ _ _ _ (Or.inl (by omega))), hI, ⟨S', ct', V', (wM_wM h ad S' S' ct' ct' V' V').symm, hr⟩, f, (wM_n _ _ _ _ _ (Or.inr (by decide))).trans h90⟩
theorem wM_50 {ad : xAd} {h : xH} {S : Nat → Int32} {ct : Int64} {V : MV} (hw : h = wM h ad S ct V) : h (50, 0) = some (.inr (7, mFl ad S ct)) := (congrFun hw (50, 0)).trans (wM_o h ad S ct V)
theorem cmp_self (x : Int64) : lg_cmp x x = 0 := by unfold lg_cmp; simp
theorem bat600 {A : AS} (hI : Inv A) {x : Int32} {S : Nat → Int32} {ct : Int64} {V : MV} (hR : rM (batchF A x).2 S ct V) : aOb (batchF A x).2 ≤ 600 := by
  obtain ⟨nb, bm, ob, _, b2, b3, _⟩ := hR.2.2.2.2.1
  have h60 : aI (batchF A x).2 ≤ 60 := by
    unfold batchF
    cases hx : ixN (aS A) x with
    | none => exact hI.1.1.2.2.2.1.1
    | some sc =>
      obtain ⟨hs, _⟩ := ixN_some (by have := hI.1.1.2.2.1.1; omega) hx
      have hb := (batF_inv sc (aI A) 0 A hI.1 hs (by omega)).1.1.2.2.2.1.1
      show aI (if 0 < (batF sc (aI A) 0 A).1 then setOb (batF sc (aI A) 0 A).2 (aOb (batF sc (aI A) 0 A).2 + 1) else (batF sc (aI A) 0 A).2) ≤ 60
      by_cases z : 0 < (batF sc (aI A) 0 A).1
      · rw [if_pos z]; exact hb
      · rw [if_neg z]; exact hb
  omega
theorem law_w1 : Cond.codeWith yL_read cL_read 3 (some .int) [(0, 8, 11, 13)] ∈ xwd ∧ Cond.static yL_read ∈ xwd ∧ Cond.initialized yL_read.cls ∈ xwd := by decide +kernel
theorem law_w2 : Cond.codeWith yL_at cL_at 5 (some .int) [(0, 10, 13, 19)] ∈ xwd ∧ Cond.static yL_at ∈ xwd ∧ Cond.initialized yL_at.cls ∈ xwd := by decide +kernel
theorem law_d1 : yL_read.cls ≠ "java/lang/invoke/MethodHandle" ∧ yL_read.cls ≠ "java/lang/invoke/VarHandle" ∧ (parseMethodDescriptor yL_read.desc).map (fun d => d.parameters.length) = some 2 := by decide +kernel
theorem law_d2 : yL_at.cls ≠ "java/lang/invoke/MethodHandle" ∧ yL_at.cls ≠ "java/lang/invoke/VarHandle" ∧ (parseMethodDescriptor yL_at.desc).map (fun d => d.parameters.length) = some 4 := by decide +kernel
set_option maxRecDepth 100000 in
set_option maxHeartbeats 16000000 in
theorem law_loop {p : Program} {l : Launch} {e : Env} {s : State} {m : MethodId} {below : List Frame} {meth : Method} {c : Code} {G : xG} {ad0 : xAd} {h0 : xH} {nm : String} {b : Nat} (F : xF p s m #[Value.ref b] meth c G ad0 h0 RL code 7 ret nm) (h0n : ∀ t, h0 t = none) (hl : l.stackTraces = false) (hL : G.2.2.2.2.1 ≤ 2562) : ∀ (f i : Nat) (A : AS) (ad : xAd) (h : xH) (K N : Nat), lawI ad h A → i ≤ 3000 → G.2.2.2.2.1 < i + 5 + 5 * f → K + 180 * f ≤ 601024 → N + 2880 * f ≤ 7293000 →
    xX p l e room_1 s m #[Value.ref b] below meth c G ad0 h0 7 (lw_Z below #[Value.ref b] s) 43 [(0, .ref G.2.2.2.1), (1, .ref (ad (1, 0))), (2, .ref (ad (50, 0))), (3, .ref (ad (90, 0))), (4, .int (nI i))] [] ad h K N := by
  have hend : ∀ (i : Nat) (ad : xAd) (h : xH) (K N : Nat), K ≤ 601024 → N ≤ 7293000 → xX p l e room_1 s m #[Value.ref b] below meth c G ad0 h0 7 (lw_Z below #[Value.ref b] s) 687 [(0, .ref G.2.2.2.1), (1, .ref (ad (1, 0))), (2, .ref (ad (50, 0))), (3, .ref (ad (90, 0))), (4, .int (nI i))] [] ad h K N := by
    intro i ad h K N h1 h2
    refine x_iconst (q := 688) (v := 1) F dL_law_687 rfl (by decide) ?_
    exact x_lawret F h0n dL_law_688 h1 h2
  intro f
  induction f with
  | zero =>
    intro i A ad h K N hI hi hf hK hN
    refine x_iload (q := 45) F dL_law_43 rfl rfl ?_
    refine x_aload_n (q := 46) F dL_law_45 rfl rfl (by first | exact xref_r | exact xref_n | exact xref_f _ | assumption) ?_
    refine x_slen (q := 47) F dL_law_46 rfl ?_
    refine x_iconst (q := 48) (v := 5) F dL_law_47 rfl (by decide) ?_
    refine x_isub (q := 49) F dL_law_48 rfl ?_
    refine x_icmp_gt (q := 52) F 687 dL_law_49 (by decide) rfl (fun c49 => ?_) (fun c49 => ?_)
    · exact hend i ad h K N hK hN
    · refine absurd (Int32.lt_iff_toInt_lt.mpr ?_) c49
      have := pk_sub_toInt (a := G.2.2.2.2.1) (b := 5) (by omega) (by omega)
      rw [nI_toInt (by omega)]
      show (nI G.2.2.2.2.1 - nI 5).toInt < _
      omega
  | succ f ih =>
    intro i A ad h K N hI hi hf hK hN
    refine x_iload (q := 45) F dL_law_43 rfl rfl ?_
    refine x_aload_n (q := 46) F dL_law_45 rfl rfl (by first | exact xref_r | exact xref_n | exact xref_f _ | assumption) ?_
    refine x_slen (q := 47) F dL_law_46 rfl ?_
    refine x_iconst (q := 48) (v := 5) F dL_law_47 rfl (by decide) ?_
    refine x_isub (q := 49) F dL_law_48 rfl ?_
    refine x_icmp_gt (q := 52) F 687 dL_law_49 (by decide) rfl (fun c49 => ?_) (fun c49 => ?_)
    · exact hend i ad h K N (by omega) (by omega)
    · have hlt : i + 5 ≤ G.2.2.2.2.1 := by
        rcases Nat.lt_or_ge G.2.2.2.2.1 (i + 5) with q | q
        · refine absurd (Int32.lt_iff_toInt_lt.mpr ?_) c49
          have := pk_sub_toInt (a := G.2.2.2.2.1) (b := 5) (by omega) (by omega)
          rw [nI_toInt (by omega)]
          show (nI G.2.2.2.2.1 - nI 5).toInt < _
          omega
        · exact q
      have next : ∀ (A' : AS) (ad' : xAd) (h' : xH) (K' N' : Nat), lawI ad' h' A' → K' ≤ K + 180 → N' ≤ N + 2880 → xX p l e room_1 s m #[Value.ref b] below meth c G ad0 h0 7 (lw_Z below #[Value.ref b] s) 681 [(0, .ref G.2.2.2.1), (1, .ref (ad' (1, 0))), (2, .ref (ad' (50, 0))), (3, .ref (ad' (90, 0))), (4, .int (nI i))] [] ad' h' K' N' := by
        intro A' ad' h' K' N' hI' k1 k2
        refine x_widen (k2 := K + 180) (n2 := N + 2880) k1 k2 ?_
        refine x_iinc (q := 684) F dL_law_681 rfl rfl (nI_add i 5) (by decide) ?_
        refine x_goto F 43 dL_law_684 (by decide) ?_
        refine x_ls [(0, .ref G.2.2.2.1), (1, .ref (ad' (1, 0))), (2, .ref (ad' (50, 0))), (3, .ref (ad' (90, 0))), (4, .int (nI (i + 5)))] rfl ?_
        exact ih (i + 5) A' ad' h' (K + 180) (N + 2880) hI' (by omega) (by omega) (by omega) (by omega)
      refine x_aload_n (q := 53) F dL_law_52 rfl rfl (by first | exact xref_r | exact xref_n | exact xref_f _ | assumption) ?_
      refine x_iload (q := 55) F dL_law_53 rfl rfl ?_
      refine x_sld (q := 56) F dL_law_55 rfl rfl (by omega) (by omega) ?_
      refine x_bipush (q := 58) (v := 31) F dL_law_56 rfl (by decide) ?_
      refine x_iand (q := 59) F dL_law_58 rfl ?_
      obtain ⟨j, hj, ej⟩ := pk_andE (G.2.2.2.2.2 i) (m := 31) 5 (by decide)
      refine x_topi ej ?_
      clear ej
      have hI0 := hI
      obtain ⟨hC, hI, ⟨S, ct, V, hw, hR⟩, fo, h90⟩ := hI
      have h90n : h (90, 0) ≠ none := by rw [h90]; exact fun w => by cases w
      have h50 := wM_50 hw
      have hA := hI.1.1
      rcases Nat.lt_or_ge 17 j with hj17 | hj17
      · refine x_tableOut F 681 dL_law_59 (Or.inr (by rw [nI_toInt (by omega)]; omega)) (by decide) ?_
        exact next A ad h K N hI0 (by omega) (by omega)
      rcases (show j = 0 ∨ j = 1 ∨ j = 2 ∨ j = 3 ∨ j = 4 ∨ j = 5 ∨ j = 6 ∨ j = 7 ∨ j = 8 ∨ j = 9 ∨ j = 10 ∨ j = 11 ∨ j = 12 ∨ j = 13 ∨ j = 14 ∨ j = 15 ∨ j = 16 ∨ j = 17 by omega) with rfl | rfl | rfl | rfl | rfl | rfl | rfl | rfl | rfl | rfl | rfl | rfl | rfl | rfl | rfl | rfl | rfl | rfl
      · refine x_tableIn F 144 dL_law_59 (by decide) (by decide) (off := 85) (by decide) (by decide) ?_
        refine x_aload_n (q := 145) F dL_law_144 rfl rfl (by first | exact xref_r | exact xref_n | exact xref_f _ | assumption) ?_
        refine x_aload_n (q := 146) F dL_law_145 rfl rfl (by first | exact xref_r | exact xref_n | exact xref_f _ | assumption) ?_
        refine x_iload (q := 148) F dL_law_146 rfl rfl ?_
        refine x_iconst (q := 149) (v := 1) F dL_law_148 rfl (by decide) ?_
        refine x_iadd (q := 150) F dL_law_149 rfl ?_
        refine x_topi (nI_add i 1) ?_
        refine x_sld (q := 151) F dL_law_150 rfl rfl (by omega) (by omega) ?_
        refine x_callV1 (q := 154) F (1, 0) c_X6_sign dL_law_151 rfl mv_X6_sign ml_L_33 ⟨⟨xle rfl, xle rfl⟩, (by show K + 0 ≤ 601024; omega), (by show N + 0 ≤ 7293000; omega)⟩ rfl hC.1 (xle rfl) ?_
        refine ⟨A, _, hC, hA, rfl, fun ad1 h1 hC1 hfr hE => ?_⟩
        obtain ⟨e1, e50, e90, hw1⟩ := law_cls hC hw h90n (fun k q1 q2 => hfr (k, 0) (by show 40 ≤ k; omega)) hE
        have h901 : h1 (90, 0) = some (cJ1 fo) := (hfr (90, 0) (by decide)).trans h90
        rw [← e1, ← e50, ← e90]
        refine x_aload_n (q := 155) F dL_law_154 rfl rfl (by first | exact xref_r | exact xref_n | exact xref_f _ | assumption) ?_
        refine x_aload_n (q := 156) F dL_law_155 rfl rfl (by first | exact xref_r | exact xref_n | exact xref_f _ | assumption) ?_
        refine x_iload (q := 158) F dL_law_156 rfl rfl ?_
        refine x_iconst (q := 159) (v := 1) F dL_law_158 rfl (by decide) ?_
        refine x_iadd (q := 160) F dL_law_159 rfl ?_
        refine x_topi (nI_add i 1) ?_
        refine x_sld (q := 161) F dL_law_160 rfl rfl (by omega) (by omega) ?_
        refine x_callV1 (q := 164) F (50, 0) c_X7_sign dL_law_161 rfl mv_X7_sign ml_L_37 ⟨⟨xle rfl, xle rfl⟩, (by show K + 0 + 0 ≤ 601024; omega), (by show N + 0 + 0 ≤ 7293000; omega)⟩ rfl (wM_50 hw1) (xle rfl) ?_
        refine ⟨h1, S, ct, V, aNs A, _, hw1, rfl, hR.1.1, hA.1.1, fun _ => ?_⟩
        refine x_goto F 681 dL_law_164 (by decide) ?_
        by_cases z : aNs A < 200
        · rw [if_pos z]
          exact next (signF A (G.2.2.2.2.2 (i + 1))) ad1 _ _ _ (law_mod hC1 (hI.sign _) (rM_sign hR _ z) h901) (by show K + 0 + 0 ≤ _; omega) (by show N + 0 + 0 ≤ _; omega)
        · rw [if_neg z]
          have hs : signF A (G.2.2.2.2.2 (i + 1)) = A := if_neg z
          rw [hs] at hC1
          exact next A ad1 _ _ _ (law_mod hC1 hI (show rM A (upd S 0 0) ct V from hR) h901) (by show K + 0 + 0 ≤ _; omega) (by show N + 0 + 0 ≤ _; omega)
      · refine x_tableIn F 167 dL_law_59 (by decide) (by decide) (off := 108) (by decide) (by decide) ?_
        refine x_aload_n (q := 168) F dL_law_167 rfl rfl (by first | exact xref_r | exact xref_n | exact xref_f _ | assumption) ?_
        refine x_aload_n (q := 169) F dL_law_168 rfl rfl (by first | exact xref_r | exact xref_n | exact xref_f _ | assumption) ?_
        refine x_callW (q := 172) F hl [.ref (ad (1, 0)), .ref (ad (90, 0))] c_L_read dL_law_169 rfl law_w1 law_d1 ml_L_38 ⟨⟨xle rfl, xle rfl⟩, (by show K + 9 ≤ 601024; omega), (by show N + 107 ≤ 7293000; omega)⟩ rfl (xle rfl) rfl ?_
        refine ⟨A, fo, hC, hA, rfl, h90, fun v B hv ad1 h1 hC1 ho h901 hE => ?_, fun B hv ad1 h1 hC1 hfr hE => ?_⟩
        · obtain ⟨e1, e50, e90, hw1⟩ := law_cls hC hw h90n (fun k q1 q2 => ho (k, 0) (by show 40 ≤ k; omega) (tg_ne (by omega) _ _)) hE
          rw [← e1, ← e50, ← e90]
          refine x_istore (q := 174) F dL_law_172 rfl (by decide) ?_
          refine x_aload_n (q := 175) F dL_law_174 rfl rfl (by first | exact xref_r | exact xref_n | exact xref_f _ | assumption) ?_
          refine x_callV0 (q := 178) F (50, 0) c_X7_read dL_law_175 rfl mv_X7_read ml_L_41 ⟨⟨xle rfl, xle rfl⟩, (by show K + 9 + 0 ≤ 601024; omega), (by show N + 107 + 0 ≤ 7293000; omega)⟩ rfl (wM_50 hw1) (xle rfl) ?_
          refine ⟨h1, A, S, ct, V, hw1, hR, hA, rfl, fun v2 B2 hv2 S' V' hR' hS' _ => ?_, fun B2 hv2 => by rw [hv] at hv2; cases hv2⟩
          rw [hv] at hv2
          cases hv2
          refine x_istore (q := 180) F dL_law_178 rfl (by decide) ?_
          refine x_aload_n (q := 181) F dL_law_180 rfl rfl (by first | exact xref_r | exact xref_n | exact xref_f _ | assumption) ?_
          refine x_callV0 (q := 184) F (50, 0) c_X7_thrown dL_law_181 rfl mv_X7_thrown ml_L_42 ⟨⟨xle rfl, xle rfl⟩, (by show K + 9 + 0 + 0 ≤ 601024; omega), (by show N + 107 + 0 + 0 ≤ 7293000; omega)⟩ rfl (wM_o _ _ _ _ _) (xle rfl) ?_
          refine ⟨h1, S', ct, V', rfl, rfl, fun _ => ?_⟩
          refine x_topi (y := 0) hS' ?_
          refine x_iload (q := 186) F dL_law_184 rfl rfl ?_
          refine x_icmp_eq (q := 189) F 191 dL_law_186 (by decide) rfl (fun cc => ?_) (fun cc => ?_)
          · refine x_iload (q := 193) F dL_law_191 rfl rfl ?_
            refine x_if_ne (q := 196) F 208 dL_law_193 (by decide) rfl (fun dd => ?_) (fun dd => ?_)
            · exact absurd rfl dd
            · refine x_aload_n (q := 197) F dL_law_196 rfl rfl (by first | exact xref_r | exact xref_n | exact xref_f _ | assumption) ?_
              refine x_iconst (q := 198) (v := 0) F dL_law_197 rfl (by decide) ?_
              refine x_lald (q := 199) (t := (90, 0)) F dL_law_198 rfl ((wM_n _ _ _ _ _ (Or.inr (by decide))).trans h901) (show (0 : Int32) = nI 0 from rfl) (by omega) (by omega) ?_
              refine x_iload (q := 201) F dL_law_199 rfl rfl ?_
              refine x_i2l (q := 202) F dL_law_201 rfl ?_
              refine x_lcmp (q := 203) F dL_law_202 rfl ?_
              refine x_topi (y := 0) (cmp_self _) ?_
              refine x_if_eq (q := 206) F 208 dL_law_203 (by decide) rfl (fun ee => ?_) (fun ee => ?_)
              · refine x_goto F 681 dL_law_208 (by decide) ?_
                refine x_ls [(0, .ref G.2.2.2.1), (1, .ref (ad1 (1, 0))), (2, .ref (ad1 (50, 0))), (3, .ref (ad1 (90, 0))), (4, .int (nI i))] rfl ?_
                exact next _ ad1 _ _ _ (law_mod hC1 (hI.read hv) hR' h901) (by show K + 9 + 0 + 0 ≤ _; omega) (by show N + 107 + 0 + 0 ≤ _; omega)
              · exact absurd rfl ee
          · exact absurd rfl cc
        · obtain ⟨e1, e50, e90, hw1⟩ := law_cls hC hw h90n (fun k q1 q2 => hfr (k, 0) (by show 40 ≤ k; omega)) hE
          have h901 : h1 (90, 0) = some (cJ1 fo) := (hfr (90, 0) (by decide)).trans h90
          rw [← e1, ← e50, ← e90]
          refine x_istore (q := 174) F dL_law_172 rfl (by decide) ?_
          refine x_aload_n (q := 175) F dL_law_174 rfl rfl (by first | exact xref_r | exact xref_n | exact xref_f _ | assumption) ?_
          refine x_callV0 (q := 178) F (50, 0) c_X7_read dL_law_175 rfl mv_X7_read ml_L_41 ⟨⟨xle rfl, xle rfl⟩, (by show K + 9 + 0 ≤ 601024; omega), (by show N + 107 + 0 ≤ 7293000; omega)⟩ rfl (wM_50 hw1) (xle rfl) ?_
          refine ⟨h1, A, S, ct, V, hw1, hR, hA, rfl, fun v2 B2 hv2 => (by rw [hv] at hv2; cases hv2), fun B2 hv2 S' V' hR' hS' _ => ?_⟩
          rw [hv] at hv2
          cases hv2
          refine x_istore (q := 180) F dL_law_178 rfl (by decide) ?_
          refine x_aload_n (q := 181) F dL_law_180 rfl rfl (by first | exact xref_r | exact xref_n | exact xref_f _ | assumption) ?_
          refine x_callV0 (q := 184) F (50, 0) c_X7_thrown dL_law_181 rfl mv_X7_thrown ml_L_42 ⟨⟨xle rfl, xle rfl⟩, (by show K + 9 + 0 + 0 ≤ 601024; omega), (by show N + 107 + 0 + 0 ≤ 7293000; omega)⟩ rfl (wM_o _ _ _ _ _) (xle rfl) ?_
          refine ⟨h1, S', ct, V', rfl, rfl, fun _ => ?_⟩
          refine x_topi (y := 1) hS' ?_
          refine x_iload (q := 186) F dL_law_184 rfl rfl ?_
          refine x_icmp_eq (q := 189) F 191 dL_law_186 (by decide) rfl (fun cc => ?_) (fun cc => ?_)
          · refine x_iload (q := 193) F dL_law_191 rfl rfl ?_
            refine x_if_ne (q := 196) F 208 dL_law_193 (by decide) rfl (fun dd => ?_) (fun dd => ?_)
            · refine x_goto F 681 dL_law_208 (by decide) ?_
              refine x_ls [(0, .ref G.2.2.2.1), (1, .ref (ad1 (1, 0))), (2, .ref (ad1 (50, 0))), (3, .ref (ad1 (90, 0))), (4, .int (nI i))] rfl ?_
              exact next _ ad1 _ _ _ (law_mod hC1 (hI.read hv) hR' h901) (by show K + 9 + 0 + 0 ≤ _; omega) (by show N + 107 + 0 + 0 ≤ _; omega)
            · exact absurd dd (by decide)
          · exact absurd rfl cc
      · refine x_tableIn F 211 dL_law_59 (by decide) (by decide) (off := 152) (by decide) (by decide) ?_
        refine x_aload_n (q := 212) F dL_law_211 rfl rfl (by first | exact xref_r | exact xref_n | exact xref_f _ | assumption) ?_
        refine x_callV0 (q := 215) F (1, 0) c_X6_place dL_law_212 rfl mv_X6_place ml_L_45 ⟨⟨xle rfl, xle rfl⟩, (by show K + 0 ≤ 601024; omega), (by show N + 0 ≤ 7293000; omega)⟩ rfl hC.1 (xle rfl) ?_
        refine ⟨A, hC, rfl, fun _ => ?_⟩
        refine x_aload_n (q := 216) F dL_law_215 rfl rfl (by first | exact xref_r | exact xref_n | exact xref_f _ | assumption) ?_
        refine x_callV0 (q := 219) F (50, 0) c_X7_place dL_law_216 rfl mv_X7_place ml_L_48 ⟨⟨xle rfl, xle rfl⟩, (by show K + 0 + 0 ≤ 601024; omega), (by show N + 0 + 0 ≤ 7293000; omega)⟩ rfl h50 (xle rfl) ?_
        refine ⟨h, S, ct, V, hw, rfl, fun _ => ?_⟩
        refine x_topi (y := optI (aWr A)) hR.2.2.2.2.2.2.1 ?_
        refine x_icmp_eq (q := 222) F 681 dL_law_219 (by decide) rfl (fun cc => ?_) (fun cc => ?_)
        · exact next A ad _ _ _ (law_mod hC hI (show rM A (upd S 0 0) ct V from hR) h90) (by show K + 0 + 0 ≤ _; omega) (by show N + 0 + 0 ≤ _; omega)
        · exact absurd rfl cc
      · refine x_tableIn F 224 dL_law_59 (by decide) (by decide) (off := 165) (by decide) (by decide) ?_
        refine x_aload_n (q := 225) F dL_law_224 rfl rfl (by first | exact xref_r | exact xref_n | exact xref_f _ | assumption) ?_
        refine x_aload_n (q := 226) F dL_law_225 rfl rfl (by first | exact xref_r | exact xref_n | exact xref_f _ | assumption) ?_
        refine x_iload (q := 228) F dL_law_226 rfl rfl ?_
        refine x_iconst (q := 229) (v := 1) F dL_law_228 rfl (by decide) ?_
        refine x_iadd (q := 230) F dL_law_229 rfl ?_
        refine x_topi (nI_add i 1) ?_
        refine x_sld (q := 231) F dL_law_230 rfl rfl (by omega) (by omega) ?_
        refine x_callV1 (q := 234) F (1, 0) c_X6_octet dL_law_231 rfl mv_X6_octet ml_L_49 ⟨⟨xle rfl, xle rfl⟩, (by show K + 0 ≤ 601024; omega), (by show N + 0 ≤ 7293000; omega)⟩ rfl hC.1 (xle rfl) ?_
        refine ⟨A, _, hC, hA, rfl, fun ad1 h1 hC1 hfr hE => ?_⟩
        obtain ⟨e1, e50, e90, hw1⟩ := law_cls hC hw h90n (fun k q1 q2 => hfr (k, 0) (by show 40 ≤ k; omega)) hE
        have h901 : h1 (90, 0) = some (cJ1 fo) := (hfr (90, 0) (by decide)).trans h90
        rw [← e1, ← e50, ← e90]
        refine x_aload_n (q := 235) F dL_law_234 rfl rfl (by first | exact xref_r | exact xref_n | exact xref_f _ | assumption) ?_
        refine x_aload_n (q := 236) F dL_law_235 rfl rfl (by first | exact xref_r | exact xref_n | exact xref_f _ | assumption) ?_
        refine x_iload (q := 238) F dL_law_236 rfl rfl ?_
        refine x_iconst (q := 239) (v := 1) F dL_law_238 rfl (by decide) ?_
        refine x_iadd (q := 240) F dL_law_239 rfl ?_
        refine x_topi (nI_add i 1) ?_
        refine x_sld (q := 241) F dL_law_240 rfl rfl (by omega) (by omega) ?_
        refine x_callV1 (q := 244) F (50, 0) c_X7_octet dL_law_241 rfl mv_X7_octet ml_L_52 ⟨⟨xle rfl, xle rfl⟩, (by show K + 0 + 0 ≤ 601024; omega), (by show N + 0 + 0 ≤ 7293000; omega)⟩ rfl (wM_50 hw1) (xle rfl) ?_
        refine ⟨h1, S, ct, V, aCn A, _, hw1, rfl, hR.2.1.1, hA.2.1.1, fun _ => ?_⟩
        refine x_goto F 681 dL_law_244 (by decide) ?_
        by_cases z : aCn A < 40
        · rw [if_pos z]
          exact next (octetF A (G.2.2.2.2.2 (i + 1))) ad1 _ _ _ (law_mod hC1 (hI.octet _) (rM_octet hR _ z) h901) (by show K + 0 + 0 ≤ _; omega) (by show N + 0 + 0 ≤ _; omega)
        · rw [if_neg z]
          have hs : octetF A (G.2.2.2.2.2 (i + 1)) = A := if_neg z
          rw [hs] at hC1
          exact next A ad1 _ _ _ (law_mod hC1 hI (show rM A (upd S 0 0) ct V from hR) h901) (by show K + 0 + 0 ≤ _; omega) (by show N + 0 + 0 ≤ _; omega)
      · refine x_tableIn F 247 dL_law_59 (by decide) (by decide) (off := 188) (by decide) (by decide) ?_
        refine x_aload_n (q := 248) F dL_law_247 rfl rfl (by first | exact xref_r | exact xref_n | exact xref_f _ | assumption) ?_
        refine x_callV0 (q := 251) F (1, 0) c_X6_original dL_law_248 rfl mv_X6_original ml_L_53 ⟨⟨xle rfl, xle rfl⟩, (by show K + 3 ≤ 601024; omega), (by show N + 48 ≤ 7293000; omega)⟩ rfl hC.1 (xle rfl) ?_
        refine ⟨A, hC, hA, rfl, fun ad1 h1 hC1 hfr hE => ?_⟩
        obtain ⟨e1, e50, e90, hw1⟩ := law_cls hC hw h90n (fun k q1 q2 => hfr (k, 0) (by show 40 ≤ k; omega)) hE
        have h901 : h1 (90, 0) = some (cJ1 fo) := (hfr (90, 0) (by decide)).trans h90
        rw [← e1, ← e50, ← e90]
        refine x_aload_n (q := 252) F dL_law_251 rfl rfl (by first | exact xref_r | exact xref_n | exact xref_f _ | assumption) ?_
        refine x_callV0 (q := 255) F (50, 0) c_X7_original dL_law_252 rfl mv_X7_original ml_L_56 ⟨⟨xle rfl, xle rfl⟩, (by show K + 3 + 0 ≤ 601024; omega), (by show N + 48 + 0 ≤ 7293000; omega)⟩ rfl (wM_50 hw1) (xle rfl) ?_
        refine ⟨h1, A, S, ct, V, hw1, hR, hA, rfl, fun S' V' hR' _ => ?_⟩
        refine x_icmp_eq (q := 258) F 681 dL_law_255 (by decide) rfl (fun cc => ?_) (fun cc => ?_)
        · exact next _ ad1 _ _ _ (law_mod hC1 hI.original hR' h901) (by show K + 3 + 0 ≤ _; omega) (by show N + 48 + 0 ≤ _; omega)
        · exact absurd rfl cc
      · refine x_tableIn F 260 dL_law_59 (by decide) (by decide) (off := 201) (by decide) (by decide) ?_
        by_cases z : (G.2.2.2.2.2 (i + 2)) = 0
        · refine x_aload_n (q := 261) F dL_law_260 rfl rfl (by first | exact xref_r | exact xref_n | exact xref_f _ | assumption) ?_
          refine x_aload_n (q := 262) F dL_law_261 rfl rfl (by first | exact xref_r | exact xref_n | exact xref_f _ | assumption) ?_
          refine x_iload (q := 264) F dL_law_262 rfl rfl ?_
          refine x_iconst (q := 265) (v := 1) F dL_law_264 rfl (by decide) ?_
          refine x_iadd (q := 266) F dL_law_265 rfl ?_
          refine x_topi (nI_add i 1) ?_
          refine x_sld (q := 267) F dL_law_266 rfl rfl (by omega) (by omega) ?_
          refine x_aload_n (q := 268) F dL_law_267 rfl rfl (by first | exact xref_r | exact xref_n | exact xref_f _ | assumption) ?_
          refine x_iload (q := 270) F dL_law_268 rfl rfl ?_
          refine x_iconst (q := 271) (v := 2) F dL_law_270 rfl (by decide) ?_
          refine x_iadd (q := 272) F dL_law_271 rfl ?_
          refine x_topi (nI_add i 2) ?_
          refine x_sld (q := 273) F dL_law_272 rfl rfl (by omega) (by omega) ?_
          refine x_if_eq (q := 276) F 280 dL_law_273 (by decide) rfl (fun c273 => ?_) (fun c273 => ?_)
          · refine x_iconst (q := 281) (v := 0) F dL_law_280 rfl (by decide) ?_
            refine x_topi (y := bI false) rfl ?_
            refine x_aload_n (q := 282) F dL_law_281 rfl rfl (by first | exact xref_r | exact xref_n | exact xref_f _ | assumption) ?_
            refine x_iload (q := 284) F dL_law_282 rfl rfl ?_
            refine x_iconst (q := 285) (v := 3) F dL_law_284 rfl (by decide) ?_
            refine x_iadd (q := 286) F dL_law_285 rfl ?_
            refine x_topi (nI_add i 3) ?_
            refine x_sld (q := 287) F dL_law_286 rfl rfl (by omega) (by omega) ?_
            refine x_aload_n (q := 288) F dL_law_287 rfl rfl (by first | exact xref_r | exact xref_n | exact xref_f _ | assumption) ?_
            refine x_iload (q := 290) F dL_law_288 rfl rfl ?_
            refine x_iconst (q := 291) (v := 4) F dL_law_290 rfl (by decide) ?_
            refine x_iadd (q := 292) F dL_law_291 rfl ?_
            refine x_topi (nI_add i 4) ?_
            refine x_sld (q := 293) F dL_law_292 rfl rfl (by omega) (by omega) ?_
            refine x_callV4 (q := 296) F (1, 0) c_X6_check dL_law_293 rfl mv_X6_check ml_L_57 ⟨⟨xle rfl, xle rfl⟩, (by show K + 0 ≤ 601024; omega), (by show N + 0 ≤ 7293000; omega)⟩ rfl hC.1 (xle rfl) ?_
            refine ⟨A, _, false, _, _, hC, hA, rfl, fun ad1 h1 hC1 hfr hE => ?_⟩
            obtain ⟨e1, e50, e90, hw1⟩ := law_cls hC hw h90n (fun k q1 q2 => hfr (k, 0) (by show 40 ≤ k; omega)) hE
            have h901 : h1 (90, 0) = some (cJ1 fo) := (hfr (90, 0) (by decide)).trans h90
            rw [← e1, ← e50, ← e90]
            refine x_aload_n (q := 297) F dL_law_296 rfl rfl (by first | exact xref_r | exact xref_n | exact xref_f _ | assumption) ?_
            refine x_aload_n (q := 298) F dL_law_297 rfl rfl (by first | exact xref_r | exact xref_n | exact xref_f _ | assumption) ?_
            refine x_iload (q := 300) F dL_law_298 rfl rfl ?_
            refine x_iconst (q := 301) (v := 1) F dL_law_300 rfl (by decide) ?_
            refine x_iadd (q := 302) F dL_law_301 rfl ?_
            refine x_topi (nI_add i 1) ?_
            refine x_sld (q := 303) F dL_law_302 rfl rfl (by omega) (by omega) ?_
            refine x_aload_n (q := 304) F dL_law_303 rfl rfl (by first | exact xref_r | exact xref_n | exact xref_f _ | assumption) ?_
            refine x_iload (q := 306) F dL_law_304 rfl rfl ?_
            refine x_iconst (q := 307) (v := 2) F dL_law_306 rfl (by decide) ?_
            refine x_iadd (q := 308) F dL_law_307 rfl ?_
            refine x_topi (nI_add i 2) ?_
            refine x_sld (q := 309) F dL_law_308 rfl rfl (by omega) (by omega) ?_
            refine x_if_eq (q := 312) F 316 dL_law_309 (by decide) rfl (fun c309 => ?_) (fun c309 => ?_)
            · refine x_iconst (q := 317) (v := 0) F dL_law_316 rfl (by decide) ?_
              refine x_topi (y := bI false) rfl ?_
              refine x_aload_n (q := 318) F dL_law_317 rfl rfl (by first | exact xref_r | exact xref_n | exact xref_f _ | assumption) ?_
              refine x_iload (q := 320) F dL_law_318 rfl rfl ?_
              refine x_iconst (q := 321) (v := 3) F dL_law_320 rfl (by decide) ?_
              refine x_iadd (q := 322) F dL_law_321 rfl ?_
              refine x_topi (nI_add i 3) ?_
              refine x_sld (q := 323) F dL_law_322 rfl rfl (by omega) (by omega) ?_
              refine x_aload_n (q := 324) F dL_law_323 rfl rfl (by first | exact xref_r | exact xref_n | exact xref_f _ | assumption) ?_
              refine x_iload (q := 326) F dL_law_324 rfl rfl ?_
              refine x_iconst (q := 327) (v := 4) F dL_law_326 rfl (by decide) ?_
              refine x_iadd (q := 328) F dL_law_327 rfl ?_
              refine x_topi (nI_add i 4) ?_
              refine x_sld (q := 329) F dL_law_328 rfl rfl (by omega) (by omega) ?_
              refine x_callV4 (q := 332) F (50, 0) c_X7_check dL_law_329 rfl mv_X7_check ml_L_61 ⟨⟨xle rfl, xle rfl⟩, (by show K + 0 + 0 ≤ 601024; omega), (by show N + 0 + 0 ≤ 7293000; omega)⟩ rfl (wM_50 hw1) (xle rfl) ?_
              refine ⟨h1, A, S, ct, V, _, false, _, _, hw1, hR, hA, rfl, fun S' V' hR' _ => ?_⟩
              refine x_icmp_eq (q := 335) F 681 dL_law_332 (by decide) rfl (fun cc => ?_) (fun cc => ?_)
              · exact next _ ad1 _ _ _ (law_mod hC1 (hI.check _ _ _ _) hR' h901) (by show K + 0 + 0 ≤ _; omega) (by show N + 0 + 0 ≤ _; omega)
              · exact absurd rfl cc
            · exact absurd z c309
          · exact absurd z c273
        · refine x_aload_n (q := 261) F dL_law_260 rfl rfl (by first | exact xref_r | exact xref_n | exact xref_f _ | assumption) ?_
          refine x_aload_n (q := 262) F dL_law_261 rfl rfl (by first | exact xref_r | exact xref_n | exact xref_f _ | assumption) ?_
          refine x_iload (q := 264) F dL_law_262 rfl rfl ?_
          refine x_iconst (q := 265) (v := 1) F dL_law_264 rfl (by decide) ?_
          refine x_iadd (q := 266) F dL_law_265 rfl ?_
          refine x_topi (nI_add i 1) ?_
          refine x_sld (q := 267) F dL_law_266 rfl rfl (by omega) (by omega) ?_
          refine x_aload_n (q := 268) F dL_law_267 rfl rfl (by first | exact xref_r | exact xref_n | exact xref_f _ | assumption) ?_
          refine x_iload (q := 270) F dL_law_268 rfl rfl ?_
          refine x_iconst (q := 271) (v := 2) F dL_law_270 rfl (by decide) ?_
          refine x_iadd (q := 272) F dL_law_271 rfl ?_
          refine x_topi (nI_add i 2) ?_
          refine x_sld (q := 273) F dL_law_272 rfl rfl (by omega) (by omega) ?_
          refine x_if_eq (q := 276) F 280 dL_law_273 (by decide) rfl (fun c273 => ?_) (fun c273 => ?_)
          · exact absurd c273 z
          · refine x_iconst (q := 277) (v := 1) F dL_law_276 rfl (by decide) ?_
            refine x_goto F 281 dL_law_277 (by decide) ?_
            refine x_topi (y := bI true) rfl ?_
            refine x_aload_n (q := 282) F dL_law_281 rfl rfl (by first | exact xref_r | exact xref_n | exact xref_f _ | assumption) ?_
            refine x_iload (q := 284) F dL_law_282 rfl rfl ?_
            refine x_iconst (q := 285) (v := 3) F dL_law_284 rfl (by decide) ?_
            refine x_iadd (q := 286) F dL_law_285 rfl ?_
            refine x_topi (nI_add i 3) ?_
            refine x_sld (q := 287) F dL_law_286 rfl rfl (by omega) (by omega) ?_
            refine x_aload_n (q := 288) F dL_law_287 rfl rfl (by first | exact xref_r | exact xref_n | exact xref_f _ | assumption) ?_
            refine x_iload (q := 290) F dL_law_288 rfl rfl ?_
            refine x_iconst (q := 291) (v := 4) F dL_law_290 rfl (by decide) ?_
            refine x_iadd (q := 292) F dL_law_291 rfl ?_
            refine x_topi (nI_add i 4) ?_
            refine x_sld (q := 293) F dL_law_292 rfl rfl (by omega) (by omega) ?_
            refine x_callV4 (q := 296) F (1, 0) c_X6_check dL_law_293 rfl mv_X6_check ml_L_57 ⟨⟨xle rfl, xle rfl⟩, (by show K + 0 ≤ 601024; omega), (by show N + 0 ≤ 7293000; omega)⟩ rfl hC.1 (xle rfl) ?_
            refine ⟨A, _, true, _, _, hC, hA, rfl, fun ad1 h1 hC1 hfr hE => ?_⟩
            obtain ⟨e1, e50, e90, hw1⟩ := law_cls hC hw h90n (fun k q1 q2 => hfr (k, 0) (by show 40 ≤ k; omega)) hE
            have h901 : h1 (90, 0) = some (cJ1 fo) := (hfr (90, 0) (by decide)).trans h90
            rw [← e1, ← e50, ← e90]
            refine x_aload_n (q := 297) F dL_law_296 rfl rfl (by first | exact xref_r | exact xref_n | exact xref_f _ | assumption) ?_
            refine x_aload_n (q := 298) F dL_law_297 rfl rfl (by first | exact xref_r | exact xref_n | exact xref_f _ | assumption) ?_
            refine x_iload (q := 300) F dL_law_298 rfl rfl ?_
            refine x_iconst (q := 301) (v := 1) F dL_law_300 rfl (by decide) ?_
            refine x_iadd (q := 302) F dL_law_301 rfl ?_
            refine x_topi (nI_add i 1) ?_
            refine x_sld (q := 303) F dL_law_302 rfl rfl (by omega) (by omega) ?_
            refine x_aload_n (q := 304) F dL_law_303 rfl rfl (by first | exact xref_r | exact xref_n | exact xref_f _ | assumption) ?_
            refine x_iload (q := 306) F dL_law_304 rfl rfl ?_
            refine x_iconst (q := 307) (v := 2) F dL_law_306 rfl (by decide) ?_
            refine x_iadd (q := 308) F dL_law_307 rfl ?_
            refine x_topi (nI_add i 2) ?_
            refine x_sld (q := 309) F dL_law_308 rfl rfl (by omega) (by omega) ?_
            refine x_if_eq (q := 312) F 316 dL_law_309 (by decide) rfl (fun c309 => ?_) (fun c309 => ?_)
            · exact absurd c309 z
            · refine x_iconst (q := 313) (v := 1) F dL_law_312 rfl (by decide) ?_
              refine x_goto F 317 dL_law_313 (by decide) ?_
              refine x_topi (y := bI true) rfl ?_
              refine x_aload_n (q := 318) F dL_law_317 rfl rfl (by first | exact xref_r | exact xref_n | exact xref_f _ | assumption) ?_
              refine x_iload (q := 320) F dL_law_318 rfl rfl ?_
              refine x_iconst (q := 321) (v := 3) F dL_law_320 rfl (by decide) ?_
              refine x_iadd (q := 322) F dL_law_321 rfl ?_
              refine x_topi (nI_add i 3) ?_
              refine x_sld (q := 323) F dL_law_322 rfl rfl (by omega) (by omega) ?_
              refine x_aload_n (q := 324) F dL_law_323 rfl rfl (by first | exact xref_r | exact xref_n | exact xref_f _ | assumption) ?_
              refine x_iload (q := 326) F dL_law_324 rfl rfl ?_
              refine x_iconst (q := 327) (v := 4) F dL_law_326 rfl (by decide) ?_
              refine x_iadd (q := 328) F dL_law_327 rfl ?_
              refine x_topi (nI_add i 4) ?_
              refine x_sld (q := 329) F dL_law_328 rfl rfl (by omega) (by omega) ?_
              refine x_callV4 (q := 332) F (50, 0) c_X7_check dL_law_329 rfl mv_X7_check ml_L_61 ⟨⟨xle rfl, xle rfl⟩, (by show K + 0 + 0 ≤ 601024; omega), (by show N + 0 + 0 ≤ 7293000; omega)⟩ rfl (wM_50 hw1) (xle rfl) ?_
              refine ⟨h1, A, S, ct, V, _, true, _, _, hw1, hR, hA, rfl, fun S' V' hR' _ => ?_⟩
              refine x_icmp_eq (q := 335) F 681 dL_law_332 (by decide) rfl (fun cc => ?_) (fun cc => ?_)
              · exact next _ ad1 _ _ _ (law_mod hC1 (hI.check _ _ _ _) hR' h901) (by show K + 0 + 0 ≤ _; omega) (by show N + 0 + 0 ≤ _; omega)
              · exact absurd rfl cc
      · refine x_tableIn F 337 dL_law_59 (by decide) (by decide) (off := 278) (by decide) (by decide) ?_
        refine x_aload_n (q := 338) F dL_law_337 rfl rfl (by first | exact xref_r | exact xref_n | exact xref_f _ | assumption) ?_
        refine x_aload_n (q := 339) F dL_law_338 rfl rfl (by first | exact xref_r | exact xref_n | exact xref_f _ | assumption) ?_
        refine x_iload (q := 341) F dL_law_339 rfl rfl ?_
        refine x_iconst (q := 342) (v := 1) F dL_law_341 rfl (by decide) ?_
        refine x_iadd (q := 343) F dL_law_342 rfl ?_
        refine x_topi (nI_add i 1) ?_
        refine x_sld (q := 344) F dL_law_343 rfl rfl (by omega) (by omega) ?_
        refine x_aload_n (q := 345) F dL_law_344 rfl rfl (by first | exact xref_r | exact xref_n | exact xref_f _ | assumption) ?_
        refine x_iload (q := 347) F dL_law_345 rfl rfl ?_
        refine x_iconst (q := 348) (v := 2) F dL_law_347 rfl (by decide) ?_
        refine x_iadd (q := 349) F dL_law_348 rfl ?_
        refine x_topi (nI_add i 2) ?_
        refine x_sld (q := 350) F dL_law_349 rfl rfl (by omega) (by omega) ?_
        refine x_callV2 (q := 353) F (1, 0) c_X6_migrate dL_law_350 rfl mv_X6_migrate ml_L_62 ⟨⟨xle rfl, xle rfl⟩, (by show K + 3 ≤ 601024; omega), (by show N + 48 ≤ 7293000; omega)⟩ rfl hC.1 (xle rfl) ?_
        refine ⟨A, _, _, hC, hA, rfl, fun ad1 h1 hC1 hfr hE => ?_⟩
        obtain ⟨e1, e50, e90, hw1⟩ := law_cls hC hw h90n (fun k q1 q2 => hfr (k, 0) (by show 40 ≤ k; omega)) hE
        have h901 : h1 (90, 0) = some (cJ1 fo) := (hfr (90, 0) (by decide)).trans h90
        rw [← e1, ← e50, ← e90]
        refine x_aload_n (q := 354) F dL_law_353 rfl rfl (by first | exact xref_r | exact xref_n | exact xref_f _ | assumption) ?_
        refine x_aload_n (q := 355) F dL_law_354 rfl rfl (by first | exact xref_r | exact xref_n | exact xref_f _ | assumption) ?_
        refine x_iload (q := 357) F dL_law_355 rfl rfl ?_
        refine x_iconst (q := 358) (v := 1) F dL_law_357 rfl (by decide) ?_
        refine x_iadd (q := 359) F dL_law_358 rfl ?_
        refine x_topi (nI_add i 1) ?_
        refine x_sld (q := 360) F dL_law_359 rfl rfl (by omega) (by omega) ?_
        refine x_aload_n (q := 361) F dL_law_360 rfl rfl (by first | exact xref_r | exact xref_n | exact xref_f _ | assumption) ?_
        refine x_iload (q := 363) F dL_law_361 rfl rfl ?_
        refine x_iconst (q := 364) (v := 2) F dL_law_363 rfl (by decide) ?_
        refine x_iadd (q := 365) F dL_law_364 rfl ?_
        refine x_topi (nI_add i 2) ?_
        refine x_sld (q := 366) F dL_law_365 rfl rfl (by omega) (by omega) ?_
        refine x_callV2 (q := 369) F (50, 0) c_X7_migrate dL_law_366 rfl mv_X7_migrate ml_L_65 ⟨⟨xle rfl, xle rfl⟩, (by show K + 3 + 0 ≤ 601024; omega), (by show N + 48 + 0 ≤ 7293000; omega)⟩ rfl (wM_50 hw1) (xle rfl) ?_
        refine ⟨h1, A, S, ct, V, _, _, hw1, hR, hA, rfl, fun S' ct' V' hR' _ => ?_⟩
        refine x_icmp_eq (q := 372) F 681 dL_law_369 (by decide) rfl (fun cc => ?_) (fun cc => ?_)
        · exact next _ ad1 _ _ _ (law_mod hC1 (hI.migrate _ _) hR' h901) (by show K + 3 + 0 ≤ _; omega) (by show N + 48 + 0 ≤ _; omega)
        · exact absurd rfl cc
      · refine x_tableIn F 374 dL_law_59 (by decide) (by decide) (off := 315) (by decide) (by decide) ?_
        refine x_aload_n (q := 375) F dL_law_374 rfl rfl (by first | exact xref_r | exact xref_n | exact xref_f _ | assumption) ?_
        refine x_aload_n (q := 376) F dL_law_375 rfl rfl (by first | exact xref_r | exact xref_n | exact xref_f _ | assumption) ?_
        refine x_iload (q := 378) F dL_law_376 rfl rfl ?_
        refine x_iconst (q := 379) (v := 1) F dL_law_378 rfl (by decide) ?_
        refine x_iadd (q := 380) F dL_law_379 rfl ?_
        refine x_topi (nI_add i 1) ?_
        refine x_sld (q := 381) F dL_law_380 rfl rfl (by omega) (by omega) ?_
        refine x_aload_n (q := 382) F dL_law_381 rfl rfl (by first | exact xref_r | exact xref_n | exact xref_f _ | assumption) ?_
        refine x_iload (q := 384) F dL_law_382 rfl rfl ?_
        refine x_iconst (q := 385) (v := 2) F dL_law_384 rfl (by decide) ?_
        refine x_iadd (q := 386) F dL_law_385 rfl ?_
        refine x_topi (nI_add i 2) ?_
        refine x_sld (q := 387) F dL_law_386 rfl rfl (by omega) (by omega) ?_
        refine x_callV2 (q := 390) F (1, 0) c_X6_chain dL_law_387 rfl mv_X6_chain ml_L_66 ⟨⟨xle rfl, xle rfl⟩, (by show K + 0 ≤ 601024; omega), (by show N + 0 ≤ 7293000; omega)⟩ rfl hC.1 (xle rfl) ?_
        refine ⟨A, _, _, hC, hA, rfl, fun ad1 h1 hC1 hfr hE => ?_⟩
        obtain ⟨e1, e50, e90, hw1⟩ := law_cls hC hw h90n (fun k q1 q2 => hfr (k, 0) (by show 40 ≤ k; omega)) hE
        have h901 : h1 (90, 0) = some (cJ1 fo) := (hfr (90, 0) (by decide)).trans h90
        rw [← e1, ← e50, ← e90]
        refine x_aload_n (q := 391) F dL_law_390 rfl rfl (by first | exact xref_r | exact xref_n | exact xref_f _ | assumption) ?_
        refine x_aload_n (q := 392) F dL_law_391 rfl rfl (by first | exact xref_r | exact xref_n | exact xref_f _ | assumption) ?_
        refine x_iload (q := 394) F dL_law_392 rfl rfl ?_
        refine x_iconst (q := 395) (v := 1) F dL_law_394 rfl (by decide) ?_
        refine x_iadd (q := 396) F dL_law_395 rfl ?_
        refine x_topi (nI_add i 1) ?_
        refine x_sld (q := 397) F dL_law_396 rfl rfl (by omega) (by omega) ?_
        refine x_aload_n (q := 398) F dL_law_397 rfl rfl (by first | exact xref_r | exact xref_n | exact xref_f _ | assumption) ?_
        refine x_iload (q := 400) F dL_law_398 rfl rfl ?_
        refine x_iconst (q := 401) (v := 2) F dL_law_400 rfl (by decide) ?_
        refine x_iadd (q := 402) F dL_law_401 rfl ?_
        refine x_topi (nI_add i 2) ?_
        refine x_sld (q := 403) F dL_law_402 rfl rfl (by omega) (by omega) ?_
        refine x_callV2 (q := 406) F (50, 0) c_X7_chain dL_law_403 rfl mv_X7_chain ml_L_69 ⟨⟨xle rfl, xle rfl⟩, (by show K + 0 + 0 ≤ 601024; omega), (by show N + 0 + 0 ≤ 7293000; omega)⟩ rfl (wM_50 hw1) (xle rfl) ?_
        refine ⟨h1, A, S, ct, V, _, _, hw1, hR, hA, (fun t ht => hI.2.ends hA ht), rfl, fun S' ct' V' hR' _ => ?_⟩
        refine x_icmp_eq (q := 409) F 681 dL_law_406 (by decide) rfl (fun cc => ?_) (fun cc => ?_)
        · exact next _ ad1 _ _ _ (law_mod hC1 (hI.chain _ _) hR' h901) (by show K + 0 + 0 ≤ _; omega) (by show N + 0 + 0 ≤ _; omega)
        · exact absurd rfl cc
      · refine x_tableIn F 411 dL_law_59 (by decide) (by decide) (off := 352) (by decide) (by decide) ?_
        refine x_aload_n (q := 412) F dL_law_411 rfl rfl (by first | exact xref_r | exact xref_n | exact xref_f _ | assumption) ?_
        refine x_aload_n (q := 413) F dL_law_412 rfl rfl (by first | exact xref_r | exact xref_n | exact xref_f _ | assumption) ?_
        refine x_iload (q := 415) F dL_law_413 rfl rfl ?_
        refine x_iconst (q := 416) (v := 1) F dL_law_415 rfl (by decide) ?_
        refine x_iadd (q := 417) F dL_law_416 rfl ?_
        refine x_topi (nI_add i 1) ?_
        refine x_sld (q := 418) F dL_law_417 rfl rfl (by omega) (by omega) ?_
        refine x_aload_n (q := 419) F dL_law_418 rfl rfl (by first | exact xref_r | exact xref_n | exact xref_f _ | assumption) ?_
        refine x_iload (q := 421) F dL_law_419 rfl rfl ?_
        refine x_iconst (q := 422) (v := 2) F dL_law_421 rfl (by decide) ?_
        refine x_iadd (q := 423) F dL_law_422 rfl ?_
        refine x_topi (nI_add i 2) ?_
        refine x_sld (q := 424) F dL_law_423 rfl rfl (by omega) (by omega) ?_
        refine x_callV2 (q := 427) F (1, 0) c_X6_goesOn dL_law_424 rfl mv_X6_goesOn ml_L_70 ⟨⟨xle rfl, xle rfl⟩, (by show K + 30 ≤ 601024; omega), (by show N + 480 ≤ 7293000; omega)⟩ rfl hC.1 (xle rfl) ?_
        refine ⟨A, _, _, hC, hA, rfl, fun ad1 h1 hC1 hfr hE => ?_⟩
        obtain ⟨e1, e50, e90, hw1⟩ := law_cls hC hw h90n (fun k q1 q2 => hfr (k, 0) (by show 40 ≤ k; omega)) hE
        have h901 : h1 (90, 0) = some (cJ1 fo) := (hfr (90, 0) (by decide)).trans h90
        rw [← e1, ← e50, ← e90]
        refine x_aload_n (q := 428) F dL_law_427 rfl rfl (by first | exact xref_r | exact xref_n | exact xref_f _ | assumption) ?_
        refine x_aload_n (q := 429) F dL_law_428 rfl rfl (by first | exact xref_r | exact xref_n | exact xref_f _ | assumption) ?_
        refine x_iload (q := 431) F dL_law_429 rfl rfl ?_
        refine x_iconst (q := 432) (v := 1) F dL_law_431 rfl (by decide) ?_
        refine x_iadd (q := 433) F dL_law_432 rfl ?_
        refine x_topi (nI_add i 1) ?_
        refine x_sld (q := 434) F dL_law_433 rfl rfl (by omega) (by omega) ?_
        refine x_aload_n (q := 435) F dL_law_434 rfl rfl (by first | exact xref_r | exact xref_n | exact xref_f _ | assumption) ?_
        refine x_iload (q := 437) F dL_law_435 rfl rfl ?_
        refine x_iconst (q := 438) (v := 2) F dL_law_437 rfl (by decide) ?_
        refine x_iadd (q := 439) F dL_law_438 rfl ?_
        refine x_topi (nI_add i 2) ?_
        refine x_sld (q := 440) F dL_law_439 rfl rfl (by omega) (by omega) ?_
        refine x_callV2 (q := 443) F (50, 0) c_X7_goesOn dL_law_440 rfl mv_X7_goesOn ml_L_73 ⟨⟨xle rfl, xle rfl⟩, (by show K + 30 + 0 ≤ 601024; omega), (by show N + 480 + 0 ≤ 7293000; omega)⟩ rfl (wM_50 hw1) (xle rfl) ?_
        refine ⟨h1, A, S, ct, V, _, _, hw1, hR, hA, (fun t ht => hI.2.ends hA ht), rfl, fun S' ct' V' hR' _ => ?_⟩
        refine x_icmp_eq (q := 446) F 681 dL_law_443 (by decide) rfl (fun cc => ?_) (fun cc => ?_)
        · exact next _ ad1 _ _ _ (law_mod hC1 (hI.goesOn _ _) hR' h901) (by show K + 30 + 0 ≤ _; omega) (by show N + 480 + 0 ≤ _; omega)
        · exact absurd rfl cc
      · refine x_tableIn F 448 dL_law_59 (by decide) (by decide) (off := 389) (by decide) (by decide) ?_
        refine x_aload_n (q := 449) F dL_law_448 rfl rfl (by first | exact xref_r | exact xref_n | exact xref_f _ | assumption) ?_
        refine x_callV0 (q := 452) F (1, 0) c_X6_what dL_law_449 rfl mv_X6_what ml_L_74 ⟨⟨xle rfl, xle rfl⟩, (by show K + 0 ≤ 601024; omega), (by show N + 0 ≤ 7293000; omega)⟩ rfl hC.1 (xle rfl) ?_
        refine ⟨A, hC, rfl, fun _ => ?_⟩
        refine x_aload_n (q := 453) F dL_law_452 rfl rfl (by first | exact xref_r | exact xref_n | exact xref_f _ | assumption) ?_
        refine x_callV0 (q := 456) F (50, 0) c_X7_what dL_law_453 rfl mv_X7_what ml_L_77 ⟨⟨xle rfl, xle rfl⟩, (by show K + 0 + 0 ≤ 601024; omega), (by show N + 0 + 0 ≤ 7293000; omega)⟩ rfl h50 (xle rfl) ?_
        refine ⟨h, S, ct, V, hw, rfl, fun _ => ?_⟩
        refine x_topi (y := aMl A) hR.2.2.2.2.2.2.2 ?_
        refine x_icmp_eq (q := 459) F 681 dL_law_456 (by decide) rfl (fun cc => ?_) (fun cc => ?_)
        · exact next A ad _ _ _ (law_mod hC hI (show rM A (upd S 0 0) ct V from hR) h90) (by show K + 0 + 0 ≤ _; omega) (by show N + 0 + 0 ≤ _; omega)
        · exact absurd rfl cc
      · refine x_tableIn F 461 dL_law_59 (by decide) (by decide) (off := 402) (by decide) (by decide) ?_
        refine x_aload_n (q := 462) F dL_law_461 rfl rfl (by first | exact xref_r | exact xref_n | exact xref_f _ | assumption) ?_
        refine x_callV0 (q := 465) F (1, 0) c_X6_failed dL_law_462 rfl mv_X6_failed ml_L_78 ⟨⟨xle rfl, xle rfl⟩, (by show K + 0 ≤ 601024; omega), (by show N + 0 ≤ 7293000; omega)⟩ rfl hC.1 (xle rfl) ?_
        refine ⟨A, hC, rfl, fun _ => ?_⟩
        refine x_aload_n (q := 466) F dL_law_465 rfl rfl (by first | exact xref_r | exact xref_n | exact xref_f _ | assumption) ?_
        refine x_callV0 (q := 469) F (50, 0) c_X7_failed dL_law_466 rfl mv_X7_failed ml_L_81 ⟨⟨xle rfl, xle rfl⟩, (by show K + 0 + 0 ≤ 601024; omega), (by show N + 0 + 0 ≤ 7293000; omega)⟩ rfl h50 (xle rfl) ?_
        refine ⟨h, S, ct, V, hw, rfl, fun _ => ?_⟩
        refine x_topi (y := optI (aFa A)) hR.2.2.2.2.2.1.2.2.1 ?_
        refine x_icmp_eq (q := 472) F 681 dL_law_469 (by decide) rfl (fun cc => ?_) (fun cc => ?_)
        · exact next A ad _ _ _ (law_mod hC hI (show rM A (upd S 0 0) ct V from hR) h90) (by show K + 0 + 0 ≤ _; omega) (by show N + 0 + 0 ≤ _; omega)
        · exact absurd rfl cc
      · refine x_tableIn F 474 dL_law_59 (by decide) (by decide) (off := 415) (by decide) (by decide) ?_
        refine x_aload_n (q := 475) F dL_law_474 rfl rfl (by first | exact xref_r | exact xref_n | exact xref_f _ | assumption) ?_
        refine x_callV0 (q := 478) F (1, 0) c_X6_counted dL_law_475 rfl mv_X6_counted ml_L_82 ⟨⟨xle rfl, xle rfl⟩, (by show K + 0 ≤ 601024; omega), (by show N + 0 ≤ 7293000; omega)⟩ rfl hC.1 (xle rfl) ?_
        refine ⟨A, hC, rfl, fun _ => ?_⟩
        refine x_aload_n (q := 479) F dL_law_478 rfl rfl (by first | exact xref_r | exact xref_n | exact xref_f _ | assumption) ?_
        refine x_callV0 (q := 482) F (50, 0) c_X7_counted dL_law_479 rfl mv_X7_counted ml_L_86 ⟨⟨xle rfl, xle rfl⟩, (by show K + 0 + 0 ≤ 601024; omega), (by show N + 0 + 0 ≤ 7293000; omega)⟩ rfl h50 (xle rfl) ?_
        refine ⟨h, S, ct, V, hw, rfl, fun _ => ?_⟩
        refine x_lcmp (q := 483) F dL_law_482 rfl ?_
        refine x_topi (y := 0) (by rw [hR.2.2.2.2.2.1.2.2.2.2]; exact cmp_self _) ?_
        refine x_if_eq (q := 486) F 681 dL_law_483 (by decide) rfl (fun cc => ?_) (fun cc => ?_)
        · exact next A ad _ _ _ (law_mod hC hI (show rM A (upd S 0 0) ct V from hR) h90) (by show K + 0 + 0 ≤ _; omega) (by show N + 0 + 0 ≤ _; omega)
        · exact absurd rfl cc
      · refine x_tableIn F 488 dL_law_59 (by decide) (by decide) (off := 429) (by decide) (by decide) ?_
        refine x_aload_n (q := 489) F dL_law_488 rfl rfl (by first | exact xref_r | exact xref_n | exact xref_f _ | assumption) ?_
        refine x_aload_n (q := 490) F dL_law_489 rfl rfl (by first | exact xref_r | exact xref_n | exact xref_f _ | assumption) ?_
        refine x_iload (q := 492) F dL_law_490 rfl rfl ?_
        refine x_iconst (q := 493) (v := 1) F dL_law_492 rfl (by decide) ?_
        refine x_iadd (q := 494) F dL_law_493 rfl ?_
        refine x_topi (nI_add i 1) ?_
        refine x_sld (q := 495) F dL_law_494 rfl rfl (by omega) (by omega) ?_
        refine x_callV1 (q := 498) F (1, 0) c_X6_batch dL_law_495 rfl mv_X6_batch ml_L_87 ⟨⟨xle rfl, xle rfl⟩, (by show K + 180 ≤ 601024; omega), (by show N + 2880 ≤ 7293000; omega)⟩ rfl hC.1 (xle rfl) ?_
        refine ⟨A, _, hC, hA, rfl, fun ad1 h1 hC1 hfr hE => ?_⟩
        obtain ⟨e1, e50, e90, hw1⟩ := law_cls hC hw h90n (fun k q1 q2 => hfr (k, 0) (by show 40 ≤ k; omega)) hE
        have h901 : h1 (90, 0) = some (cJ1 fo) := (hfr (90, 0) (by decide)).trans h90
        rw [← e1, ← e50, ← e90]
        refine x_aload_n (q := 499) F dL_law_498 rfl rfl (by first | exact xref_r | exact xref_n | exact xref_f _ | assumption) ?_
        refine x_aload_n (q := 500) F dL_law_499 rfl rfl (by first | exact xref_r | exact xref_n | exact xref_f _ | assumption) ?_
        refine x_iload (q := 502) F dL_law_500 rfl rfl ?_
        refine x_iconst (q := 503) (v := 1) F dL_law_502 rfl (by decide) ?_
        refine x_iadd (q := 504) F dL_law_503 rfl ?_
        refine x_topi (nI_add i 1) ?_
        refine x_sld (q := 505) F dL_law_504 rfl rfl (by omega) (by omega) ?_
        refine x_callV1 (q := 508) F (50, 0) c_X7_batch dL_law_505 rfl mv_X7_batch ml_L_91 ⟨⟨xle rfl, xle rfl⟩, (by show K + 180 + 0 ≤ 601024; omega), (by show N + 2880 + 0 ≤ 7293000; omega)⟩ rfl (wM_50 hw1) (xle rfl) ?_
        refine ⟨h1, A, S, ct, V, _, hw1, hR, hA, rfl, fun S' ct' V' hR' _ => ?_⟩
        refine x_icmp_eq (q := 511) F 681 dL_law_508 (by decide) rfl (fun cc => ?_) (fun cc => ?_)
        · exact next _ ad1 _ _ _ (law_mod hC1 (hI.batch _ (bat600 hI hR')) hR' h901) (by show K + 180 + 0 ≤ _; omega) (by show N + 2880 + 0 ≤ _; omega)
        · exact absurd rfl cc
      · refine x_tableIn F 513 dL_law_59 (by decide) (by decide) (off := 454) (by decide) (by decide) ?_
        refine x_aload_n (q := 514) F dL_law_513 rfl rfl (by first | exact xref_r | exact xref_n | exact xref_f _ | assumption) ?_
        refine x_callV0 (q := 517) F (1, 0) c_X6_undo dL_law_514 rfl mv_X6_undo ml_L_92 ⟨⟨xle rfl, xle rfl⟩, (by show K + 0 ≤ 601024; omega), (by show N + 0 ≤ 7293000; omega)⟩ rfl hC.1 (xle rfl) ?_
        refine ⟨A, hC, hA, hI.1.2.1, rfl, fun ad1 h1 hC1 hfr hE => ?_⟩
        obtain ⟨e1, e50, e90, hw1⟩ := law_cls hC hw h90n (fun k q1 q2 => hfr (k, 0) (by show 40 ≤ k; omega)) hE
        have h901 : h1 (90, 0) = some (cJ1 fo) := (hfr (90, 0) (by decide)).trans h90
        rw [← e1, ← e50, ← e90]
        refine x_aload_n (q := 518) F dL_law_517 rfl rfl (by first | exact xref_r | exact xref_n | exact xref_f _ | assumption) ?_
        refine x_callV0 (q := 521) F (50, 0) c_X7_undo dL_law_518 rfl mv_X7_undo ml_L_95 ⟨⟨xle rfl, xle rfl⟩, (by show K + 0 + 0 ≤ 601024; omega), (by show N + 0 + 0 ≤ 7293000; omega)⟩ rfl (wM_50 hw1) (xle rfl) ?_
        refine ⟨h1, A, S, ct, V, hw1, hR, hA, hI.1.2.1, rfl, fun S' ct' V' hR' _ => ?_⟩
        refine x_icmp_eq (q := 524) F 681 dL_law_521 (by decide) rfl (fun cc => ?_) (fun cc => ?_)
        · exact next _ ad1 _ _ _ (law_mod hC1 hI.undo hR' h901) (by show K + 0 + 0 ≤ _; omega) (by show N + 0 + 0 ≤ _; omega)
        · exact absurd rfl cc
      · refine x_tableIn F 526 dL_law_59 (by decide) (by decide) (off := 467) (by decide) (by decide) ?_
        refine x_aload_n (q := 527) F dL_law_526 rfl rfl (by first | exact xref_r | exact xref_n | exact xref_f _ | assumption) ?_
        refine x_aload_n (q := 528) F dL_law_527 rfl rfl (by first | exact xref_r | exact xref_n | exact xref_f _ | assumption) ?_
        refine x_iload (q := 530) F dL_law_528 rfl rfl ?_
        refine x_iconst (q := 531) (v := 1) F dL_law_530 rfl (by decide) ?_
        refine x_iadd (q := 532) F dL_law_531 rfl ?_
        refine x_topi (nI_add i 1) ?_
        refine x_sld (q := 533) F dL_law_532 rfl rfl (by omega) (by omega) ?_
        refine x_callV1 (q := 536) F (1, 0) c_X6_drop dL_law_533 rfl mv_X6_drop ml_L_96 ⟨⟨xle rfl, xle rfl⟩, (by show K + 0 ≤ 601024; omega), (by show N + 0 ≤ 7293000; omega)⟩ rfl hC.1 (xle rfl) ?_
        refine ⟨A, _, hC, hA, rfl, fun ad1 h1 hC1 hfr hE => ?_⟩
        obtain ⟨e1, e50, e90, hw1⟩ := law_cls hC hw h90n (fun k q1 q2 => hfr (k, 0) (by show 40 ≤ k; omega)) hE
        have h901 : h1 (90, 0) = some (cJ1 fo) := (hfr (90, 0) (by decide)).trans h90
        rw [← e1, ← e50, ← e90]
        refine x_aload_n (q := 537) F dL_law_536 rfl rfl (by first | exact xref_r | exact xref_n | exact xref_f _ | assumption) ?_
        refine x_aload_n (q := 538) F dL_law_537 rfl rfl (by first | exact xref_r | exact xref_n | exact xref_f _ | assumption) ?_
        refine x_iload (q := 540) F dL_law_538 rfl rfl ?_
        refine x_iconst (q := 541) (v := 1) F dL_law_540 rfl (by decide) ?_
        refine x_iadd (q := 542) F dL_law_541 rfl ?_
        refine x_topi (nI_add i 1) ?_
        refine x_sld (q := 543) F dL_law_542 rfl rfl (by omega) (by omega) ?_
        refine x_callV1 (q := 546) F (50, 0) c_X7_drop dL_law_543 rfl mv_X7_drop ml_L_99 ⟨⟨xle rfl, xle rfl⟩, (by show K + 0 + 0 ≤ 601024; omega), (by show N + 0 + 0 ≤ 7293000; omega)⟩ rfl (wM_50 hw1) (xle rfl) ?_
        refine ⟨h1, A, S, ct, V, _, hw1, hR, hA, rfl, fun S' ct' V' hR' _ => ?_⟩
        refine x_icmp_eq (q := 549) F 681 dL_law_546 (by decide) rfl (fun cc => ?_) (fun cc => ?_)
        · exact next _ ad1 _ _ _ (law_mod hC1 (hI.drop _) hR' h901) (by show K + 0 + 0 ≤ _; omega) (by show N + 0 + 0 ≤ _; omega)
        · exact absurd rfl cc
      · refine x_tableIn F 551 dL_law_59 (by decide) (by decide) (off := 492) (by decide) (by decide) ?_
        refine x_aload_n (q := 552) F dL_law_551 rfl rfl (by first | exact xref_r | exact xref_n | exact xref_f _ | assumption) ?_
        refine x_aload_n (q := 553) F dL_law_552 rfl rfl (by first | exact xref_r | exact xref_n | exact xref_f _ | assumption) ?_
        refine x_iload (q := 555) F dL_law_553 rfl rfl ?_
        refine x_iconst (q := 556) (v := 1) F dL_law_555 rfl (by decide) ?_
        refine x_iadd (q := 557) F dL_law_556 rfl ?_
        refine x_topi (nI_add i 1) ?_
        refine x_sld (q := 558) F dL_law_557 rfl rfl (by omega) (by omega) ?_
        refine x_aload_n (q := 559) F dL_law_558 rfl rfl (by first | exact xref_r | exact xref_n | exact xref_f _ | assumption) ?_
        refine x_iload (q := 561) F dL_law_559 rfl rfl ?_
        refine x_iconst (q := 562) (v := 2) F dL_law_561 rfl (by decide) ?_
        refine x_iadd (q := 563) F dL_law_562 rfl ?_
        refine x_topi (nI_add i 2) ?_
        refine x_sld (q := 564) F dL_law_563 rfl rfl (by omega) (by omega) ?_
        refine x_callV2 (q := 567) F (1, 0) c_X6_about dL_law_564 rfl mv_X6_about ml_L_100 ⟨⟨xle rfl, xle rfl⟩, (by show K + 0 ≤ 601024; omega), (by show N + 0 ≤ 7293000; omega)⟩ rfl hC.1 (xle rfl) ?_
        refine ⟨A, _, _, hC, hA, rfl, fun _ => ?_⟩
        refine x_aload_n (q := 568) F dL_law_567 rfl rfl (by first | exact xref_r | exact xref_n | exact xref_f _ | assumption) ?_
        refine x_aload_n (q := 569) F dL_law_568 rfl rfl (by first | exact xref_r | exact xref_n | exact xref_f _ | assumption) ?_
        refine x_iload (q := 571) F dL_law_569 rfl rfl ?_
        refine x_iconst (q := 572) (v := 1) F dL_law_571 rfl (by decide) ?_
        refine x_iadd (q := 573) F dL_law_572 rfl ?_
        refine x_topi (nI_add i 1) ?_
        refine x_sld (q := 574) F dL_law_573 rfl rfl (by omega) (by omega) ?_
        refine x_aload_n (q := 575) F dL_law_574 rfl rfl (by first | exact xref_r | exact xref_n | exact xref_f _ | assumption) ?_
        refine x_iload (q := 577) F dL_law_575 rfl rfl ?_
        refine x_iconst (q := 578) (v := 2) F dL_law_577 rfl (by decide) ?_
        refine x_iadd (q := 579) F dL_law_578 rfl ?_
        refine x_topi (nI_add i 2) ?_
        refine x_sld (q := 580) F dL_law_579 rfl rfl (by omega) (by omega) ?_
        refine x_callV2 (q := 583) F (50, 0) c_X7_about dL_law_580 rfl mv_X7_about ml_L_103 ⟨⟨xle rfl, xle rfl⟩, (by show K + 0 + 0 ≤ 601024; omega), (by show N + 0 + 0 ≤ 7293000; omega)⟩ rfl h50 (xle rfl) ?_
        refine ⟨h, A, S, ct, V, _, _, hw, hR, hA, hI.1.2.2, rfl, fun _ => ?_⟩
        refine x_icmp_eq (q := 586) F 681 dL_law_583 (by decide) rfl (fun cc => ?_) (fun cc => ?_)
        · exact next A ad _ _ _ (law_mod hC hI (show rM A (upd S 0 0) ct V from hR) h90) (by show K + 0 + 0 ≤ _; omega) (by show N + 0 + 0 ≤ _; omega)
        · exact absurd rfl cc
      · refine x_tableIn F 588 dL_law_59 (by decide) (by decide) (off := 529) (by decide) (by decide) ?_
        refine x_aload_n (q := 589) F dL_law_588 rfl rfl (by first | exact xref_r | exact xref_n | exact xref_f _ | assumption) ?_
        refine x_aload_n (q := 590) F dL_law_589 rfl rfl (by first | exact xref_r | exact xref_n | exact xref_f _ | assumption) ?_
        refine x_iload (q := 592) F dL_law_590 rfl rfl ?_
        refine x_iconst (q := 593) (v := 1) F dL_law_592 rfl (by decide) ?_
        refine x_iadd (q := 594) F dL_law_593 rfl ?_
        refine x_topi (nI_add i 1) ?_
        refine x_sld (q := 595) F dL_law_594 rfl rfl (by omega) (by omega) ?_
        refine x_aload_n (q := 596) F dL_law_595 rfl rfl (by first | exact xref_r | exact xref_n | exact xref_f _ | assumption) ?_
        refine x_iload (q := 598) F dL_law_596 rfl rfl ?_
        refine x_iconst (q := 599) (v := 2) F dL_law_598 rfl (by decide) ?_
        refine x_iadd (q := 600) F dL_law_599 rfl ?_
        refine x_topi (nI_add i 2) ?_
        refine x_sld (q := 601) F dL_law_600 rfl rfl (by omega) (by omega) ?_
        refine x_aload_n (q := 602) F dL_law_601 rfl rfl (by first | exact xref_r | exact xref_n | exact xref_f _ | assumption) ?_
        refine x_callW (q := 605) F hl [.ref (ad (1, 0)), .int (G.2.2.2.2.2 (i + 1)), .int (G.2.2.2.2.2 (i + 2)), .ref (ad (90, 0))] c_L_at dL_law_602 rfl law_w2 law_d2 ml_L_104 ⟨⟨xle rfl, xle rfl⟩, (by show K + 1 ≤ 601024; omega), (by show N + 6 ≤ 7293000; omega)⟩ rfl (xle rfl) rfl ?_
        refine ⟨A, fo, _, _, hC, hA, rfl, h90, fun v hv _ => ?_, fun hv _ => ?_⟩
        · have hw1 : xup h (90, 0) (cJ1 (vp_updL fo 0 v.toInt64)) = wM (xup h (90, 0) (cJ1 (vp_updL fo 0 v.toInt64))) ad S ct V := wM_moved hw (fun _ _ _ => rfl) (fun k q1 q2 => up_ne (by show k ≠ 90; omega))
          have hC1 : pC ad (xup h (90, 0) (cJ1 (vp_updL fo 0 v.toInt64))) A := hC.congr (fun t ht => up_ne (by omega))
          have h901 : xup h (90, 0) (cJ1 (vp_updL fo 0 v.toInt64)) (90, 0) = some (cJ1 (vp_updL fo 0 v.toInt64)) := xup_self _ _ _
          generalize xup h (90, 0) (cJ1 (vp_updL fo 0 v.toInt64)) = h1 at hw1 hC1 h901 ⊢
          refine x_istore (q := 607) F dL_law_605 rfl (by decide) ?_
          refine x_aload_n (q := 608) F dL_law_607 rfl rfl (by first | exact xref_r | exact xref_n | exact xref_f _ | assumption) ?_
          refine x_aload_n (q := 609) F dL_law_608 rfl rfl (by first | exact xref_r | exact xref_n | exact xref_f _ | assumption) ?_
          refine x_iload (q := 611) F dL_law_609 rfl rfl ?_
          refine x_iconst (q := 612) (v := 1) F dL_law_611 rfl (by decide) ?_
          refine x_iadd (q := 613) F dL_law_612 rfl ?_
          refine x_topi (nI_add i 1) ?_
          refine x_sld (q := 614) F dL_law_613 rfl rfl (by omega) (by omega) ?_
          refine x_aload_n (q := 615) F dL_law_614 rfl rfl (by first | exact xref_r | exact xref_n | exact xref_f _ | assumption) ?_
          refine x_iload (q := 617) F dL_law_615 rfl rfl ?_
          refine x_iconst (q := 618) (v := 2) F dL_law_617 rfl (by decide) ?_
          refine x_iadd (q := 619) F dL_law_618 rfl ?_
          refine x_topi (nI_add i 2) ?_
          refine x_sld (q := 620) F dL_law_619 rfl rfl (by omega) (by omega) ?_
          refine x_callV2 (q := 623) F (50, 0) c_X7_at dL_law_620 rfl mv_X7_at ml_L_107 ⟨⟨xle rfl, xle rfl⟩, (by show K + 1 + 0 ≤ 601024; omega), (by show N + 6 + 0 ≤ 7293000; omega)⟩ rfl (wM_50 hw1) (xle rfl) ?_
          refine ⟨h1, A, S, ct, V, _, _, hw1, hR, hA, rfl, fun v2 hv2 _ => ?_, fun hv2 => by rw [hv] at hv2; cases hv2⟩
          rw [hv] at hv2
          cases hv2
          refine x_istore (q := 625) F dL_law_623 rfl (by decide) ?_
          refine x_aload_n (q := 626) F dL_law_625 rfl rfl (by first | exact xref_r | exact xref_n | exact xref_f _ | assumption) ?_
          refine x_callV0 (q := 629) F (50, 0) c_X7_thrown dL_law_626 rfl mv_X7_thrown ml_L_42 ⟨⟨xle rfl, xle rfl⟩, (by show K + 1 + 0 + 0 ≤ 601024; omega), (by show N + 6 + 0 + 0 ≤ 7293000; omega)⟩ rfl (wM_o _ _ _ _ _) (xle rfl) ?_
          refine ⟨h1, upd S 0 0, ct, V, rfl, rfl, fun _ => ?_⟩
          refine x_topi (y := 0) rfl ?_
          refine x_iload (q := 631) F dL_law_629 rfl rfl ?_
          refine x_icmp_eq (q := 634) F 636 dL_law_631 (by decide) rfl (fun cc => ?_) (fun cc => ?_)
          · refine x_iload (q := 638) F dL_law_636 rfl rfl ?_
            refine x_if_ne (q := 641) F 653 dL_law_638 (by decide) rfl (fun dd => ?_) (fun dd => ?_)
            · exact absurd rfl dd
            · refine x_aload_n (q := 642) F dL_law_641 rfl rfl (by first | exact xref_r | exact xref_n | exact xref_f _ | assumption) ?_
              refine x_iconst (q := 643) (v := 0) F dL_law_642 rfl (by decide) ?_
              refine x_lald (q := 644) (t := (90, 0)) F dL_law_643 rfl ((wM_n _ _ _ _ _ (Or.inr (by decide))).trans h901) (show (0 : Int32) = nI 0 from rfl) (by omega) (by omega) ?_
              refine x_iload (q := 646) F dL_law_644 rfl rfl ?_
              refine x_i2l (q := 647) F dL_law_646 rfl ?_
              refine x_lcmp (q := 648) F dL_law_647 rfl ?_
              refine x_topi (y := 0) (cmp_self _) ?_
              refine x_if_eq (q := 651) F 653 dL_law_648 (by decide) rfl (fun ee => ?_) (fun ee => ?_)
              · refine x_goto F 681 dL_law_653 (by decide) ?_
                refine x_ls [(0, .ref G.2.2.2.1), (1, .ref (ad (1, 0))), (2, .ref (ad (50, 0))), (3, .ref (ad (90, 0))), (4, .int (nI i))] rfl ?_
                exact next A ad _ _ _ (law_mod hC1 hI (show rM A (upd S 0 0) ct V from hR) h901) (by show K + 1 + 0 + 0 ≤ _; omega) (by show N + 6 + 0 + 0 ≤ _; omega)
              · exact absurd rfl ee
          · exact absurd rfl cc
        · refine x_istore (q := 607) F dL_law_605 rfl (by decide) ?_
          refine x_aload_n (q := 608) F dL_law_607 rfl rfl (by first | exact xref_r | exact xref_n | exact xref_f _ | assumption) ?_
          refine x_aload_n (q := 609) F dL_law_608 rfl rfl (by first | exact xref_r | exact xref_n | exact xref_f _ | assumption) ?_
          refine x_iload (q := 611) F dL_law_609 rfl rfl ?_
          refine x_iconst (q := 612) (v := 1) F dL_law_611 rfl (by decide) ?_
          refine x_iadd (q := 613) F dL_law_612 rfl ?_
          refine x_topi (nI_add i 1) ?_
          refine x_sld (q := 614) F dL_law_613 rfl rfl (by omega) (by omega) ?_
          refine x_aload_n (q := 615) F dL_law_614 rfl rfl (by first | exact xref_r | exact xref_n | exact xref_f _ | assumption) ?_
          refine x_iload (q := 617) F dL_law_615 rfl rfl ?_
          refine x_iconst (q := 618) (v := 2) F dL_law_617 rfl (by decide) ?_
          refine x_iadd (q := 619) F dL_law_618 rfl ?_
          refine x_topi (nI_add i 2) ?_
          refine x_sld (q := 620) F dL_law_619 rfl rfl (by omega) (by omega) ?_
          refine x_callV2 (q := 623) F (50, 0) c_X7_at dL_law_620 rfl mv_X7_at ml_L_107 ⟨⟨xle rfl, xle rfl⟩, (by show K + 1 + 0 ≤ 601024; omega), (by show N + 6 + 0 ≤ 7293000; omega)⟩ rfl h50 (xle rfl) ?_
          refine ⟨h, A, S, ct, V, _, _, hw, hR, hA, rfl, fun v2 hv2 => (by rw [hv] at hv2; cases hv2), fun _ _ => ?_⟩
          refine x_istore (q := 625) F dL_law_623 rfl (by decide) ?_
          refine x_aload_n (q := 626) F dL_law_625 rfl rfl (by first | exact xref_r | exact xref_n | exact xref_f _ | assumption) ?_
          refine x_callV0 (q := 629) F (50, 0) c_X7_thrown dL_law_626 rfl mv_X7_thrown ml_L_42 ⟨⟨xle rfl, xle rfl⟩, (by show K + 1 + 0 + 0 ≤ 601024; omega), (by show N + 6 + 0 + 0 ≤ 7293000; omega)⟩ rfl (wM_o _ _ _ _ _) (xle rfl) ?_
          refine ⟨h, upd S 0 1, ct, V, rfl, rfl, fun _ => ?_⟩
          refine x_topi (y := 1) rfl ?_
          refine x_iload (q := 631) F dL_law_629 rfl rfl ?_
          refine x_icmp_eq (q := 634) F 636 dL_law_631 (by decide) rfl (fun cc => ?_) (fun cc => ?_)
          · refine x_iload (q := 638) F dL_law_636 rfl rfl ?_
            refine x_if_ne (q := 641) F 653 dL_law_638 (by decide) rfl (fun dd => ?_) (fun dd => ?_)
            · refine x_goto F 681 dL_law_653 (by decide) ?_
              refine x_ls [(0, .ref G.2.2.2.1), (1, .ref (ad (1, 0))), (2, .ref (ad (50, 0))), (3, .ref (ad (90, 0))), (4, .int (nI i))] rfl ?_
              exact next A ad _ _ _ (law_mod hC hI (show rM A (upd S 0 1) ct V from hR) h90) (by show K + 1 + 0 + 0 ≤ _; omega) (by show N + 6 + 0 + 0 ≤ _; omega)
            · exact absurd dd (by decide)
          · exact absurd rfl cc
      · refine x_tableIn F 656 dL_law_59 (by decide) (by decide) (off := 597) (by decide) (by decide) ?_
        refine x_aload_n (q := 657) F dL_law_656 rfl rfl (by first | exact xref_r | exact xref_n | exact xref_f _ | assumption) ?_
        refine x_aload_n (q := 658) F dL_law_657 rfl rfl (by first | exact xref_r | exact xref_n | exact xref_f _ | assumption) ?_
        refine x_iload (q := 660) F dL_law_658 rfl rfl ?_
        refine x_iconst (q := 661) (v := 1) F dL_law_660 rfl (by decide) ?_
        refine x_iadd (q := 662) F dL_law_661 rfl ?_
        refine x_topi (nI_add i 1) ?_
        refine x_sld (q := 663) F dL_law_662 rfl rfl (by omega) (by omega) ?_
        refine x_callV1 (q := 666) F (1, 0) c_X6_tried dL_law_663 rfl mv_X6_tried ml_L_108 ⟨⟨xle rfl, xle rfl⟩, (by show K + 0 ≤ 601024; omega), (by show N + 0 ≤ 7293000; omega)⟩ rfl hC.1 (xle rfl) ?_
        refine ⟨A, _, hC, hA, rfl, fun _ => ?_⟩
        refine x_aload_n (q := 667) F dL_law_666 rfl rfl (by first | exact xref_r | exact xref_n | exact xref_f _ | assumption) ?_
        refine x_aload_n (q := 668) F dL_law_667 rfl rfl (by first | exact xref_r | exact xref_n | exact xref_f _ | assumption) ?_
        refine x_iload (q := 670) F dL_law_668 rfl rfl ?_
        refine x_iconst (q := 671) (v := 1) F dL_law_670 rfl (by decide) ?_
        refine x_iadd (q := 672) F dL_law_671 rfl ?_
        refine x_topi (nI_add i 1) ?_
        refine x_sld (q := 673) F dL_law_672 rfl rfl (by omega) (by omega) ?_
        refine x_callV1 (q := 676) F (50, 0) c_X7_tried dL_law_673 rfl mv_X7_tried ml_L_111 ⟨⟨xle rfl, xle rfl⟩, (by show K + 0 + 0 ≤ 601024; omega), (by show N + 0 + 0 ≤ 7293000; omega)⟩ rfl h50 (xle rfl) ?_
        refine ⟨h, A, S, ct, V, _, hw, hR, hA, rfl, fun _ => ?_⟩
        refine x_icmp_eq (q := 679) F 681 dL_law_676 (by decide) rfl (fun cc => ?_) (fun cc => ?_)
        · exact next A ad _ _ _ (law_mod hC hI (show rM A (upd S 0 0) ct V from hR) h90) (by show K + 0 + 0 ≤ _; omega) (by show N + 0 + 0 ≤ _; omega)
        · exact absurd rfl cc
