/-! ===== the reference: reads, read ===== -/
/-- nothing of V but the row sc of the letters and numbers, and the count there -/
def frS (sc : Nat) (V V' : MV) : Prop := (∀ a, a ≠ 52 → a ≠ 53 → a ≠ 54 → V' a = V a) ∧ (∀ j, j ≠ sc → V' 52 j = V 52 j) ∧ ∀ j, j < 40 * sc ∨ 40 * sc + 40 ≤ j → V' 53 j = V 53 j ∧ V' 54 j = V 54 j
theorem frS.rf (sc : Nat) (V : MV) : frS sc V V := ⟨fun _ _ _ _ => rfl, fun _ _ => rfl, fun _ _ => ⟨rfl, rfl⟩⟩
theorem frS.tr {sc : Nat} {V V1 V2 : MV} (a : frS sc V V1) (b : frS sc V1 V2) : frS sc V V2 := ⟨fun k q1 q2 q3 => (b.1 k q1 q2 q3).trans (a.1 k q1 q2 q3), fun j q => (b.2.1 j q).trans (a.2.1 j q), fun j q => ⟨(b.2.2 j q).1.trans (a.2.2 j q).1, (b.2.2 j q).2.trans (a.2.2 j q).2⟩⟩
theorem frS.l {sc k : Nat} (V : MV) (v : Int32) (hk : k < 40) : frS sc V (upV V 53 (40 * sc + k) v) := ⟨fun a _ q _ => upV_n V _ _ q, fun j _ => rfl, fun j q => ⟨upV_ne V 53 v (by omega), rfl⟩⟩
theorem frS.v {sc k : Nat} (V : MV) (v : Int32) (hk : k < 40) : frS sc V (upV V 54 (40 * sc + k) v) := ⟨fun a _ _ q => upV_n V _ _ q, fun j _ => rfl, fun j q => ⟨rfl, upV_ne V 54 v (by omega)⟩⟩
theorem frS.n {sc : Nat} (V : MV) (v : Int32) : frS sc V (upV V 52 sc v) := ⟨fun a q _ _ => upV_n V _ _ q, fun j q => upV_ne V 52 v q, fun j _ => ⟨rfl, rfl⟩⟩
theorem parseF_none {s : Nat → Option Nat} {ns f k i : Nat} {lt nu : Nat → Nat} (h : isLet (s i) = false) : parseF s ns (f + 1) k i lt nu = (some i, k, lt, nu) := by
  rw [parseF]
  cases hs : s i with
  | none => rfl
  | some c =>
    rw [hs] at h
    exact if_neg (of_decide_eq_false h)
set_option maxRecDepth 100000 in
set_option maxHeartbeats 2000000 in
theorem c_X7_reads : Ct yX7_reads cX7_reads 3 (some .boolean) (xrm 2 0 0) (fun ad h av Q => ∃ g S ct V ns sg sc, h = wM g ad S ct V ∧ av = [.ref (ad (50, 0))] ∧ S 3 = nI ns ∧ S 7 = nI sc ∧ sc ≤ 10 ∧ txM V ns sg ∧
    (∀ x V' lt nu k', parseF (sgn ns sg) ns 40 0 0 (fun _ => 0) (fun _ => 0) = (some x, k', lt, nu) → frS sc V V' → Q (some (.int 0)) ad (wM g ad (upd S 5 (nI x)) ct V')) ∧
    (∀ x V' lt nu k', parseF (sgn ns sg) ns 40 0 0 (fun _ => 0) (fun _ => 0) = (none, k', lt, nu) → frS sc V V' → V' 52 sc = nI k' → (∀ j, j < k' → V' 53 (40 * sc + j) = nI (lt j) ∧ V' 54 (40 * sc + j) = nI (nu j)) → Q (some (.int 1)) ad (wM g ad (upd S 5 (nI x)) ct V'))) := by
  refine Ct.of (by decide) ?_
  intro p l e s m args below meth c0 G ad h av Q F hsp
  obtain ⟨g, S, ct, V, ns, sg, sc, rfl, rfl, e3, e7, hsc, hT, hQ0, hQ1⟩ := hsp
  refine ⟨x_ent rfl rfl, ?_⟩
  refine x_ls [(0, .ref (ad (50, 0)))] rfl ?_
  refine x_aload_n (q := 1) F dX7_reads_0 rfl rfl (by first | exact xref_r | exact xref_n | exact xref_f _ | assumption) ?_
  refine x_iconst (q := 2) (v := 0) F dX7_reads_1 rfl (by decide) ?_
  refine x_mput (q := 5) F dX7_reads_2 rfl fs_X7_95 (by decide) rfl rfl rfl ?_
  refine x_iconst (q := 6) (v := 0) F dX7_reads_5 rfl (by decide) ?_
  refine x_istore_n (q := 7) F dX7_reads_6 rfl (by decide) ?_
  refine x_iconst (q := 8) (v := 1) F dX7_reads_7 rfl (by decide) ?_
  refine x_istore_n (q := 9) F dX7_reads_8 rfl (by decide) ?_
  refine x_ls [(0, .ref (ad (50, 0))), (1, .int (nI 0)), (2, .int 1)] rfl ?_
  have loop : ∀ f k i lt nu V1, k + f = 40 → i ≤ 6 * k → frS sc V V1 → (∀ j, j < k → V1 53 (40 * sc + j) = nI (lt j) ∧ V1 54 (40 * sc + j) = nI (nu j)) → parseF (sgn ns sg) ns 40 0 0 (fun _ => 0) (fun _ => 0) = parseF (sgn ns sg) ns f k i lt nu → xX p l e (xrm 2 0 0) s m args below meth c0 G ad (wM g ad S ct V) 3 (xZ below G ad (wM g ad S ct V) Q args s (xrm 2 0 0)) 9 [(0, .ref (ad (50, 0))), (1, .int (nI k)), (2, .int 1)] [] ad (wM g ad (upd S 5 (nI i)) ct V1) 0 0 := by
    intro f
    induction f with
    | zero =>
      intro k i lt nu V1 hk hi hfr hV hp
      have hT1 : txM V1 ns sg := ⟨hT.1, hT.2.1, fun j hj => by rw [hfr.1 51 (by decide) (by decide) (by decide)]; exact hT.2.2 j hj⟩
      refine x_iload_n (q := 10) F dX7_reads_9 rfl rfl ?_
      refine x_if_eq (q := 13) F 79 dX7_reads_10 (by decide) rfl (fun c10 => ?_) (fun c10 => ?_)
      · exact absurd c10 (by decide)
      · refine x_aload_n (q := 14) F dX7_reads_13 rfl rfl (by first | exact xref_r | exact xref_n | exact xref_f _ | assumption) ?_
        refine x_iload_n (q := 15) F dX7_reads_14 rfl rfl ?_
        refine x_callV1 (q := 18) F (50, 0) c_X7_command dX7_reads_15 rfl mv_X7_command ml_X7_106 ⟨⟨xle rfl, xle rfl⟩, xle rfl, xle rfl⟩ rfl (wM_o _ _ _ _ _) (xle rfl) ?_
        refine ⟨g, upd S 5 (nI i), ct, V1, ns, sg, i, k, sc, rfl, rfl, e3, rfl, e7, hsc, by omega, by omega, hT1, fun _ _ => ?_, fun c _ _ hk2 => absurd hk2 (by omega)⟩
        refine x_if_ne (q := 21) F 23 dX7_reads_18 (by decide) rfl (fun c18 => ?_) (fun c18 => ?_)
        · exact absurd rfl c18
        · refine x_iconst (q := 22) (v := 0) F dX7_reads_21 rfl (by decide) ?_
          refine x_zret F dX7_reads_22 (xle rfl) (xle rfl) (by first | exact Or.inl rfl | exact Or.inr rfl) ?_
          exact hQ0 i V1 lt nu k hp hfr
    | succ f ih =>
      intro k i lt nu V1 hk hi hfr hV hp
      have hT1 : txM V1 ns sg := ⟨hT.1, hT.2.1, fun j hj => by rw [hfr.1 51 (by decide) (by decide) (by decide)]; exact hT.2.2 j hj⟩
      refine x_iload_n (q := 10) F dX7_reads_9 rfl rfl ?_
      refine x_if_eq (q := 13) F 79 dX7_reads_10 (by decide) rfl (fun c10 => ?_) (fun c10 => ?_)
      · exact absurd c10 (by decide)
      · refine x_aload_n (q := 14) F dX7_reads_13 rfl rfl (by first | exact xref_r | exact xref_n | exact xref_f _ | assumption) ?_
        refine x_iload_n (q := 15) F dX7_reads_14 rfl rfl ?_
        refine x_callV1 (q := 18) F (50, 0) c_X7_command dX7_reads_15 rfl mv_X7_command ml_X7_106 ⟨⟨xle rfl, xle rfl⟩, xle rfl, xle rfl⟩ rfl (wM_o _ _ _ _ _) (xle rfl) ?_
        refine ⟨g, upd S 5 (nI i), ct, V1, ns, sg, i, k, sc, rfl, rfl, e3, rfl, e7, hsc, by omega, by omega, hT1, fun hno _ => ?_, fun c hc hcL hk2 => ⟨fun hd _ => ?_, fun hd _ => ?_⟩⟩
        · have hno : isLet (sgn ns sg i) = false := by
            rcases hno with z | z
            · exact z
            · omega
          rw [parseF_none hno] at hp
          refine x_if_ne (q := 21) F 23 dX7_reads_18 (by decide) rfl (fun c18 => ?_) (fun c18 => ?_)
          · exact absurd rfl c18
          · refine x_iconst (q := 22) (v := 0) F dX7_reads_21 rfl (by decide) ?_
            refine x_zret F dX7_reads_22 (xle rfl) (xle rfl) (by first | exact Or.inl rfl | exact Or.inr rfl) ?_
            exact hQ0 i V1 lt nu k hp hfr
        · rw [parseF_s hc hcL, if_pos (Or.inl hd)] at hp
          rw [upd_upd]
          refine x_if_ne (q := 21) F 23 dX7_reads_18 (by decide) rfl (fun c18 => ?_) (fun c18 => ?_)
          · exact absurd rfl c18
          · refine x_iconst (q := 22) (v := 0) F dX7_reads_21 rfl (by decide) ?_
            refine x_zret F dX7_reads_22 (xle rfl) (xle rfl) (by first | exact Or.inl rfl | exact Or.inr rfl) ?_
            exact hQ0 (i + 1) _ lt nu k hp (hfr.tr (frS.l V1 _ hk2))
        · rw [parseF_s hc hcL] at hp
          rw [upd_upd]
          have hdl := digN_le (sgn ns sg) (i + 1)
          have hfr2 := (hfr.tr (frS.l V1 (nI c) hk2)).tr (frS.v (upV V1 53 (40 * sc + k) (nI c)) (nI (numN (sgn ns sg) (i + 1) (digN (sgn ns sg) (i + 1)))) hk2)
          by_cases hn : numN (sgn ns sg) (i + 1) (digN (sgn ns sg) (i + 1)) < 256
          · rw [if_neg (fun z => by rcases z with z | z; exact hd z; omega)] at hp
            rw [if_pos hn, if_pos hn]
            have hV2 : ∀ j, j < k + 1 → upV (upV V1 53 (40 * sc + k) (nI c)) 54 (40 * sc + k) (nI (numN (sgn ns sg) (i + 1) (digN (sgn ns sg) (i + 1)))) 53 (40 * sc + j) = nI (updN lt k c j) ∧ upV (upV V1 53 (40 * sc + k) (nI c)) 54 (40 * sc + k) (nI (numN (sgn ns sg) (i + 1) (digN (sgn ns sg) (i + 1)))) 54 (40 * sc + j) = nI (updN nu k (numN (sgn ns sg) (i + 1) (digN (sgn ns sg) (i + 1))) j) := by
              intro j hj
              by_cases z : j = k
              · subst z
                rw [updN_self, updN_self]
                exact ⟨upV_at V1 53 _ _, upV_at _ 54 _ _⟩
              · rw [updN_ne _ _ z, updN_ne _ _ z]
                obtain ⟨v1, v2⟩ := hV j (by omega)
                exact ⟨(upV_ne V1 53 _ (by omega)).trans v1, (upV_ne _ 54 _ (by omega)).trans v2⟩
            have hT2 : txM (upV (upV V1 53 (40 * sc + k) (nI c)) 54 (40 * sc + k) (nI (numN (sgn ns sg) (i + 1) (digN (sgn ns sg) (i + 1))))) ns sg := hT1
            generalize upV (upV V1 53 (40 * sc + k) (nI c)) 54 (40 * sc + k) (nI (numN (sgn ns sg) (i + 1) (digN (sgn ns sg) (i + 1)))) = V2 at hfr2 hV2 hT2 ⊢
            generalize numN (sgn ns sg) (i + 1) (digN (sgn ns sg) (i + 1)) = nv at hp hV2
            generalize hgd : digN (sgn ns sg) (i + 1) = dn at hp hdl ⊢
            refine x_if_ne (q := 21) F 23 dX7_reads_18 (by decide) rfl (fun c18 => ?_) (fun c18 => ?_)
            · refine x_iinc (q := 26) F dX7_reads_23 rfl rfl (nI_1 k) (by decide) ?_
              refine x_ls [(0, .ref (ad (50, 0))), (1, .int (nI (k + 1))), (2, .int 1)] rfl ?_
              refine x_aload_n (q := 27) F dX7_reads_26 rfl rfl (by first | exact xref_r | exact xref_n | exact xref_f _ | assumption) ?_
              refine x_mget (q := 30) F dX7_reads_27 rfl fs_X7_95 rfl ?_
              refine x_topi (y := nI (i + 1 + dn)) rfl ?_
              refine x_aload_n (q := 31) F dX7_reads_30 rfl rfl (by first | exact xref_r | exact xref_n | exact xref_f _ | assumption) ?_
              refine x_mget (q := 34) F dX7_reads_31 rfl fs_X7_92 rfl ?_
              refine x_topi (y := nI ns) e3 ?_
              have hns := hT.1
              refine x_icmp_ge (q := 37) F 41 dX7_reads_34 (by decide) rfl (fun c34 => ?_) (fun c34 => ?_)
              · have hge := (nI_leI (by omega) (by omega)).mp c34
                rw [if_pos hge] at hp
                refine x_iconst (q := 42) (v := 0) F dX7_reads_41 rfl (by decide) ?_
                refine x_istore_n (q := 43) F dX7_reads_42 rfl (by decide) ?_
                refine x_iload_n (q := 44) F dX7_reads_43 rfl rfl ?_
                refine x_if_eq (q := 47) F 58 dX7_reads_44 (by decide) rfl (fun c44 => ?_) (fun c44 => ?_)
                · refine x_aload_n (q := 59) F dX7_reads_58 rfl rfl (by first | exact xref_r | exact xref_n | exact xref_f _ | assumption) ?_
                  refine x_dup (q := 60) F dX7_reads_59 rfl rfl ?_
                  refine x_mget (q := 63) F dX7_reads_60 rfl fs_X7_95 rfl ?_
                  refine x_topi (y := nI (i + 1 + dn)) rfl ?_
                  refine x_iload_n (q := 64) F dX7_reads_63 rfl rfl ?_
                  refine x_if_eq (q := 67) F 71 dX7_reads_64 (by decide) rfl (fun c64 => ?_) (fun c64 => ?_)
                  · refine x_iconst (q := 72) (v := 0) F dX7_reads_71 rfl (by decide) ?_
                    refine x_iadd (q := 73) F dX7_reads_72 rfl ?_
                    refine x_topi (y := nI (i + 1 + dn)) (nI_add _ 0) ?_
                    refine x_mput (q := 76) F dX7_reads_73 rfl fs_X7_95 (by decide) rfl rfl rfl ?_
                    rw [upd_upd]
                    refine x_goto F 9 dX7_reads_76 (by decide) ?_
                    refine x_iload_n (q := 10) F dX7_reads_9 rfl rfl ?_
                    refine x_if_eq (q := 13) F 79 dX7_reads_10 (by decide) rfl (fun d10 => ?_) (fun d10 => ?_)
                    · refine x_aload_n (q := 80) F dX7_reads_79 rfl rfl (by first | exact xref_r | exact xref_n | exact xref_f _ | assumption) ?_
                      refine x_mget (q := 83) F dX7_reads_80 rfl fs_X7_17 rfl ?_
                      refine x_aload_n (q := 84) F dX7_reads_83 rfl rfl (by first | exact xref_r | exact xref_n | exact xref_f _ | assumption) ?_
                      refine x_mget (q := 87) F dX7_reads_84 rfl fs_X7_82 rfl ?_
                      refine x_topi (y := nI sc) e7 ?_
                      refine x_iload_n (q := 88) F dX7_reads_87 rfl rfl ?_
                      refine x_mist (q := 89) F dX7_reads_88 rfl rfl (by decide) (by decide) rfl (by omega) ?_
                      refine x_iconst (q := 90) (v := 1) F dX7_reads_89 rfl (by decide) ?_
                      refine x_zret F dX7_reads_90 (xle rfl) (xle rfl) (by first | exact Or.inl rfl | exact Or.inr rfl) ?_
                      refine hQ1 _ _ _ _ _ hp (hfr2.tr (frS.n V2 _)) (upV_at V2 52 _ _) (fun j hj => ?_)
                      exact hV2 j hj
                    · exact absurd rfl d10
                  · exact absurd rfl c64
                · exact absurd rfl c44
              · have hlt : i + 1 + dn < ns := by
                  rcases Nat.lt_or_ge (i + 1 + dn) ns with q | q
                  · exact q
                  · exact absurd ((nI_leI (by omega) (by omega)).mpr q) c34
                rw [if_neg (by omega)] at hp
                refine x_iconst (q := 38) (v := 1) F dX7_reads_37 rfl (by decide) ?_
                refine x_goto F 42 dX7_reads_38 (by decide) ?_
                refine x_istore_n (q := 43) F dX7_reads_42 rfl (by decide) ?_
                refine x_iload_n (q := 44) F dX7_reads_43 rfl rfl ?_
                refine x_if_eq (q := 47) F 58 dX7_reads_44 (by decide) rfl (fun c44 => ?_) (fun c44 => ?_)
                · exact absurd c44 (by decide)
                · refine x_aload_n (q := 48) F dX7_reads_47 rfl rfl (by first | exact xref_r | exact xref_n | exact xref_f _ | assumption) ?_
                  refine x_callV0 (q := 51) F (50, 0) c_X7_look dX7_reads_48 rfl mv_X7_look ml_X7_98 ⟨⟨xle rfl, xle rfl⟩, xle rfl, xle rfl⟩ rfl (wM_o _ _ _ _ _) (xle rfl) ?_
                  refine ⟨g, upd S 5 (nI (i + 1 + dn)), ct, V2, ns, sg, i + 1 + dn, rfl, rfl, e3, rfl, by omega, hT2, fun _ => ?_⟩
                  refine x_bipush (q := 53) (v := 32) F dX7_reads_51 rfl (by decide) ?_
                  refine x_icmp_eq (q := 56) F 58 dX7_reads_53 (by decide) rfl (fun c53 => ?_) (fun c53 => ?_)
                  · have h32 : sgn ns sg (i + 1 + dn) = some 32 := by
                      have c53 : optI (sgn ns sg (i + 1 + dn)) = optI (some 32) := c53
                      exact (optI_inj (fun v hv => by have := sgn_lt hT.2.1 hv; omega) (fun v hv => by cases hv; omega)).mp c53
                    rw [if_pos h32] at hp
                    refine x_aload_n (q := 59) F dX7_reads_58 rfl rfl (by first | exact xref_r | exact xref_n | exact xref_f _ | assumption) ?_
                    refine x_dup (q := 60) F dX7_reads_59 rfl rfl ?_
                    refine x_mget (q := 63) F dX7_reads_60 rfl fs_X7_95 rfl ?_
                    refine x_topi (y := nI (i + 1 + dn)) rfl ?_
                    refine x_iload_n (q := 64) F dX7_reads_63 rfl rfl ?_
                    refine x_if_eq (q := 67) F 71 dX7_reads_64 (by decide) rfl (fun c64 => ?_) (fun c64 => ?_)
                    · exact absurd c64 (by decide)
                    · refine x_iconst (q := 68) (v := 1) F dX7_reads_67 rfl (by decide) ?_
                      refine x_goto F 72 dX7_reads_68 (by decide) ?_
                      refine x_iadd (q := 73) F dX7_reads_72 rfl ?_
                      refine x_topi (nI_1 _) ?_
                      refine x_mput (q := 76) F dX7_reads_73 rfl fs_X7_95 (by decide) rfl rfl rfl ?_
                      rw [upd_upd]
                      refine x_goto F 9 dX7_reads_76 (by decide) ?_
                      refine x_ls [(0, .ref (ad (50, 0))), (1, .int (nI (k + 1))), (2, .int 1)] rfl ?_
                      exact ih (k + 1) (i + 1 + dn + 1) _ _ V2 (by omega) (by omega) hfr2 hV2 hp
                  · have h32 : ¬ sgn ns sg (i + 1 + dn) = some 32 := fun z => c53 (by rw [z]; rfl)
                    rw [if_neg h32] at hp
                    refine x_iconst (q := 57) (v := 0) F dX7_reads_56 rfl (by decide) ?_
                    refine x_zret F dX7_reads_57 (xle rfl) (xle rfl) (by first | exact Or.inl rfl | exact Or.inr rfl) ?_
                    exact hQ0 _ V2 _ _ _ hp hfr2
            · exact absurd c18 (by decide)
          · rw [if_pos (Or.inr (by omega))] at hp
            rw [if_neg hn, if_neg hn]
            refine x_if_ne (q := 21) F 23 dX7_reads_18 (by decide) rfl (fun c18 => ?_) (fun c18 => ?_)
            · exact absurd rfl c18
            · refine x_iconst (q := 22) (v := 0) F dX7_reads_21 rfl (by decide) ?_
              refine x_zret F dX7_reads_22 (xle rfl) (xle rfl) (by first | exact Or.inl rfl | exact Or.inr rfl) ?_
              exact hQ0 (i + 1) _ lt nu k hp hfr2
  exact loop 40 0 0 (fun _ => 0) (fun _ => 0) V (by omega) (by omega) (frS.rf sc V) (fun j hj => absurd hj (Nat.not_lt_zero j)) rfl
