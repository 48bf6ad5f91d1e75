/-! ===== the reference: command, reads, read ===== -/
theorem digK_step (s : Nat → Option Nat) (i f d : Nat) : digK s i (f + 1) d = if isDig (s (i + d)) = true then digK s i f (d + 1) else d := rfl
theorem inB_dig {o : Option Nat} (ho : ∀ v, o = some v → v < 256) : inB (optI o) 48 57 = isDig o := by
  cases o with
  | none => rfl
  | some c =>
    have hc := ho c rfl
    show (decide (nI 48 ≤ nI c) && decide (nI c ≤ nI 57)) = isDig (some c)
    unfold isDig
    by_cases a : 48 ≤ c
    · rw [decide_eq_true ((nI_leI (by omega) (by omega)).mpr a)]
      by_cases b : c ≤ 57
      · rw [decide_eq_true ((nI_leI (by omega) (by omega)).mpr b)]
        simp [a, b]
      · rw [decide_eq_false (fun z => b ((nI_leI (by omega) (by omega)).mp z))]
        simp [b]
    · rw [decide_eq_false (fun z => a ((nI_leI (by omega) (by omega)).mp z))]
      simp [a]
set_option maxRecDepth 100000 in
set_option maxHeartbeats 2000000 in
theorem c_X7_command : Ct yX7_command cX7_command 4 (some .boolean) (xrm 1 0 0) (fun ad h av Q => ∃ g S ct V ns sg i k sc, h = wM g ad S ct V ∧ av = [.ref (ad (50, 0)), .int (nI k)] ∧ S 3 = nI ns ∧ S 5 = nI i ∧ S 7 = nI sc ∧ sc ≤ 10 ∧ k ≤ 40 ∧ i < 1000 ∧ txM V ns sg ∧
    (isLet (sgn ns sg i) = false ∨ k = 40 → Q (some (.int 0)) ad h) ∧
    (∀ c, sgn ns sg i = some c → c ∈ L14 → k < 40 →
      (digN (sgn ns sg) (i + 1) = 0 → Q (some (.int 0)) ad (wM g ad (upd S 5 (nI (i + 1))) ct (upV V 53 (40 * sc + k) (nI c)))) ∧
      (digN (sgn ns sg) (i + 1) ≠ 0 → Q (some (.int (if numN (sgn ns sg) (i + 1) (digN (sgn ns sg) (i + 1)) < 256 then 1 else 0))) ad (wM g ad (upd S 5 (nI (if numN (sgn ns sg) (i + 1) (digN (sgn ns sg) (i + 1)) < 256 then i + 1 + digN (sgn ns sg) (i + 1) else i + 1))) ct (upV (upV V 53 (40 * sc + k) (nI c)) 54 (40 * sc + k) (nI (numN (sgn ns sg) (i + 1) (digN (sgn ns sg) (i + 1))))))))) := by
  refine Ct.of (by decide) ?_
  intro p l e s m args below meth c0 G ad h av Q F hsp
  obtain ⟨g, S, ct, V, ns, sg, i, k, sc, rfl, rfl, e3, e5, e7, hsc, hk, hi, hT, hQ0, hQ1⟩ := hsp
  have hlt : ∀ j v, sgn ns sg j = some v → v < 256 := fun j v hv => sgn_lt hT.2.1 hv
  refine ⟨x_ent rfl rfl, ?_⟩
  refine x_ls [(0, .ref (ad (50, 0))), (1, .int (nI k))] rfl ?_
  refine x_aload_n (q := 1) F dX7_command_0 rfl rfl (by first | exact xref_r | exact xref_n | exact xref_f _ | assumption) ?_
  refine x_callV0 (q := 4) F (50, 0) c_X7_look dX7_command_1 rfl mv_X7_look ml_X7_98 ⟨⟨xle rfl, xle rfl⟩, xle rfl, xle rfl⟩ rfl (wM_o _ _ _ _ _) (xle rfl) ?_
  refine ⟨g, S, ct, V, ns, sg, i, rfl, rfl, e3, e5, by omega, hT, fun _ => ?_⟩
  refine x_callS1 (q := 7) F c_X7_isLetter dX7_command_4 rfl ms_X7_isLetter ml_X7_102 ⟨⟨xle rfl, xle rfl⟩, xle rfl, xle rfl⟩ (xle rfl) ?_
  refine ⟨sgn ns sg i, rfl, hlt i, fun _ => ?_⟩
  cases hL : isLet (sgn ns sg i) with
  | false =>
    refine x_if_eq (q := 10) F 16 dX7_command_7 (by decide) rfl (fun c7 => ?_) (fun c7 => ?_)
    · refine x_iconst (q := 17) (v := 0) F dX7_command_16 rfl (by decide) ?_
      refine x_zret F dX7_command_17 (xle rfl) (xle rfl) (by first | exact Or.inl rfl | exact Or.inr rfl) ?_
      exact hQ0 (Or.inl hL)
    · exact absurd rfl c7
  | true =>
    refine x_if_eq (q := 10) F 16 dX7_command_7 (by decide) rfl (fun c7 => ?_) (fun c7 => ?_)
    · exact absurd c7 (by decide)
    · refine x_iload_n (q := 11) F dX7_command_10 rfl rfl ?_
      refine x_bipush (q := 13) (v := 40) F dX7_command_11 rfl (by decide) ?_
      refine x_icmp_ne (q := 16) F 18 dX7_command_13 (by decide) rfl (fun c13 => ?_) (fun c13 => ?_)
      · have hk2 : k < 40 := by
          rcases Nat.lt_or_ge k 40 with q | q
          · exact q
          · exact absurd (show nI k = 40 by rw [show k = 40 by omega]; rfl) c13
        obtain ⟨c, hc, hcL⟩ : ∃ c, sgn ns sg i = some c ∧ c ∈ L14 := by
          cases hs : sgn ns sg i with
          | none => rw [hs] at hL; cases hL
          | some c => rw [hs] at hL; exact ⟨c, rfl, of_decide_eq_true hL⟩
        obtain ⟨hA, hB⟩ := hQ1 c hc hcL hk2
        refine x_aload_n (q := 19) F dX7_command_18 rfl rfl (by first | exact xref_r | exact xref_n | exact xref_f _ | assumption) ?_
        refine x_mget (q := 22) F dX7_command_19 rfl fs_X7_21 rfl ?_
        refine x_bipush (q := 24) (v := 40) F dX7_command_22 rfl (by decide) ?_
        refine x_aload_n (q := 25) F dX7_command_24 rfl rfl (by first | exact xref_r | exact xref_n | exact xref_f _ | assumption) ?_
        refine x_mget (q := 28) F dX7_command_25 rfl fs_X7_82 rfl ?_
        refine x_topi (y := nI sc) e7 ?_
        refine x_imul (q := 29) F dX7_command_28 rfl ?_
        refine x_topi (pk_mul 40 sc) ?_
        refine x_iload_n (q := 30) F dX7_command_29 rfl rfl ?_
        refine x_iadd (q := 31) F dX7_command_30 rfl ?_
        refine x_topi (nI_add _ _) ?_
        refine x_aload_n (q := 32) F dX7_command_31 rfl rfl (by first | exact xref_r | exact xref_n | exact xref_f _ | assumption) ?_
        refine x_callV0 (q := 35) F (50, 0) c_X7_look dX7_command_32 rfl mv_X7_look ml_X7_98 ⟨⟨xle rfl, xle rfl⟩, xle rfl, xle rfl⟩ rfl (wM_o _ _ _ _ _) (xle rfl) ?_
        refine ⟨g, S, ct, V, ns, sg, i, rfl, rfl, e3, e5, by omega, hT, fun _ => ?_⟩
        rw [hc]
        refine x_mist (q := 36) F dX7_command_35 rfl rfl (by decide) (by decide) rfl (by omega) ?_
        have hT2 : txM (upV V 53 (40 * sc + k) (nI c)) ns sg := hT
        show xX p l e _ s m _ below meth c0 G ad _ _ _ 36 _ [] ad (wM g ad S ct (upV V 53 (40 * sc + k) (nI c))) _ _
        generalize upV V 53 (40 * sc + k) (nI c) = V1 at hA hB hT2 ⊢
        refine x_aload_n (q := 37) F dX7_command_36 rfl rfl (by first | exact xref_r | exact xref_n | exact xref_f _ | assumption) ?_
        refine x_dup (q := 38) F dX7_command_37 rfl rfl ?_
        refine x_mget (q := 41) F dX7_command_38 rfl fs_X7_95 rfl ?_
        refine x_topi (y := nI i) e5 ?_
        refine x_iconst (q := 42) (v := 1) F dX7_command_41 rfl (by decide) ?_
        refine x_iadd (q := 43) F dX7_command_42 rfl ?_
        refine x_topi (nI_1 i) ?_
        refine x_mput (q := 46) F dX7_command_43 rfl fs_X7_95 (by decide) rfl rfl rfl ?_
        refine x_aload_n (q := 47) F dX7_command_46 rfl rfl (by first | exact xref_r | exact xref_n | exact xref_f _ | assumption) ?_
        refine x_mget (q := 50) F dX7_command_47 rfl fs_X7_95 rfl ?_
        refine x_istore_n (q := 51) F dX7_command_50 rfl (by decide) ?_
        refine x_iconst (q := 52) (v := 0) F dX7_command_51 rfl (by decide) ?_
        refine x_istore_n (q := 53) F dX7_command_52 rfl (by decide) ?_
        refine x_ls [(0, .ref (ad (50, 0))), (1, .int (nI k)), (2, .int (nI (i + 1))), (3, .int (nI 0))] rfl ?_
        have loop : ∀ f d, d + f = 3 → (∀ j, j < d → isDig (sgn ns sg (i + 1 + j)) = true) → digN (sgn ns sg) (i + 1) = digK (sgn ns sg) (i + 1) f d → xX p l e (xrm 1 0 0) s m args below meth c0 G ad (wM g ad S ct V) 4 (xZ below G ad (wM g ad S ct V) Q args s (xrm 1 0 0)) 53 [(0, .ref (ad (50, 0))), (1, .int (nI k)), (2, .int (nI (i + 1))), (3, .int (nI (numN (sgn ns sg) (i + 1) d)))] [] ad (wM g ad (upd S 5 (nI (i + 1 + d))) ct V1) 0 0 := by
          have fin : ∀ d, d ≤ 3 → digN (sgn ns sg) (i + 1) = d → xX p l e (xrm 1 0 0) s m args below meth c0 G ad (wM g ad S ct V) 4 (xZ below G ad (wM g ad S ct V) Q args s (xrm 1 0 0)) 103 [(0, .ref (ad (50, 0))), (1, .int (nI k)), (2, .int (nI (i + 1))), (3, .int (nI (numN (sgn ns sg) (i + 1) d)))] [] ad (wM g ad (upd S 5 (nI (i + 1 + d))) ct V1) 0 0 := by
            intro d hd hdig
            have h999 := numN_999 (sgn ns sg) (i + 1)
            rw [hdig] at h999
            refine x_aload_n (q := 104) F dX7_command_103 rfl rfl (by first | exact xref_r | exact xref_n | exact xref_f _ | assumption) ?_
            refine x_mget (q := 107) F dX7_command_104 rfl fs_X7_95 rfl ?_
            refine x_topi (y := nI (i + 1 + d)) rfl ?_
            refine x_iload_n (q := 108) F dX7_command_107 rfl rfl ?_
            refine x_icmp_ne (q := 111) F 113 dX7_command_108 (by decide) rfl (fun c108 => ?_) (fun c108 => ?_)
            · have hd0 : d ≠ 0 := fun z => c108 (by rw [z])
              have hB := hB (by rw [hdig]; exact hd0)
              rw [hdig] at hB
              refine x_aload_n (q := 114) F dX7_command_113 rfl rfl (by first | exact xref_r | exact xref_n | exact xref_f _ | assumption) ?_
              refine x_mget (q := 117) F dX7_command_114 rfl fs_X7_24 rfl ?_
              refine x_bipush (q := 119) (v := 40) F dX7_command_117 rfl (by decide) ?_
              refine x_aload_n (q := 120) F dX7_command_119 rfl rfl (by first | exact xref_r | exact xref_n | exact xref_f _ | assumption) ?_
              refine x_mget (q := 123) F dX7_command_120 rfl fs_X7_82 rfl ?_
              refine x_topi (y := nI sc) e7 ?_
              refine x_imul (q := 124) F dX7_command_123 rfl ?_
              refine x_topi (pk_mul 40 sc) ?_
              refine x_iload_n (q := 125) F dX7_command_124 rfl rfl ?_
              refine x_iadd (q := 126) F dX7_command_125 rfl ?_
              refine x_topi (nI_add _ _) ?_
              refine x_iload_n (q := 127) F dX7_command_126 rfl rfl ?_
              refine x_mist (q := 128) F dX7_command_127 rfl rfl (by decide) (by decide) rfl (by omega) ?_
              refine x_iload_n (q := 129) F dX7_command_128 rfl rfl ?_
              refine x_sipush (q := 132) (v := 256) F dX7_command_129 rfl (by decide) ?_
              refine x_icmp_ge (q := 135) F 137 dX7_command_132 (by decide) rfl (fun c132 => ?_) (fun c132 => ?_)
              · have hge := (nI_leI (a := 256) (by omega) (by omega)).mp c132
                rw [if_neg (by omega), if_neg (by omega)] at hB
                refine x_aload_n (q := 138) F dX7_command_137 rfl rfl (by first | exact xref_r | exact xref_n | exact xref_f _ | assumption) ?_
                refine x_iload_n (q := 139) F dX7_command_138 rfl rfl ?_
                refine x_mput (q := 142) F dX7_command_139 rfl fs_X7_95 (by decide) rfl rfl rfl ?_
                rw [upd_upd]
                refine x_iconst (q := 143) (v := 0) F dX7_command_142 rfl (by decide) ?_
                refine x_zret F dX7_command_143 (xle rfl) (xle rfl) (by first | exact Or.inl rfl | exact Or.inr rfl) ?_
                exact hB
              · have hl2 : numN (sgn ns sg) (i + 1) d < 256 := by
                  rcases Nat.lt_or_ge (numN (sgn ns sg) (i + 1) d) 256 with q | q
                  · exact q
                  · exact absurd ((nI_leI (a := 256) (by omega) (by omega)).mpr q) c132
                rw [if_pos hl2, if_pos hl2] at hB
                refine x_iconst (q := 136) (v := 1) F dX7_command_135 rfl (by decide) ?_
                refine x_zret F dX7_command_136 (xle rfl) (xle rfl) (by first | exact Or.inl rfl | exact Or.inr rfl) ?_
                exact hB
            · have hd0 : d = 0 := by have := (nI_eq (by omega) (by omega)).mp c108; omega
              subst hd0
              have hA := hA hdig
              refine x_iconst (q := 112) (v := 0) F dX7_command_111 rfl (by decide) ?_
              refine x_zret F dX7_command_112 (xle rfl) (xle rfl) (by first | exact Or.inl rfl | exact Or.inr rfl) ?_
              exact hA
          intro f
          induction f with
          | zero =>
            intro d hd hpre hdig
            refine x_aload_n (q := 54) F dX7_command_53 rfl rfl (by first | exact xref_r | exact xref_n | exact xref_f _ | assumption) ?_
            refine x_mget (q := 57) F dX7_command_54 rfl fs_X7_95 rfl ?_
            refine x_topi (y := nI (i + 1 + d)) rfl ?_
            refine x_iload_n (q := 58) F dX7_command_57 rfl rfl ?_
            refine x_iconst (q := 59) (v := 3) F dX7_command_58 rfl (by decide) ?_
            refine x_iadd (q := 60) F dX7_command_59 rfl ?_
            refine x_topi (nI_add _ 3) ?_
            refine x_icmp_ge (q := 63) F 103 dX7_command_60 (by decide) rfl (fun c60 => ?_) (fun c60 => ?_)
            · exact fin d (by omega) hdig
            · exact absurd ((nI_leI (by omega) (by omega)).mpr (by omega)) c60
          | succ f ih =>
            intro d hd hpre hdig
            rw [digK_step] at hdig
            refine x_aload_n (q := 54) F dX7_command_53 rfl rfl (by first | exact xref_r | exact xref_n | exact xref_f _ | assumption) ?_
            refine x_mget (q := 57) F dX7_command_54 rfl fs_X7_95 rfl ?_
            refine x_topi (y := nI (i + 1 + d)) rfl ?_
            refine x_iload_n (q := 58) F dX7_command_57 rfl rfl ?_
            refine x_iconst (q := 59) (v := 3) F dX7_command_58 rfl (by decide) ?_
            refine x_iadd (q := 60) F dX7_command_59 rfl ?_
            refine x_topi (nI_add _ 3) ?_
            refine x_icmp_ge (q := 63) F 103 dX7_command_60 (by decide) rfl (fun c60 => ?_) (fun c60 => ?_)
            · have := (nI_leI (by omega) (by omega)).mp c60; omega
            · refine x_aload_n (q := 64) F dX7_command_63 rfl rfl (by first | exact xref_r | exact xref_n | exact xref_f _ | assumption) ?_
              refine x_callV0 (q := 67) F (50, 0) c_X7_look dX7_command_64 rfl mv_X7_look ml_X7_98 ⟨⟨xle rfl, xle rfl⟩, xle rfl, xle rfl⟩ rfl (wM_o _ _ _ _ _) (xle rfl) ?_
              refine ⟨g, upd S 5 (nI (i + 1 + d)), ct, V1, ns, sg, i + 1 + d, rfl, rfl, e3, rfl, by omega, hT2, fun _ => ?_⟩
              refine x_bipush (q := 69) (v := 48) F dX7_command_67 rfl (by decide) ?_
              refine x_bipush (q := 71) (v := 57) F dX7_command_69 rfl (by decide) ?_
              refine x_callS3 (q := 74) F c_X7_in dX7_command_71 rfl ms_X7_in ml_X7_85 ⟨⟨xle rfl, xle rfl⟩, xle rfl, xle rfl⟩ (xle rfl) ?_
              refine ⟨_, _, _, rfl, fun _ => ?_⟩
              rw [inB_dig (hlt _)]
              cases hD : isDig (sgn ns sg (i + 1 + d)) with
              | false =>
                rw [hD, if_neg (by decide)] at hdig
                refine x_if_eq (q := 77) F 103 dX7_command_74 (by decide) rfl (fun c74 => ?_) (fun c74 => ?_)
                · exact fin d (by omega) hdig
                · exact absurd rfl c74
              | true =>
                rw [hD, if_pos rfl] at hdig
                obtain ⟨cd, hcd, cd1, cd2⟩ := isDig_c hD
                have hnum0 : numN (sgn ns sg) (i + 1) (d + 1) = numN (sgn ns sg) (i + 1) d * 10 + ((sgn ns sg (i + 1 + d)).getD 48 - 48) := rfl
                rw [hcd] at hnum0
                have hnum : numN (sgn ns sg) (i + 1) (d + 1) = 10 * numN (sgn ns sg) (i + 1) d + cd - 48 := by
                  rw [hnum0]
                  show _ + (cd - 48) = _
                  omega
                have hb := numN_lt (sgn ns sg) (i + 1) d hpre
                have hp3 : (10 : Nat) ^ d ≤ 10 ^ 3 := Nat.pow_le_pow_right (by omega) (show d ≤ 3 by omega)
                refine x_if_eq (q := 77) F 103 dX7_command_74 (by decide) rfl (fun c74 => ?_) (fun c74 => ?_)
                · exact absurd c74 (by decide)
                · refine x_bipush (q := 79) (v := 10) F dX7_command_77 rfl (by decide) ?_
                  refine x_iload_n (q := 80) F dX7_command_79 rfl rfl ?_
                  refine x_imul (q := 81) F dX7_command_80 rfl ?_
                  refine x_topi (pk_mul 10 _) ?_
                  refine x_aload_n (q := 82) F dX7_command_81 rfl rfl (by first | exact xref_r | exact xref_n | exact xref_f _ | assumption) ?_
                  refine x_callV0 (q := 85) F (50, 0) c_X7_look dX7_command_82 rfl mv_X7_look ml_X7_98 ⟨⟨xle rfl, xle rfl⟩, xle rfl, xle rfl⟩ rfl (wM_o _ _ _ _ _) (xle rfl) ?_
                  refine ⟨g, upd S 5 (nI (i + 1 + d)), ct, V1, ns, sg, i + 1 + d, rfl, rfl, e3, rfl, by omega, hT2, fun _ => ?_⟩
                  rw [hcd]
                  refine x_iadd (q := 86) F dX7_command_85 rfl ?_
                  refine x_topi (nI_add _ cd) ?_
                  refine x_bipush (q := 88) (v := 48) F dX7_command_86 rfl (by decide) ?_
                  refine x_isub (q := 89) F dX7_command_88 rfl ?_
                  refine x_topi (y := nI (numN (sgn ns sg) (i + 1) (d + 1))) (by rw [hnum]; exact pk_sub (a := 10 * numN (sgn ns sg) (i + 1) d + cd) (b := 48) (by omega)) ?_
                  refine x_istore_n (q := 90) F dX7_command_89 rfl (by decide) ?_
                  refine x_aload_n (q := 91) F dX7_command_90 rfl rfl (by first | exact xref_r | exact xref_n | exact xref_f _ | assumption) ?_
                  refine x_dup (q := 92) F dX7_command_91 rfl rfl ?_
                  refine x_mget (q := 95) F dX7_command_92 rfl fs_X7_95 rfl ?_
                  refine x_topi (y := nI (i + 1 + d)) rfl ?_
                  refine x_iconst (q := 96) (v := 1) F dX7_command_95 rfl (by decide) ?_
                  refine x_iadd (q := 97) F dX7_command_96 rfl ?_
                  refine x_topi (nI_1 _) ?_
                  refine x_mput (q := 100) F dX7_command_97 rfl fs_X7_95 (by decide) rfl rfl rfl ?_
                  rw [upd_upd]
                  refine x_goto F 53 dX7_command_100 (by decide) ?_
                  refine x_ls [(0, .ref (ad (50, 0))), (1, .int (nI k)), (2, .int (nI (i + 1))), (3, .int (nI (numN (sgn ns sg) (i + 1) (d + 1))))] rfl ?_
                  refine ih (d + 1) (by omega) (fun j hj => ?_) hdig
                  by_cases z : j = d
                  · rw [z]; exact hD
                  · exact hpre j (by omega)
        exact loop 3 0 rfl (fun j hj => absurd hj (Nat.not_lt_zero j)) rfl
      · have hk40 : k = 40 := (nI_eq (a := k) (b := 40) (by omega) (by omega)).mp c13
        refine x_iconst (q := 17) (v := 0) F dX7_command_16 rfl (by decide) ?_
        refine x_zret F dX7_command_17 (xle rfl) (xle rfl) (by first | exact Or.inl rfl | exact Or.inr rfl) ?_
        exact hQ0 (Or.inr hk40)
