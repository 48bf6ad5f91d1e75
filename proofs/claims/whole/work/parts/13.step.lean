/-! ===== one command: stepWithin, step ===== -/
theorem nI_xor (a b : Nat) : nI a ^^^ nI b = nI (a ^^^ b) := by
  apply Int32.toBitVec_inj.mp
  show (BitVec.ofNat 32 a) ^^^ (BitVec.ofNat 32 b) = BitVec.ofNat 32 (a ^^^ b)
  apply BitVec.eq_of_toNat_eq
  simp [BitVec.toNat_xor, Nat.xor_mod_two_pow]
theorem xor_256 {a b : Nat} (ha : a < 256) (hb : b < 256) : a ^^^ b < 256 := Nat.xor_lt_two_pow (n := 8) ha hb
def L14 : List Nat := [114, 119, 97, 120, 115, 103, 105, 107, 106, 122, 101, 98, 102, 104]
def stepF (nc sz : Nat) (f : Nat → Nat) (c v : Nat) (q : RS) : RS := match q with
  | (mem, no, out, a, i, p, fl) =>
    if c = 114 then (if i + v < sz then (mem, no, out, f (i + v), i, p, fl) else (mem, no, out, a, i, p, 2))
    else if c = 119 then (mem, min (no + v) 40, pushF no out a v, a, i, p, if no + v ≤ 40 then fl else 3)
    else if c = 115 then (if v < nc then (updN mem v a, no, out, a, i, p, fl) else (mem, no, out, a, i, p, 3))
    else if c = 103 then (if v < nc then (mem, no, out, mem v, i, p, fl) else (mem, no, out, a, i, p, 3))
    else if c = 101 then (mem, no, out, a, i, (if sz ≤ i then v else p), fl)
    else if c = 97 then (mem, no, out, (a + v) % 256, i, p, fl)
    else if c = 120 then (mem, no, out, a ^^^ v, i, p, fl)
    else if c = 105 then (mem, no, out, a, min (i + v) 1000000, p, fl)
    else if c = 107 then (mem, no, out, a, v, p, fl)
    else if c = 106 then (mem, no, out, a, i, (if a = 0 then p else v), fl)
    else if c = 122 then (mem, no, out, a, i, (if a = 0 then v else p), fl)
    else if c = 98 then (mem, no, out, a, i, v, fl)
    else if c = 102 then (mem, no, out, a, i, p, if a = v then fl else 1)
    else (mem, no, out, a, i, 40, fl)
def L9 : List Nat := [97, 120, 105, 107, 106, 122, 98, 102, 104]
def s_stepW : xSp := fun ad h av Q => ∃ g st nc mem no out a i p fl fa all c v sz f, h = wR g ad st nc (mem, no, out, a, i, p, fl) fa all ∧ av = [.ref (ad (10, 0)), .int (nI c), .int (nI v)] ∧ c ∈ L9 ∧ v < 256 ∧ a < 256 ∧ i ≤ 1000000 ∧ Q none ad (wR g ad st nc (stepF nc sz f c v (mem, no, out, a, i, p, fl)) fa all)
set_option maxRecDepth 100000 in
set_option maxHeartbeats 2000000 in
theorem c_X3_stepWithin : Ct yX3_stepWithin cX3_stepWithin 3 none (xrm 1 0 0) s_stepW := by
  refine Ct.of (by decide) ?_
  intro p0 l e s m args below meth c0 G ad h av Q F hsp
  obtain ⟨g, st, nc, mem, no, out, a, i, p, fl, fa, all, c, v, sz, f, rfl, rfl, hc, hv, ha, hi, hQ⟩ := hsp
  refine ⟨x_ent rfl rfl, ?_⟩
  refine x_ls [(0, .ref (ad (10, 0))), (1, .int (nI c)), (2, .int (nI v))] rfl ?_
  refine x_iload_n (q := 1) F dX3_stepWithin_0 rfl rfl ?_
  simp only [L9, List.mem_cons, List.not_mem_nil, or_false] at hc
  rcases hc with rfl | rfl | rfl | rfl | rfl | rfl | rfl | rfl | rfl
  · refine x_tableIn F 120 dX3_stepWithin_1 (by decide) (by decide) (off := 119) (by decide) (by decide) ?_
    refine x_aload_n (q := 121) F dX3_stepWithin_120 rfl rfl (by first | exact xref_r | exact xref_n | exact xref_f _ | assumption) ?_
    refine x_aload_n (q := 122) F dX3_stepWithin_121 rfl rfl (by first | exact xref_r | exact xref_n | exact xref_f _ | assumption) ?_
    refine x_get (q := 125) F dX3_stepWithin_122 rfl fs_X3_20 rfl rfl ?_
    refine x_iload_n (q := 126) F dX3_stepWithin_125 rfl rfl ?_
    refine x_iadd (q := 127) F dX3_stepWithin_126 rfl ?_
    refine x_sipush (q := 130) (v := 255) F dX3_stepWithin_127 rfl (by decide) ?_
    refine x_iand (q := 131) F dX3_stepWithin_130 rfl ?_
    refine x_topi (y := nI ((a + v) % 256)) (by rw [nI_add]; exact pk_andN (by omega) 8 (by decide)) ?_
    refine x_put (q := 134) F dX3_stepWithin_131 rfl fs_X3_20 rfl (xle rfl) rfl rfl ?_
    refine x_goto F 253 dX3_stepWithin_134 (by decide) ?_
    refine x_vret F dX3_stepWithin_253 (xle rfl) (xle rfl) ?_
    rw [wR, xup_xup]
    exact hQ
  · refine x_tableIn F 137 dX3_stepWithin_1 (by decide) (by decide) (off := 136) (by decide) (by decide) ?_
    refine x_aload_n (q := 138) F dX3_stepWithin_137 rfl rfl (by first | exact xref_r | exact xref_n | exact xref_f _ | assumption) ?_
    refine x_aload_n (q := 139) F dX3_stepWithin_138 rfl rfl (by first | exact xref_r | exact xref_n | exact xref_f _ | assumption) ?_
    refine x_get (q := 142) F dX3_stepWithin_139 rfl fs_X3_20 rfl rfl ?_
    refine x_iload_n (q := 143) F dX3_stepWithin_142 rfl rfl ?_
    refine x_ixor (q := 144) F dX3_stepWithin_143 rfl ?_
    refine x_topi (nI_xor a v) ?_
    refine x_put (q := 147) F dX3_stepWithin_144 rfl fs_X3_20 rfl (xle rfl) rfl rfl ?_
    refine x_goto F 253 dX3_stepWithin_147 (by decide) ?_
    refine x_vret F dX3_stepWithin_253 (xle rfl) (xle rfl) ?_
    rw [wR, xup_xup]
    exact hQ
  · refine x_tableIn F 150 dX3_stepWithin_1 (by decide) (by decide) (off := 149) (by decide) (by decide) ?_
    refine x_aload_n (q := 151) F dX3_stepWithin_150 rfl rfl (by first | exact xref_r | exact xref_n | exact xref_f _ | assumption) ?_
    refine x_aload_n (q := 152) F dX3_stepWithin_151 rfl rfl (by first | exact xref_r | exact xref_n | exact xref_f _ | assumption) ?_
    refine x_get (q := 155) F dX3_stepWithin_152 rfl fs_X3_24 rfl rfl ?_
    refine x_iload_n (q := 156) F dX3_stepWithin_155 rfl rfl ?_
    refine x_iadd (q := 157) F dX3_stepWithin_156 rfl ?_
    refine x_ldc (q := 159) F dX3_stepWithin_157 rfl ct_X3_101 ?_
    refine x_mmin (q := 162) F dX3_stepWithin_159 rfl ml_X3_102 mw_min (xle rfl) (xle rfl) (xle rfl) (xle rfl) ?_
    refine x_topi (y := nI (min (i + v) 1000000)) ?_ ?_
    · rw [nI_add, show (1000000 : Int32) = nI 1000000 from rfl]
      by_cases q : i + v ≤ 1000000
      · rw [if_neg (fun z => absurd ((nI_ltI (a := 1000000) (b := i + v) (by omega) (by omega)).mp z) (by omega)), Nat.min_eq_left q]
      · rw [if_pos ((nI_ltI (a := 1000000) (b := i + v) (by omega) (by omega)).mpr (by omega)), Nat.min_eq_right (by omega)]
    refine x_put (q := 165) F dX3_stepWithin_162 rfl fs_X3_24 rfl (xle rfl) rfl rfl ?_
    refine x_goto F 253 dX3_stepWithin_165 (by decide) ?_
    refine x_vret F dX3_stepWithin_253 (xle rfl) (xle rfl) ?_
    rw [wR, xup_xup]
    exact hQ
  · refine x_tableIn F 168 dX3_stepWithin_1 (by decide) (by decide) (off := 167) (by decide) (by decide) ?_
    refine x_aload_n (q := 169) F dX3_stepWithin_168 rfl rfl (by first | exact xref_r | exact xref_n | exact xref_f _ | assumption) ?_
    refine x_iload_n (q := 170) F dX3_stepWithin_169 rfl rfl ?_
    refine x_put (q := 173) F dX3_stepWithin_170 rfl fs_X3_24 rfl (xle rfl) rfl rfl ?_
    refine x_goto F 253 dX3_stepWithin_173 (by decide) ?_
    refine x_vret F dX3_stepWithin_253 (xle rfl) (xle rfl) ?_
    rw [wR, xup_xup]
    exact hQ
  · refine x_tableIn F 176 dX3_stepWithin_1 (by decide) (by decide) (off := 175) (by decide) (by decide) ?_
    refine x_aload_n (q := 177) F dX3_stepWithin_176 rfl rfl (by first | exact xref_r | exact xref_n | exact xref_f _ | assumption) ?_
    refine x_aload_n (q := 178) F dX3_stepWithin_177 rfl rfl (by first | exact xref_r | exact xref_n | exact xref_f _ | assumption) ?_
    refine x_get (q := 181) F dX3_stepWithin_178 rfl fs_X3_20 rfl rfl ?_
    refine x_if_eq (q := 184) F 188 dX3_stepWithin_181 (by decide) rfl (fun c181 => ?_) (fun c181 => ?_)
    · have hz : a = 0 := (nI_eq (b := 0) (by omega) (by omega)).mp c181
      refine x_iconst (q := 189) (v := 0) F dX3_stepWithin_188 rfl (by decide) ?_
      refine x_iload_n (q := 190) F dX3_stepWithin_189 rfl rfl ?_
      refine x_callV2 (q := 193) F (10, 0) c_X3_jumpIf dX3_stepWithin_190 rfl mv_X3_jumpIf ml_X3_93 ⟨⟨xle rfl, xle rfl⟩, xle rfl, xle rfl⟩ rfl rfl (xle rfl) ?_
      refine ⟨g, st, nc, mem, no, out, a, i, p, fl, fa, all, false, v, rfl, rfl, fun _ => ?_⟩
      refine x_goto F 253 dX3_stepWithin_193 (by decide) ?_
      refine x_vret F dX3_stepWithin_253 (xle rfl) (xle rfl) ?_
      subst hz
      exact hQ
    · have hz : ¬ a = 0 := fun z => c181 (by rw [z]; rfl)
      refine x_iconst (q := 185) (v := 1) F dX3_stepWithin_184 rfl (by decide) ?_
      refine x_goto F 189 dX3_stepWithin_185 (by decide) ?_
      refine x_iload_n (q := 190) F dX3_stepWithin_189 rfl rfl ?_
      refine x_callV2 (q := 193) F (10, 0) c_X3_jumpIf dX3_stepWithin_190 rfl mv_X3_jumpIf ml_X3_93 ⟨⟨xle rfl, xle rfl⟩, xle rfl, xle rfl⟩ rfl rfl (xle rfl) ?_
      refine ⟨g, st, nc, mem, no, out, a, i, p, fl, fa, all, true, v, rfl, rfl, fun _ => ?_⟩
      refine x_goto F 253 dX3_stepWithin_193 (by decide) ?_
      refine x_vret F dX3_stepWithin_253 (xle rfl) (xle rfl) ?_
      have : stepF nc sz f 106 v (mem, no, out, a, i, p, fl) = (mem, no, out, a, i, v, fl) := by show (mem, no, out, a, i, (if a = 0 then p else v), fl) = _; rw [if_neg hz]
      rw [this] at hQ
      exact hQ
  · refine x_tableIn F 196 dX3_stepWithin_1 (by decide) (by decide) (off := 195) (by decide) (by decide) ?_
    refine x_aload_n (q := 197) F dX3_stepWithin_196 rfl rfl (by first | exact xref_r | exact xref_n | exact xref_f _ | assumption) ?_
    refine x_aload_n (q := 198) F dX3_stepWithin_197 rfl rfl (by first | exact xref_r | exact xref_n | exact xref_f _ | assumption) ?_
    refine x_get (q := 201) F dX3_stepWithin_198 rfl fs_X3_20 rfl rfl ?_
    refine x_if_ne (q := 204) F 208 dX3_stepWithin_201 (by decide) rfl (fun c201 => ?_) (fun c201 => ?_)
    · have hz : ¬ a = 0 := fun z => c201 (by rw [z]; rfl)
      refine x_iconst (q := 209) (v := 0) F dX3_stepWithin_208 rfl (by decide) ?_
      refine x_iload_n (q := 210) F dX3_stepWithin_209 rfl rfl ?_
      refine x_callV2 (q := 213) F (10, 0) c_X3_jumpIf dX3_stepWithin_210 rfl mv_X3_jumpIf ml_X3_93 ⟨⟨xle rfl, xle rfl⟩, xle rfl, xle rfl⟩ rfl rfl (xle rfl) ?_
      refine ⟨g, st, nc, mem, no, out, a, i, p, fl, fa, all, false, v, rfl, rfl, fun _ => ?_⟩
      refine x_goto F 253 dX3_stepWithin_213 (by decide) ?_
      refine x_vret F dX3_stepWithin_253 (xle rfl) (xle rfl) ?_
      have : stepF nc sz f 122 v (mem, no, out, a, i, p, fl) = (mem, no, out, a, i, p, fl) := by show (mem, no, out, a, i, (if a = 0 then v else p), fl) = _; rw [if_neg hz]
      rw [this] at hQ
      exact hQ
    · have hz : a = 0 := (nI_eq (b := 0) (by omega) (by omega)).mp c201
      refine x_iconst (q := 205) (v := 1) F dX3_stepWithin_204 rfl (by decide) ?_
      refine x_goto F 209 dX3_stepWithin_205 (by decide) ?_
      refine x_iload_n (q := 210) F dX3_stepWithin_209 rfl rfl ?_
      refine x_callV2 (q := 213) F (10, 0) c_X3_jumpIf dX3_stepWithin_210 rfl mv_X3_jumpIf ml_X3_93 ⟨⟨xle rfl, xle rfl⟩, xle rfl, xle rfl⟩ rfl rfl (xle rfl) ?_
      refine ⟨g, st, nc, mem, no, out, a, i, p, fl, fa, all, true, v, rfl, rfl, fun _ => ?_⟩
      refine x_goto F 253 dX3_stepWithin_213 (by decide) ?_
      refine x_vret F dX3_stepWithin_253 (xle rfl) (xle rfl) ?_
      subst hz
      exact hQ
  · refine x_tableIn F 216 dX3_stepWithin_1 (by decide) (by decide) (off := 215) (by decide) (by decide) ?_
    refine x_aload_n (q := 217) F dX3_stepWithin_216 rfl rfl (by first | exact xref_r | exact xref_n | exact xref_f _ | assumption) ?_
    refine x_iconst (q := 218) (v := 1) F dX3_stepWithin_217 rfl (by decide) ?_
    refine x_iload_n (q := 219) F dX3_stepWithin_218 rfl rfl ?_
    refine x_callV2 (q := 222) F (10, 0) c_X3_jumpIf dX3_stepWithin_219 rfl mv_X3_jumpIf ml_X3_93 ⟨⟨xle rfl, xle rfl⟩, xle rfl, xle rfl⟩ rfl rfl (xle rfl) ?_
    refine ⟨g, st, nc, mem, no, out, a, i, p, fl, fa, all, true, v, rfl, rfl, fun _ => ?_⟩
    refine x_goto F 253 dX3_stepWithin_222 (by decide) ?_
    refine x_vret F dX3_stepWithin_253 (xle rfl) (xle rfl) ?_
    exact hQ
  · refine x_tableIn F 225 dX3_stepWithin_1 (by decide) (by decide) (off := 224) (by decide) (by decide) ?_
    refine x_aload_n (q := 226) F dX3_stepWithin_225 rfl rfl (by first | exact xref_r | exact xref_n | exact xref_f _ | assumption) ?_
    refine x_aload_n (q := 227) F dX3_stepWithin_226 rfl rfl (by first | exact xref_r | exact xref_n | exact xref_f _ | assumption) ?_
    refine x_get (q := 230) F dX3_stepWithin_227 rfl fs_X3_20 rfl rfl ?_
    refine x_iload_n (q := 231) F dX3_stepWithin_230 rfl rfl ?_
    refine x_icmp_eq (q := 234) F 238 dX3_stepWithin_231 (by decide) rfl (fun c231 => ?_) (fun c231 => ?_)
    · have hz : a = v := (nI_eq (by omega) (by omega)).mp c231
      refine x_iconst (q := 239) (v := 0) F dX3_stepWithin_238 rfl (by decide) ?_
      refine x_iconst (q := 240) (v := 1) F dX3_stepWithin_239 rfl (by decide) ?_
      refine x_callV2 (q := 243) F (10, 0) c_X3_failIf dX3_stepWithin_240 rfl mv_X3_failIf ml_X3_108 ⟨⟨xle rfl, xle rfl⟩, xle rfl, xle rfl⟩ rfl rfl (xle rfl) ?_
      refine ⟨g, st, nc, mem, no, out, a, i, p, fl, fa, all, false, 1, rfl, rfl, fun _ => ?_⟩
      refine x_goto F 253 dX3_stepWithin_243 (by decide) ?_
      refine x_vret F dX3_stepWithin_253 (xle rfl) (xle rfl) ?_
      have : stepF nc sz f 102 v (mem, no, out, a, i, p, fl) = (mem, no, out, a, i, p, fl) := by show (mem, no, out, a, i, p, (if a = v then fl else 1)) = _; rw [if_pos hz]
      rw [this] at hQ
      exact hQ
    · have hz : ¬ a = v := fun z => c231 (by rw [z])
      refine x_iconst (q := 235) (v := 1) F dX3_stepWithin_234 rfl (by decide) ?_
      refine x_goto F 239 dX3_stepWithin_235 (by decide) ?_
      refine x_iconst (q := 240) (v := 1) F dX3_stepWithin_239 rfl (by decide) ?_
      refine x_callV2 (q := 243) F (10, 0) c_X3_failIf dX3_stepWithin_240 rfl mv_X3_failIf ml_X3_108 ⟨⟨xle rfl, xle rfl⟩, xle rfl, xle rfl⟩ rfl rfl (xle rfl) ?_
      refine ⟨g, st, nc, mem, no, out, a, i, p, fl, fa, all, true, 1, rfl, rfl, fun _ => ?_⟩
      refine x_goto F 253 dX3_stepWithin_243 (by decide) ?_
      refine x_vret F dX3_stepWithin_253 (xle rfl) (xle rfl) ?_
      have : stepF nc sz f 102 v (mem, no, out, a, i, p, fl) = (mem, no, out, a, i, p, 1) := by show (mem, no, out, a, i, p, (if a = v then fl else 1)) = _; rw [if_neg hz]
      rw [this] at hQ
      exact hQ
  · refine x_tableIn F 246 dX3_stepWithin_1 (by decide) (by decide) (off := 245) (by decide) (by decide) ?_
    refine x_aload_n (q := 247) F dX3_stepWithin_246 rfl rfl (by first | exact xref_r | exact xref_n | exact xref_f _ | assumption) ?_
    refine x_iconst (q := 248) (v := 1) F dX3_stepWithin_247 rfl (by decide) ?_
    refine x_bipush (q := 250) (v := 40) F dX3_stepWithin_248 rfl (by decide) ?_
    refine x_callV2 (q := 253) F (10, 0) c_X3_jumpIf dX3_stepWithin_250 rfl mv_X3_jumpIf ml_X3_93 ⟨⟨xle rfl, xle rfl⟩, xle rfl, xle rfl⟩ rfl rfl (xle rfl) ?_
    refine ⟨g, st, nc, mem, no, out, a, i, p, fl, fa, all, true, 40, rfl, rfl, fun _ => ?_⟩
    refine x_vret F dX3_stepWithin_253 (xle rfl) (xle rfl) ?_
    exact hQ
theorem rowAt_opt {n : Nat} (f : Nat → Nat) (hn : n < 2 ^ 30) {j : Nat} (hj : j < 2 ^ 30) : rowAt n (fun i => nI (f i)) (nI j) = optI (if j < n then some (f j) else none) := by
  by_cases q : j < n
  · rw [if_pos q, rowAt_in q (by omega)]; rfl
  · rw [if_neg q, rowAt_ge (by omega) ((nI_leI (by omega) (by omega)).mpr (by omega))]; rfl
def s_step : xSp := fun ad h av Q => ∃ g st nc mem no out a i p fl fa all c v io n N f, h = wR g ad st nc (mem, no, out, a, i, p, fl) fa all ∧ av = [.ref (ad (10, 0)), .int (nI c), .int (nI v), .ref (ad (31, io))] ∧ g (31, io) = some (cRow (ad (32, io)) (nI n)) ∧ g (32, io) = some (cN N f) ∧ n ≤ N ∧ N ≤ 1000 ∧ (∀ j, j < n → f j < 256) ∧ c ∈ L14 ∧ v < 256 ∧ a < 256 ∧ i ≤ 1000000 ∧ nc ≤ 32 ∧ no ≤ 40 ∧ Q none ad (wR g ad st nc (stepF nc n f c v (mem, no, out, a, i, p, fl)) fa all)
set_option maxRecDepth 100000 in
set_option maxHeartbeats 2000000 in
theorem c_X3_step : Ct yX3_step cX3_step 4 none (xrm 2 0 0) s_step := by
  refine Ct.of (by decide) ?_
  intro p0 l e s m args below meth c0 G ad h av Q F hsp
  obtain ⟨g, st, nc, mem, no, out, a, i, p, fl, fa, all, c, v, io, n, N, f, rfl, rfl, e1, e2, hn, hN, hf, hc, hv, ha, hi, hnc, hno, hQ⟩ := hsp
  refine ⟨x_ent rfl rfl, ?_⟩
  refine x_ls [(0, .ref (ad (10, 0))), (1, .int (nI c)), (2, .int (nI v)), (3, .ref (ad (31, io)))] rfl ?_
  refine x_iload_n (q := 1) F dX3_step_0 rfl rfl ?_
  by_cases h9 : c ∈ L9
  · refine x_lookup F 117 dX3_step_1 (by decide) (off := 116) ?_ (by decide) ?_
    · simp only [L9, List.mem_cons, List.not_mem_nil, or_false] at h9
      rcases h9 with rfl | rfl | rfl | rfl | rfl | rfl | rfl | rfl | rfl <;> decide
    refine x_aload_n (q := 118) F dX3_step_117 rfl rfl (by first | exact xref_r | exact xref_n | exact xref_f _ | assumption) ?_
    refine x_iload_n (q := 119) F dX3_step_118 rfl rfl ?_
    refine x_iload_n (q := 120) F dX3_step_119 rfl rfl ?_
    refine x_callV2 (q := 123) F (10, 0) c_X3_stepWithin dX3_step_120 rfl mv_X3_stepWithin ml_X3_97 ⟨⟨xle rfl, xle rfl⟩, xle rfl, xle rfl⟩ rfl rfl (xle rfl) ?_
    refine ⟨g, st, nc, mem, no, out, a, i, p, fl, fa, all, c, v, n, f, rfl, rfl, h9, hv, ha, hi, fun _ => ?_⟩
    refine x_vret F dX3_step_123 (xle rfl) (xle rfl) ?_
    exact hQ
  · have h5 : c = 101 ∨ c = 103 ∨ c = 114 ∨ c = 115 ∨ c = 119 := by
      simp only [L14, L9, List.mem_cons, List.not_mem_nil, or_false, not_or] at hc h9
      omega
    rcases h5 with rfl | rfl | rfl | rfl | rfl
    · refine x_lookup F 93 dX3_step_1 (by decide) (off := 92) (by decide) (by decide) ?_
      refine x_aload_n (q := 94) F dX3_step_93 rfl rfl (by first | exact xref_r | exact xref_n | exact xref_f _ | assumption) ?_
      refine x_aload_n (q := 95) F dX3_step_94 rfl rfl (by first | exact xref_r | exact xref_n | exact xref_f _ | assumption) ?_
      refine x_get (q := 98) F dX3_step_95 rfl fs_X3_24 rfl rfl ?_
      refine x_aload_n (q := 99) F dX3_step_98 rfl rfl (by first | exact xref_r | exact xref_n | exact xref_f _ | assumption) ?_
      refine x_getN (q := 102) F dX3_step_99 rfl fn_X3_91 e1 rfl ?_
      refine x_icmp_lt (q := 105) F 109 dX3_step_102 (by decide) rfl (fun c102 => ?_) (fun c102 => ?_)
      · have hz : ¬ n ≤ i := by have := (nI_ltI (by omega) (by omega)).mp c102; omega
        refine x_iconst (q := 110) (v := 0) F dX3_step_109 rfl (by decide) ?_
        refine x_iload_n (q := 111) F dX3_step_110 rfl rfl ?_
        refine x_callV2 (q := 114) F (10, 0) c_X3_jumpIf dX3_step_111 rfl mv_X3_jumpIf ml_X3_93 ⟨⟨xle rfl, xle rfl⟩, xle rfl, xle rfl⟩ rfl rfl (xle rfl) ?_
        refine ⟨g, st, nc, mem, no, out, a, i, p, fl, fa, all, false, v, rfl, rfl, fun _ => ?_⟩
        refine x_goto F 123 dX3_step_114 (by decide) ?_
        refine x_vret F dX3_step_123 (xle rfl) (xle rfl) ?_
        have : stepF nc n f 101 v (mem, no, out, a, i, p, fl) = (mem, no, out, a, i, p, fl) := by show (mem, no, out, a, i, (if n ≤ i then v else p), fl) = _; rw [if_neg hz]
        rw [this] at hQ
        exact hQ
      · have hz : n ≤ i := by
          rcases Nat.lt_or_ge i n with q | q
          · exact absurd ((nI_ltI (by omega) (by omega)).mpr q) c102
          · exact q
        refine x_iconst (q := 106) (v := 1) F dX3_step_105 rfl (by decide) ?_
        refine x_goto F 110 dX3_step_106 (by decide) ?_
        refine x_iload_n (q := 111) F dX3_step_110 rfl rfl ?_
        refine x_callV2 (q := 114) F (10, 0) c_X3_jumpIf dX3_step_111 rfl mv_X3_jumpIf ml_X3_93 ⟨⟨xle rfl, xle rfl⟩, xle rfl, xle rfl⟩ rfl rfl (xle rfl) ?_
        refine ⟨g, st, nc, mem, no, out, a, i, p, fl, fa, all, true, v, rfl, rfl, fun _ => ?_⟩
        refine x_goto F 123 dX3_step_114 (by decide) ?_
        refine x_vret F dX3_step_123 (xle rfl) (xle rfl) ?_
        have : stepF nc n f 101 v (mem, no, out, a, i, p, fl) = (mem, no, out, a, i, v, fl) := by show (mem, no, out, a, i, (if n ≤ i then v else p), fl) = _; rw [if_pos hz]
        rw [this] at hQ
        exact hQ
    · refine x_lookup F 85 dX3_step_1 (by decide) (off := 84) (by decide) (by decide) ?_
      refine x_aload_n (q := 86) F dX3_step_85 rfl rfl (by first | exact xref_r | exact xref_n | exact xref_f _ | assumption) ?_
      refine x_iload_n (q := 87) F dX3_step_86 rfl rfl ?_
      refine x_callV1 (q := 90) F (10, 0) c_X3_recall dX3_step_87 rfl mv_X3_recall ml_X3_88 ⟨⟨xle rfl, xle rfl⟩, xle rfl, xle rfl⟩ rfl rfl (xle rfl) ?_
      refine ⟨g, st, nc, mem, no, out, a, i, p, fl, fa, all, v, rfl, rfl, hv, hnc, fun _ => ?_⟩
      refine x_goto F 123 dX3_step_90 (by decide) ?_
      refine x_vret F dX3_step_123 (xle rfl) (xle rfl) ?_
      have : stepF nc n f 103 v (mem, no, out, a, i, p, fl) = if v < nc then (mem, no, out, mem v, i, p, fl) else (mem, no, out, a, i, p, 3) := rfl
      rw [this] at hQ
      by_cases z : v < nc
      · rw [if_pos z] at hQ ⊢; exact hQ
      · rw [if_neg z] at hQ ⊢; exact hQ
    · refine x_lookup F 52 dX3_step_1 (by decide) (off := 51) (by decide) (by decide) ?_
      refine x_aload_n (q := 53) F dX3_step_52 rfl rfl (by first | exact xref_r | exact xref_n | exact xref_f _ | assumption) ?_
      refine x_aload_n (q := 54) F dX3_step_53 rfl rfl (by first | exact xref_r | exact xref_n | exact xref_f _ | assumption) ?_
      refine x_aload_n (q := 55) F dX3_step_54 rfl rfl (by first | exact xref_r | exact xref_n | exact xref_f _ | assumption) ?_
      refine x_get (q := 58) F dX3_step_55 rfl fs_X3_24 rfl rfl ?_
      refine x_iload_n (q := 59) F dX3_step_58 rfl rfl ?_
      refine x_iadd (q := 60) F dX3_step_59 rfl ?_
      rw [nI_add]
      refine x_callV1 (q := 63) F (31, io) c_X0_byteAt dX3_step_60 rfl mv_X0_byteAt ml_X3_74 ⟨⟨xle rfl, xle rfl⟩, xle rfl, xle rfl⟩ rfl e1 (xle rfl) ?_
      refine ⟨(31, io), (32, io), n, N, _, _, rfl, e1, e2, hn, hN, fun _ => ?_⟩
      rw [rowAt_opt f (by omega) (by omega)]
      refine x_callV1 (q := 66) F (10, 0) c_X3_fetch dX3_step_63 rfl mv_X3_fetch ml_X3_78 ⟨⟨xle rfl, xle rfl⟩, xle rfl, xle rfl⟩ rfl rfl (xle rfl) ?_
      refine ⟨g, st, nc, mem, no, out, a, i, p, fl, fa, all, _, rfl, rfl, fun w hw => ?_, fun _ => ?_⟩
      · by_cases z : i + v < n
        · rw [if_pos z] at hw; cases hw; exact hf _ z
        · rw [if_neg z] at hw; cases hw
      refine x_goto F 123 dX3_step_66 (by decide) ?_
      refine x_vret F dX3_step_123 (xle rfl) (xle rfl) ?_
      have : stepF nc n f 114 v (mem, no, out, a, i, p, fl) = if i + v < n then (mem, no, out, f (i + v), i, p, fl) else (mem, no, out, a, i, p, 2) := rfl
      rw [this] at hQ
      by_cases z : i + v < n
      · rw [if_pos z] at hQ ⊢; exact hQ
      · rw [if_neg z] at hQ ⊢; exact hQ
    · refine x_lookup F 77 dX3_step_1 (by decide) (off := 76) (by decide) (by decide) ?_
      refine x_aload_n (q := 78) F dX3_step_77 rfl rfl (by first | exact xref_r | exact xref_n | exact xref_f _ | assumption) ?_
      refine x_iload_n (q := 79) F dX3_step_78 rfl rfl ?_
      refine x_callV1 (q := 82) F (10, 0) c_X3_store dX3_step_79 rfl mv_X3_store ml_X3_85 ⟨⟨xle rfl, xle rfl⟩, xle rfl, xle rfl⟩ rfl rfl (xle rfl) ?_
      refine ⟨g, st, nc, mem, no, out, a, i, p, fl, fa, all, v, rfl, rfl, hv, hnc, fun _ => ?_⟩
      refine x_goto F 123 dX3_step_82 (by decide) ?_
      refine x_vret F dX3_step_123 (xle rfl) (xle rfl) ?_
      have : stepF nc n f 115 v (mem, no, out, a, i, p, fl) = if v < nc then (updN mem v a, no, out, a, i, p, fl) else (mem, no, out, a, i, p, 3) := rfl
      rw [this] at hQ
      by_cases z : v < nc
      · rw [if_pos z] at hQ ⊢; exact hQ
      · rw [if_neg z] at hQ ⊢; exact hQ
    · refine x_lookup F 69 dX3_step_1 (by decide) (off := 68) (by decide) (by decide) ?_
      refine x_aload_n (q := 70) F dX3_step_69 rfl rfl (by first | exact xref_r | exact xref_n | exact xref_f _ | assumption) ?_
      refine x_iload_n (q := 71) F dX3_step_70 rfl rfl ?_
      refine x_callV1 (q := 74) F (10, 0) c_X3_putOut dX3_step_71 rfl mv_X3_putOut ml_X3_82 ⟨⟨xle rfl, xle rfl⟩, xle rfl, xle rfl⟩ rfl rfl (xle rfl) ?_
      refine ⟨g, st, nc, mem, no, out, a, i, p, fl, fa, all, v, rfl, rfl, hv, hno, fun _ => ?_⟩
      refine x_goto F 123 dX3_step_74 (by decide) ?_
      refine x_vret F dX3_step_123 (xle rfl) (xle rfl) ?_
      exact hQ
