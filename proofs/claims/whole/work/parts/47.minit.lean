/-! ===== the reference: a new object ===== -/
def mRf (ad : xAd) (m k : Nat) : Value := if k < m then .ref (ad (51 + k, 0)) else .null
abbrev mFlP (ad : xAd) (S : Nat → Int32) (ct : Int64) (m : Nat) : List Value := [.int (S 0), .int (S 1), .int (S 2), .int (S 3), mRf ad m 0, .int (S 5), .int (S 6), .int (S 7), mRf ad m 1, mRf ad m 2, mRf ad m 3, mRf ad m 4, mRf ad m 5, mRf ad m 6, mRf ad m 7, .int (S 15), mRf ad m 8, .int (S 17), mRf ad m 9, mRf ad m 10, mRf ad m 11, mRf ad m 12, mRf ad m 13, mRf ad m 14, .int (S 24), mRf ad m 15, .int (S 26), .int (S 27), .int (S 28), mRf ad m 16, mRf ad m 17, .long ct]
/-- the object with its first m arrays -/
def wP (g : xH) (ad : xAd) (S : Nat → Int32) (ct : Int64) (m : Nat) : xH := fun t => if t = (50, 0) then some (.inr (7, mFlP ad S ct m)) else if t.2 = 0 ∧ 51 ≤ t.1 ∧ t.1 < 51 + m then some (.inl ((mTy t.1).1, (mTy t.1).2, .inl (fun _ => 0))) else g t
theorem mFlP_c {ad ad' : xAd} {m : Nat} (S : Nat → Int32) (ct : Int64) (E : ∀ k, k < m → ad' (51 + k, 0) = ad (51 + k, 0)) : mFlP ad S ct m = mFlP ad' S ct m := by
  have e : ∀ k, mRf ad m k = mRf ad' m k := fun k => by
    unfold mRf
    by_cases z : k < m
    · rw [if_pos z, if_pos z, E k z]
    · rw [if_neg z, if_neg z]
  unfold mFlP
  rw [e 0, e 1, e 2, e 3, e 4, e 5, e 6, e 7, e 8, e 9, e 10, e 11, e 12, e 13, e 14, e 15, e 16, e 17]
theorem wP_o (g : xH) (ad : xAd) (S : Nat → Int32) (ct : Int64) (m : Nat) : wP g ad S ct m (50, 0) = some (.inr (7, mFlP ad S ct m)) := if_pos rfl
theorem wP_n (g : xH) (ad : xAd) (S : Nat → Int32) (ct : Int64) {m k : Nat} (hk : 51 + m ≤ k) : wP g ad S ct m (k, 0) = g (k, 0) := by
  unfold wP
  rw [if_neg (tg_ne (by omega) _ _), if_neg (fun z => by have : k < 51 + m := z.2.2; omega)]
theorem wP_18 (g : xH) (ad : xAd) (S : Nat → Int32) (ct : Int64) : wP g ad S ct 18 = wM g ad S ct (fun _ _ => 0) := by
  funext t
  unfold wP wM
  by_cases z : t = (50, 0)
  · subst z; rfl
  · rw [if_neg z]
    by_cases y : t.2 = 0 ∧ 51 ≤ t.1 ∧ t.1 < 51 + 18
    · rw [if_pos y, if_pos ⟨y.1, by omega, by omega⟩, if_neg (by omega)]
    · rw [if_neg y, if_neg (fun w => ?_)]
      by_cases v : t.1 = 50
      · exact z (Prod.ext v w.1)
      · exact y ⟨w.1, by omega, by omega⟩
theorem wP_up (g : xH) (ad ad' : xAd) (S : Nat → Int32) (ct : Int64) (m ti N : Nat) (hk : mTy (51 + m) = (ti, N)) : xup (xup (wP g ad S ct m) (51 + m, 0) (.inl (ti, N, .inl (fun _ => 0)))) (50, 0) (.inr (7, mFlP ad' S ct (m + 1))) = wP g ad' S ct (m + 1) := by
  funext t
  unfold xup
  by_cases z : t = (50, 0)
  · rw [if_pos z]; subst z; rfl
  · rw [if_neg z]
    by_cases y : t = (51 + m, 0)
    · rw [if_pos y]
      subst y
      unfold wP
      rw [if_neg z, if_pos ⟨rfl, by show 51 ≤ 51 + m; omega, by show 51 + m < 51 + (m + 1); omega⟩]
      show _ = some (Sum.inl ((mTy (51 + m)).1, (mTy (51 + m)).2, _))
      rw [hk]
    · rw [if_neg y]
      unfold wP
      rw [if_neg z, if_neg z]
      by_cases x : t.2 = 0 ∧ 51 ≤ t.1 ∧ t.1 < 51 + m
      · rw [if_pos x, if_pos ⟨x.1, x.2.1, by omega⟩]
      · rw [if_neg x, if_neg (fun w => ?_)]
        by_cases v : t.1 = 51 + m
        · exact y (Prod.ext v w.1)
        · exact x ⟨w.1, w.2.1, by omega⟩
theorem wP_so (g : xH) (ad : xAd) (S S' : Nat → Int32) (ct : Int64) (m : Nat) : xup (wP g ad S ct m) (50, 0) (.inr (7, mFlP ad S' ct m)) = wP g ad S' ct m := by
  funext t
  unfold xup
  by_cases z : t = (50, 0)
  · rw [if_pos z]; subst z; rfl
  · rw [if_neg z]
    unfold wP
    rw [if_neg z, if_neg z]
section XMINIT
variable {p : Program} {l : Launch} {e : Env} {R : Room} {s : State} {m : MethodId} {args : Array Value} {below : List Frame} {meth : Method} {c : Code} {G : xG} {ad0 : xAd} {h0 : xH} {nL : Nat} {Z : State → Prop} {pc : Nat} {ls : List (Nat × Value)} {st : List Value} {ad : xAd} {g : xH} {S : Nat → Int32} {ct : Int64} {V : MV} {k n : Nat} {own : String} {cc : ByteArray} {r : Option FieldType} {nm : String}
theorem x_pput (F : xF p s m args meth c G ad0 h0 own cc nL r nm) {i j idx q : Nat} {v : Int32} (hd : decode cc pc = .ok (.putfield idx, 3)) (hp : pc + 3 = q) (hs : xFS own idx 7 j false) (hlen : j < 32) (hn : narrow (xty 7 j) (.int v) = .int v) (hfit : fits (xty 7 j) (.int v) = true) (he : (mFlP ad S ct i).set j (.int v) = mFlP ad (upd S j v) ct i) (kk : xX p l e R s m args below meth c G ad0 h0 nL Z q ls st ad (wP g ad (upd S j v) ct i) k n) : xX p l e R s m args below meth c G ad0 h0 nL Z pc ls (.int v :: .ref (ad (50, 0)) :: st) ad (wP g ad S ct i) k n := by
  refine x_put F hd hp hs (wP_o g ad S ct i) hlen hn hfit ?_
  rw [he, wP_so]
  exact kk
theorem x_mputF (F : xF p s m args meth c G ad0 h0 own cc nL r nm) {j idx q : Nat} {v : Int32} (hd : decode cc pc = .ok (.putfield idx, 3)) (hp : pc + 3 = q) (hs : xFS own idx 7 j true) (hi2 : nm = "<init>") (ho0 : (xcl[7]?).map (fun r => r.1) = some own) (hlen : j < 32) (hn : narrow (xty 7 j) (.int v) = .int v) (hfit : fits (xty 7 j) (.int v) = true) (he : (mFl ad S ct).set j (.int v) = mFl ad (upd S j v) ct) (kk : xX p l e R s m args below meth c G ad0 h0 nL Z q ls st ad (wM g ad (upd S j v) ct V) k n) : xX p l e R s m args below meth c G ad0 h0 nL Z pc ls (.int v :: .ref (ad (50, 0)) :: st) ad (wM g ad S ct V) k n := by
  refine x_putF F hd hp hs hi2 ho0 (wM_o g ad S ct V) hlen hn hfit ?_
  rw [he, wM_uo]
  exact kk
theorem x_mkI (F : xF p s m args meth c G ad0 h0 own cc nL r nm) (i : Nat) {N j idx q : Nat} {x : Int32} (hd : decode cc pc = .ok (.newarray .int, 2)) (hd2 : decode cc (pc + 2) = .ok (.putfield idx, 3)) (hp : pc + 2 + 3 = q) (hw : Cond.arrayClass .int ∈ xwd) (hx : x = nI N) (hN : N ≤ 1000000) (hk : mTy (51 + i) = (0, N)) (hg : g (51 + i, 0) = none) (h1 : k + 1 ≤ R.cells) (h2 : n + N ≤ R.slots) (hs : xFS own idx 7 j true) (hi2 : nm = "<init>") (ho0 : (xcl[7]?).map (fun r => r.1) = some own) (hlen : j < 32) (hn : ∀ a, narrow (xty 7 j) (.ref a) = .ref a) (hfit : ∀ a, fits (xty 7 j) (.ref a) = true) (he : ∀ ad' : xAd, (mFlP ad' S ct i).set j (.ref (ad' (51 + i, 0))) = mFlP ad' S ct (i + 1))
    (kk : ∀ ad' : xAd, (∀ u : Tg, u ≠ (51 + i, 0) → ad' u = ad u) → xX p l e R s m args below meth c G ad0 h0 nL Z q ls st ad' (wP g ad' S ct (i + 1)) (k + 1) (n + N)) : xX p l e R s m args below meth c G ad0 h0 nL Z pc ls (.int x :: .ref (ad (50, 0)) :: st) ad (wP g ad S ct i) k n := by
  refine x_newaI (q := pc + 2) (N := N) F (51 + i, 0) hd rfl hw hx hN ((wP_n g ad S ct (Nat.le_refl _)).trans hg) h1 h2 (fun ad' E => ?_)
  rw [← E (50, 0) (tg_ne (by omega) _ _)]
  refine x_putF (t := (50, 0)) (fs := mFlP ad' S ct i) F hd2 hp hs hi2 ho0 (((up_ne (by show 50 ≠ 51 + i; omega)).trans (wP_o g ad S ct i)).trans (by rw [mFlP_c S ct (fun k' hk' => E (51 + k', 0) (tg_ne (by omega) _ _))])) hlen (hn _) (hfit _) ?_
  rw [he ad', wP_up g ad ad' S ct i 0 N hk]
  exact kk ad' E
theorem x_mkB (F : xF p s m args meth c G ad0 h0 own cc nL r nm) (i : Nat) {N j idx q : Nat} {x : Int32} (hd : decode cc pc = .ok (.newarray .byte, 2)) (hd2 : decode cc (pc + 2) = .ok (.putfield idx, 3)) (hp : pc + 2 + 3 = q) (hw : Cond.arrayClass .byte ∈ xwd) (hx : x = nI N) (hN : N ≤ 1000000) (hk : mTy (51 + i) = (1, N)) (hg : g (51 + i, 0) = none) (h1 : k + 1 ≤ R.cells) (h2 : n + N ≤ R.slots) (hs : xFS own idx 7 j true) (hi2 : nm = "<init>") (ho0 : (xcl[7]?).map (fun r => r.1) = some own) (hlen : j < 32) (hn : ∀ a, narrow (xty 7 j) (.ref a) = .ref a) (hfit : ∀ a, fits (xty 7 j) (.ref a) = true) (he : ∀ ad' : xAd, (mFlP ad' S ct i).set j (.ref (ad' (51 + i, 0))) = mFlP ad' S ct (i + 1))
    (kk : ∀ ad' : xAd, (∀ u : Tg, u ≠ (51 + i, 0) → ad' u = ad u) → xX p l e R s m args below meth c G ad0 h0 nL Z q ls st ad' (wP g ad' S ct (i + 1)) (k + 1) (n + N)) : xX p l e R s m args below meth c G ad0 h0 nL Z pc ls (.int x :: .ref (ad (50, 0)) :: st) ad (wP g ad S ct i) k n := by
  refine x_newaB (q := pc + 2) (N := N) F (51 + i, 0) hd rfl hw hx hN ((wP_n g ad S ct (Nat.le_refl _)).trans hg) h1 h2 (fun ad' E => ?_)
  rw [← E (50, 0) (tg_ne (by omega) _ _)]
  refine x_putF (t := (50, 0)) (fs := mFlP ad' S ct i) F hd2 hp hs hi2 ho0 (((up_ne (by show 50 ≠ 51 + i; omega)).trans (wP_o g ad S ct i)).trans (by rw [mFlP_c S ct (fun k' hk' => E (51 + k', 0) (tg_ne (by omega) _ _))])) hlen (hn _) (hfit _) ?_
  rw [he ad', wP_up g ad ad' S ct i 1 N hk]
  exact kk ad' E
theorem x_mkZ (F : xF p s m args meth c G ad0 h0 own cc nL r nm) (i : Nat) {N j idx q : Nat} {x : Int32} (hd : decode cc pc = .ok (.newarray .boolean, 2)) (hd2 : decode cc (pc + 2) = .ok (.putfield idx, 3)) (hp : pc + 2 + 3 = q) (hw : Cond.arrayClass .boolean ∈ xwd) (hx : x = nI N) (hN : N ≤ 1000000) (hk : mTy (51 + i) = (2, N)) (hg : g (51 + i, 0) = none) (h1 : k + 1 ≤ R.cells) (h2 : n + N ≤ R.slots) (hs : xFS own idx 7 j true) (hi2 : nm = "<init>") (ho0 : (xcl[7]?).map (fun r => r.1) = some own) (hlen : j < 32) (hn : ∀ a, narrow (xty 7 j) (.ref a) = .ref a) (hfit : ∀ a, fits (xty 7 j) (.ref a) = true) (he : ∀ ad' : xAd, (mFlP ad' S ct i).set j (.ref (ad' (51 + i, 0))) = mFlP ad' S ct (i + 1))
    (kk : ∀ ad' : xAd, (∀ u : Tg, u ≠ (51 + i, 0) → ad' u = ad u) → xX p l e R s m args below meth c G ad0 h0 nL Z q ls st ad' (wP g ad' S ct (i + 1)) (k + 1) (n + N)) : xX p l e R s m args below meth c G ad0 h0 nL Z pc ls (.int x :: .ref (ad (50, 0)) :: st) ad (wP g ad S ct i) k n := by
  refine x_newaZ (q := pc + 2) (N := N) F (51 + i, 0) hd rfl hw hx hN ((wP_n g ad S ct (Nat.le_refl _)).trans hg) h1 h2 (fun ad' E => ?_)
  rw [← E (50, 0) (tg_ne (by omega) _ _)]
  refine x_putF (t := (50, 0)) (fs := mFlP ad' S ct i) F hd2 hp hs hi2 ho0 (((up_ne (by show 50 ≠ 51 + i; omega)).trans (wP_o g ad S ct i)).trans (by rw [mFlP_c S ct (fun k' hk' => E (51 + k', 0) (tg_ne (by omega) _ _))])) hlen (hn _) (hfit _) ?_
  rw [he ad', wP_up g ad ad' S ct i 2 N hk]
  exact kk ad' E
end XMINIT
theorem clamp2 {c : Nat} (hc : c < 2 ^ 30) {x : Int32} (h1 : 0 ≤ x) (h2 : x ≤ nI c) : x = nI (clampN c x) := by
  have h0 : ¬ x < 0 := Int32.not_lt.mpr h1
  obtain ⟨j, hj, rfl⟩ := nI_of h0
  unfold clampN
  rw [if_neg h0, nI_clamp hj]
  have := (nI_leI hj (by omega)).mp h2
  rw [Nat.min_eq_left this]
theorem clamp3 {c : Nat} (hc : c < 2 ^ 30) {x : Int32} (h2 : ¬ x ≤ nI c) : nI c = nI (clampN c x) := by
  have hl : nI c < x := Int32.not_le.mp h2
  have h0 : ¬ x < 0 := fun z => by
    have a := Int32.lt_iff_toInt_lt.mp hl
    have b := Int32.lt_iff_toInt_lt.mp z
    rw [nI_toInt (by omega)] at a
    have : (0 : Int32).toInt = 0 := rfl
    omega
  obtain ⟨j, hj, rfl⟩ := nI_of h0
  unfold clampN
  rw [if_neg h0, nI_clamp hj]
  have := (nI_ltI (by omega) hj).mp hl
  rw [Nat.min_eq_right (by omega)]
theorem clamp1 {c : Nat} {x : Int32} (h1 : ¬ 0 ≤ x) : (0 : Int32) = nI (clampN c x) := by
  unfold clampN
  rw [if_pos (Int32.not_le.mp h1)]
  rfl
theorem rM_new {x y : Int32} {S : Nat → Int32} {V : MV} (e1 : S 1 = nI (clampN 2000 x)) (e2 : S 2 = nI (clampN 32 y)) (e3 : S 3 = 0) (e6 : S 6 = -1) (e7 : S 7 = 0) (e15 : S 15 = 0) (e17 : S 17 = 0) (e24 : S 24 = 0) (e26 : S 26 = 0) (e27 : S 27 = -1) (e28 : S 28 = 0) (v55 : ∀ s, s < 10 → V 55 s = -1) (v56 : ∀ j, V 56 j = 0) (v64 : ∀ j, V 64 j = 0) : rM (newA x y) S 0 V :=
  ⟨⟨e3, fun j hj => absurd hj (Nat.not_lt_zero j)⟩, ⟨e15, fun j hj => absurd hj (Nat.not_lt_zero j)⟩, ⟨e7, fun s hs => absurd hs (Nat.not_lt_zero s), fun s _ q => ⟨v55 s q, v56 _, v56 _⟩⟩, ⟨e17, fun s hs => absurd hs (Nat.not_lt_zero s), fun s _ q => v64 s⟩, ⟨0, fun _ => 0, fun _ => 0, e24, Nat.zero_le _, Nat.zero_le _, fun k hk => absurd hk (Nat.not_lt_zero k), fun k k' _ hk => absurd hk (Nat.not_lt_zero k'), fun b hb => absurd hb (Nat.not_lt_zero b), fun b hb => absurd hb (Nat.not_lt_zero b), fun i hi => absurd hi (Nat.not_lt_zero i)⟩, ⟨e1, e2, e27, ⟨e28, fun j hj => absurd hj (Nat.not_lt_zero j)⟩, rfl⟩, e6, e26⟩
def rNewS (S : Nat → Int32) (x y : Int32) : Prop := S 1 = nI (clampN 2000 x) ∧ S 2 = nI (clampN 32 y) ∧ S 3 = 0 ∧ S 6 = -1 ∧ S 7 = 0 ∧ S 15 = 0 ∧ S 17 = 0 ∧ S 24 = 0 ∧ S 26 = 0 ∧ S 27 = -1 ∧ S 28 = 0
set_option maxRecDepth 100000 in
set_option maxHeartbeats 8000000 in
theorem c_X7_init : Ct yX7_init cX7_init 4 none (xrm 1 18 4693) (fun ad h av Q => ∃ x y, av = [.ref (ad (50, 0)), .int x, .int y] ∧ h (50, 0) = some (.inr (7, [.int 0, .int 0, .int 0, .int 0, .null, .int 0, .int 0, .int 0, .null, .null, .null, .null, .null, .null, .null, .int 0, .null, .int 0, .null, .null, .null, .null, .null, .null, .int 0, .null, .int 0, .int 0, .int 0, .null, .null, .long 0])) ∧ (∀ k, 51 ≤ k → k ≤ 68 → h (k, 0) = none) ∧
    ∀ ad' S V, (∀ t : Tg, ¬ (51 ≤ t.1 ∧ t.1 ≤ 68 ∧ t.2 = 0) → ad' t = ad t) → rM (newA x y) S 0 V → Q none ad' (wM h ad' S 0 V)) := by
  refine Ct.of (by decide) ?_
  intro p l e s m args below meth c0 G ad h av Q F hsp
  obtain ⟨x, y, rfl, e50, hn, hQ⟩ := hsp
  have hg : ∀ i, i < 18 → h (51 + i, 0) = none := fun i hi => hn (51 + i) (by omega) (by omega)
  refine ⟨x_ent rfl rfl, ?_⟩
  refine x_ls [(0, .ref (ad (50, 0))), (1, .int x), (2, .int y)] rfl ?_
  refine x_h (h2 := wP h ad (fun _ => 0) 0 0) (by
    funext t
    unfold wP
    by_cases z : t = (50, 0)
    · rw [if_pos z, z]; exact e50
    · rw [if_neg z, if_neg (fun w => by omega)]) ?_
  refine x_aload_n (q := 1) F dX7_init_0 rfl rfl (by first | exact xref_r | exact xref_n | exact xref_f _ | assumption) ?_
  refine x_objInit (q := 4) F dX7_init_1 rfl ml_X7_1 oi_i oi_c (xle rfl) (xle rfl) ?_
  refine x_aload_n (q := 5) F dX7_init_4 rfl rfl (by first | exact xref_r | exact xref_n | exact xref_f _ | assumption) ?_
  refine x_sipush (q := 8) (v := 200) F dX7_init_5 rfl (by decide) ?_
  refine x_mkB (q := 13) (N := 200) F 0 dX7_init_8 dX7_init_10 rfl ac_byte rfl (by omega) rfl (hg 0 (by omega)) (xle rfl) (xle rfl) fs_X7_7 rfl rfl (by decide) (fun _ => rfl) (fun _ => rfl) (fun _ => rfl) (fun ad1 E1 => ?_)
  rw [← E1 (50, 0) (by decide)]
  refine x_aload_n (q := 14) F dX7_init_13 rfl rfl (by first | exact xref_r | exact xref_n | exact xref_f _ | assumption) ?_
  refine x_iconst (q := 15) (v := -1) F dX7_init_14 rfl (by decide) ?_
  refine x_pput (q := 18) F dX7_init_15 rfl fs_X7_13 (by decide) rfl rfl rfl ?_
  refine x_aload_n (q := 19) F dX7_init_18 rfl rfl (by first | exact xref_r | exact xref_n | exact xref_f _ | assumption) ?_
  refine x_bipush (q := 21) (v := 11) F dX7_init_19 rfl (by decide) ?_
  refine x_mkI (q := 26) (N := 11) F 1 dX7_init_21 dX7_init_23 rfl ac_int rfl (by omega) rfl (hg 1 (by omega)) (xle rfl) (xle rfl) fs_X7_17 rfl rfl (by decide) (fun _ => rfl) (fun _ => rfl) (fun _ => rfl) (fun ad2 E2 => ?_)
  rw [← E2 (50, 0) (by decide)]
  refine x_aload_n (q := 27) F dX7_init_26 rfl rfl (by first | exact xref_r | exact xref_n | exact xref_f _ | assumption) ?_
  refine x_sipush (q := 30) (v := 440) F dX7_init_27 rfl (by decide) ?_
  refine x_mkI (q := 35) (N := 440) F 2 dX7_init_30 dX7_init_32 rfl ac_int rfl (by omega) rfl (hg 2 (by omega)) (xle rfl) (xle rfl) fs_X7_21 rfl rfl (by decide) (fun _ => rfl) (fun _ => rfl) (fun _ => rfl) (fun ad3 E3 => ?_)
  rw [← E3 (50, 0) (by decide)]
  refine x_aload_n (q := 36) F dX7_init_35 rfl rfl (by first | exact xref_r | exact xref_n | exact xref_f _ | assumption) ?_
  refine x_sipush (q := 39) (v := 440) F dX7_init_36 rfl (by decide) ?_
  refine x_mkI (q := 44) (N := 440) F 3 dX7_init_39 dX7_init_41 rfl ac_int rfl (by omega) rfl (hg 3 (by omega)) (xle rfl) (xle rfl) fs_X7_24 rfl rfl (by decide) (fun _ => rfl) (fun _ => rfl) (fun _ => rfl) (fun ad4 E4 => ?_)
  rw [← E4 (50, 0) (by decide)]
  refine x_aload_n (q := 45) F dX7_init_44 rfl rfl (by first | exact xref_r | exact xref_n | exact xref_f _ | assumption) ?_
  refine x_bipush (q := 47) (v := 10) F dX7_init_45 rfl (by decide) ?_
  refine x_mkI (q := 52) (N := 10) F 4 dX7_init_47 dX7_init_49 rfl ac_int rfl (by omega) rfl (hg 4 (by omega)) (xle rfl) (xle rfl) fs_X7_27 rfl rfl (by decide) (fun _ => rfl) (fun _ => rfl) (fun _ => rfl) (fun ad5 E5 => ?_)
  rw [← E5 (50, 0) (by decide)]
  refine x_aload_n (q := 53) F dX7_init_52 rfl rfl (by first | exact xref_r | exact xref_n | exact xref_f _ | assumption) ?_
  refine x_bipush (q := 55) (v := 20) F dX7_init_53 rfl (by decide) ?_
  refine x_mkI (q := 60) (N := 20) F 5 dX7_init_55 dX7_init_57 rfl ac_int rfl (by omega) rfl (hg 5 (by omega)) (xle rfl) (xle rfl) fs_X7_30 rfl rfl (by decide) (fun _ => rfl) (fun _ => rfl) (fun _ => rfl) (fun ad6 E6 => ?_)
  rw [← E6 (50, 0) (by decide)]
  refine x_aload_n (q := 61) F dX7_init_60 rfl rfl (by first | exact xref_r | exact xref_n | exact xref_f _ | assumption) ?_
  refine x_bipush (q := 63) (v := 80) F dX7_init_61 rfl (by decide) ?_
  refine x_mkI (q := 68) (N := 80) F 6 dX7_init_63 dX7_init_65 rfl ac_int rfl (by omega) rfl (hg 6 (by omega)) (xle rfl) (xle rfl) fs_X7_33 rfl rfl (by decide) (fun _ => rfl) (fun _ => rfl) (fun _ => rfl) (fun ad7 E7 => ?_)
  rw [← E7 (50, 0) (by decide)]
  refine x_aload_n (q := 69) F dX7_init_68 rfl rfl (by first | exact xref_r | exact xref_n | exact xref_f _ | assumption) ?_
  refine x_bipush (q := 71) (v := 80) F dX7_init_69 rfl (by decide) ?_
  refine x_mkI (q := 76) (N := 80) F 7 dX7_init_71 dX7_init_73 rfl ac_int rfl (by omega) rfl (hg 7 (by omega)) (xle rfl) (xle rfl) fs_X7_36 rfl rfl (by decide) (fun _ => rfl) (fun _ => rfl) (fun _ => rfl) (fun ad8 E8 => ?_)
  rw [← E8 (50, 0) (by decide)]
  refine x_aload_n (q := 77) F dX7_init_76 rfl rfl (by first | exact xref_r | exact xref_n | exact xref_f _ | assumption) ?_
  refine x_bipush (q := 79) (v := 40) F dX7_init_77 rfl (by decide) ?_
  refine x_mkB (q := 84) (N := 40) F 8 dX7_init_79 dX7_init_81 rfl ac_byte rfl (by omega) rfl (hg 8 (by omega)) (xle rfl) (xle rfl) fs_X7_39 rfl rfl (by decide) (fun _ => rfl) (fun _ => rfl) (fun _ => rfl) (fun ad9 E9 => ?_)
  rw [← E9 (50, 0) (by decide)]
  refine x_aload_n (q := 85) F dX7_init_84 rfl rfl (by first | exact xref_r | exact xref_n | exact xref_f _ | assumption) ?_
  refine x_bipush (q := 87) (v := 60) F dX7_init_85 rfl (by decide) ?_
  refine x_mkI (q := 92) (N := 60) F 9 dX7_init_87 dX7_init_89 rfl ac_int rfl (by omega) rfl (hg 9 (by omega)) (xle rfl) (xle rfl) fs_X7_42 rfl rfl (by decide) (fun _ => rfl) (fun _ => rfl) (fun _ => rfl) (fun ad10 E10 => ?_)
  rw [← E10 (50, 0) (by decide)]
  refine x_aload_n (q := 93) F dX7_init_92 rfl rfl (by first | exact xref_r | exact xref_n | exact xref_f _ | assumption) ?_
  refine x_sipush (q := 96) (v := 2400) F dX7_init_93 rfl (by decide) ?_
  refine x_mkB (q := 101) (N := 2400) F 10 dX7_init_96 dX7_init_98 rfl ac_byte rfl (by omega) rfl (hg 10 (by omega)) (xle rfl) (xle rfl) fs_X7_45 rfl rfl (by decide) (fun _ => rfl) (fun _ => rfl) (fun _ => rfl) (fun ad11 E11 => ?_)
  rw [← E11 (50, 0) (by decide)]
  refine x_aload_n (q := 102) F dX7_init_101 rfl rfl (by first | exact xref_r | exact xref_n | exact xref_f _ | assumption) ?_
  refine x_bipush (q := 104) (v := 60) F dX7_init_102 rfl (by decide) ?_
  refine x_mkI (q := 109) (N := 60) F 11 dX7_init_104 dX7_init_106 rfl ac_int rfl (by omega) rfl (hg 11 (by omega)) (xle rfl) (xle rfl) fs_X7_48 rfl rfl (by decide) (fun _ => rfl) (fun _ => rfl) (fun _ => rfl) (fun ad12 E12 => ?_)
  rw [← E12 (50, 0) (by decide)]
  refine x_aload_n (q := 110) F dX7_init_109 rfl rfl (by first | exact xref_r | exact xref_n | exact xref_f _ | assumption) ?_
  refine x_bipush (q := 112) (v := 60) F dX7_init_110 rfl (by decide) ?_
  refine x_mkI (q := 117) (N := 60) F 12 dX7_init_112 dX7_init_114 rfl ac_int rfl (by omega) rfl (hg 12 (by omega)) (xle rfl) (xle rfl) fs_X7_51 rfl rfl (by decide) (fun _ => rfl) (fun _ => rfl) (fun _ => rfl) (fun ad13 E13 => ?_)
  rw [← E13 (50, 0) (by decide)]
  refine x_aload_n (q := 118) F dX7_init_117 rfl rfl (by first | exact xref_r | exact xref_n | exact xref_f _ | assumption) ?_
  refine x_bipush (q := 120) (v := 60) F dX7_init_118 rfl (by decide) ?_
  refine x_mkZ (q := 125) (N := 60) F 13 dX7_init_120 dX7_init_122 rfl ac_boolean rfl (by omega) rfl (hg 13 (by omega)) (xle rfl) (xle rfl) fs_X7_54 rfl rfl (by decide) (fun _ => rfl) (fun _ => rfl) (fun _ => rfl) (fun ad14 E14 => ?_)
  rw [← E14 (50, 0) (by decide)]
  refine x_aload_n (q := 126) F dX7_init_125 rfl rfl (by first | exact xref_r | exact xref_n | exact xref_f _ | assumption) ?_
  refine x_bipush (q := 128) (v := 60) F dX7_init_126 rfl (by decide) ?_
  refine x_mkI (q := 133) (N := 60) F 14 dX7_init_128 dX7_init_130 rfl ac_int rfl (by omega) rfl (hg 14 (by omega)) (xle rfl) (xle rfl) fs_X7_58 rfl rfl (by decide) (fun _ => rfl) (fun _ => rfl) (fun _ => rfl) (fun ad15 E15 => ?_)
  rw [← E15 (50, 0) (by decide)]
  refine x_aload_n (q := 134) F dX7_init_133 rfl rfl (by first | exact xref_r | exact xref_n | exact xref_f _ | assumption) ?_
  refine x_sipush (q := 137) (v := 600) F dX7_init_134 rfl (by decide) ?_
  refine x_mkZ (q := 142) (N := 600) F 15 dX7_init_137 dX7_init_139 rfl ac_boolean rfl (by omega) rfl (hg 15 (by omega)) (xle rfl) (xle rfl) fs_X7_61 rfl rfl (by decide) (fun _ => rfl) (fun _ => rfl) (fun _ => rfl) (fun ad16 E16 => ?_)
  rw [← E16 (50, 0) (by decide)]
  refine x_aload_n (q := 143) F dX7_init_142 rfl rfl (by first | exact xref_r | exact xref_n | exact xref_f _ | assumption) ?_
  refine x_iconst (q := 144) (v := -1) F dX7_init_143 rfl (by decide) ?_
  refine x_pput (q := 147) F dX7_init_144 rfl fs_X7_64 (by decide) rfl rfl rfl ?_
  refine x_aload_n (q := 148) F dX7_init_147 rfl rfl (by first | exact xref_r | exact xref_n | exact xref_f _ | assumption) ?_
  refine x_bipush (q := 150) (v := 40) F dX7_init_148 rfl (by decide) ?_
  refine x_mkB (q := 155) (N := 40) F 16 dX7_init_150 dX7_init_152 rfl ac_byte rfl (by omega) rfl (hg 16 (by omega)) (xle rfl) (xle rfl) fs_X7_67 rfl rfl (by decide) (fun _ => rfl) (fun _ => rfl) (fun _ => rfl) (fun ad17 E17 => ?_)
  rw [← E17 (50, 0) (by decide)]
  refine x_aload_n (q := 156) F dX7_init_155 rfl rfl (by first | exact xref_r | exact xref_n | exact xref_f _ | assumption) ?_
  refine x_bipush (q := 158) (v := 32) F dX7_init_156 rfl (by decide) ?_
  refine x_mkI (q := 163) (N := 32) F 17 dX7_init_158 dX7_init_160 rfl ac_int rfl (by omega) rfl (hg 17 (by omega)) (xle rfl) (xle rfl) fs_X7_70 rfl rfl (by decide) (fun _ => rfl) (fun _ => rfl) (fun _ => rfl) (fun ad18 E18 => ?_)
  rw [← E18 (50, 0) (by decide)]
  have EE : ∀ t : Tg, ¬ (51 ≤ t.1 ∧ t.1 ≤ 68 ∧ t.2 = 0) → ad18 t = ad t := fun t ht => by
    have q : ∀ i, i < 18 → t ≠ (51 + i, 0) := fun i hi z => ht (by rw [z]; exact ⟨by show 51 ≤ 51 + i; omega, by show 51 + i ≤ 68; omega, rfl⟩)
    rw [E18 t (q 17 (by omega)), E17 t (q 16 (by omega)), E16 t (q 15 (by omega)), E15 t (q 14 (by omega)), E14 t (q 13 (by omega)), E13 t (q 12 (by omega)), E12 t (q 11 (by omega)), E11 t (q 10 (by omega)), E10 t (q 9 (by omega)), E9 t (q 8 (by omega)), E8 t (q 7 (by omega)), E7 t (q 6 (by omega)), E6 t (q 5 (by omega)), E5 t (q 4 (by omega)), E4 t (q 3 (by omega)), E3 t (q 2 (by omega)), E2 t (q 1 (by omega)), E1 t (q 0 (by omega))]
  refine x_h (wP_18 _ _ _ _) ?_
  clear E1 E2 E3 E4 E5 E6 E7 E8 E9 E10 E11 E12 E13 E14 E15 E16 E17 E18
  have fin : ∀ k d V, d + k = 10 → (∀ j, j < d → V 55 j = -1) → (∀ a, a ≠ 55 → V a = fun _ => 0) → ∀ S, rNewS S x y → xX p l e (xrm 1 18 4693) s m args below meth c0 G ad h 4 (xZ below G ad h Q args s (xrm 1 18 4693)) 215 [(0, .ref (ad18 (50, 0))), (3, .int (nI d))] [] ad18 (wM h ad18 S 0 V) 18 4693 := by
    intro k
    induction k with
    | zero =>
      intro d V hd v1 v2 S hS
      refine x_iload_n (q := 216) F dX7_init_215 rfl rfl ?_
      refine x_bipush (q := 218) (v := 10) F dX7_init_216 rfl (by decide) ?_
      refine x_icmp_ge (q := 221) F 234 dX7_init_218 (by decide) rfl (fun c218 => ?_) (fun c218 => ?_)
      · refine x_vret F dX7_init_234 (xle rfl) (xle rfl) ?_
        obtain ⟨e1, e2, e3, e6, e7, e15, e17, e24, e26, e27, e28⟩ := hS
        exact hQ ad18 S V EE (rM_new e1 e2 e3 e6 e7 e15 e17 e24 e26 e27 e28 (fun j hj => v1 j (by omega)) (fun j => by rw [v2 56 (by decide)]) (fun j => by rw [v2 64 (by decide)]))
      · exact absurd ((nI_leI (a := 10) (by omega) (by omega)).mpr (by omega)) c218
    | succ k ih =>
      intro d V hd v1 v2 S hS
      refine x_iload_n (q := 216) F dX7_init_215 rfl rfl ?_
      refine x_bipush (q := 218) (v := 10) F dX7_init_216 rfl (by decide) ?_
      refine x_icmp_ge (q := 221) F 234 dX7_init_218 (by decide) rfl (fun c218 => ?_) (fun c218 => ?_)
      · have := (nI_leI (a := 10) (by omega) (by omega)).mp c218; omega
      · refine x_aload_n (q := 222) F dX7_init_221 rfl rfl (by first | exact xref_r | exact xref_n | exact xref_f _ | assumption) ?_
        refine x_mget (q := 225) F dX7_init_222 rfl fs_X7_27 rfl ?_
        refine x_iload_n (q := 226) F dX7_init_225 rfl rfl ?_
        refine x_iconst (q := 227) (v := -1) F dX7_init_226 rfl (by decide) ?_
        refine x_mist (q := 228) F dX7_init_227 rfl rfl (by decide) (by decide) rfl (by omega) ?_
        refine x_iinc (q := 231) F dX7_init_228 rfl rfl (nI_1 d) (by decide) ?_
        refine x_goto F 215 dX7_init_231 (by decide) ?_
        refine x_ls [(0, .ref (ad18 (50, 0))), (3, .int (nI (d + 1)))] rfl ?_
        refine ih (d + 1) _ (by omega) (fun j hj => ?_) (fun a q => (upV_n _ _ _ q).trans (v2 a q)) S hS
        by_cases z : j = d
        · rw [z]; exact upV_at _ _ _ _
        · rw [upV_ne _ _ _ z]; exact v1 j (by omega)
  have cells : ∀ S, S 1 = nI (clampN 2000 x) → S 3 = 0 → S 6 = -1 → S 7 = 0 → S 15 = 0 → S 17 = 0 → S 24 = 0 → S 26 = 0 → S 27 = -1 → S 28 = 0 → xX p l e (xrm 1 18 4693) s m args below meth c0 G ad h 4 (xZ below G ad h Q args s (xrm 1 18 4693)) 189 [(0, .ref (ad18 (50, 0))), (1, .int x), (2, .int y)] [] ad18 (wM h ad18 S 0 (fun _ _ => 0)) 18 4693 := by
    intro S e1 e3 e6 e7 e15 e17 e24 e26 e27 e28
    have put : xX p l e (xrm 1 18 4693) s m args below meth c0 G ad h 4 (xZ below G ad h Q args s (xrm 1 18 4693)) 210 [(0, .ref (ad18 (50, 0))), (1, .int x), (2, .int y)] [.int (nI (clampN 32 y)), .ref (ad18 (50, 0))] ad18 (wM h ad18 S 0 (fun _ _ => 0)) 18 4693 := by
      refine x_mputF (q := 213) F dX7_init_210 rfl fs_X7_76 rfl rfl (by decide) rfl rfl rfl ?_
      refine x_iconst (q := 214) (v := 0) F dX7_init_213 rfl (by decide) ?_
      refine x_istore_n (q := 215) F dX7_init_214 rfl (by decide) ?_
      refine x_ls [(0, .ref (ad18 (50, 0))), (3, .int (nI 0))] rfl ?_
      exact fin 10 0 _ (by omega) (fun j hj => absurd hj (Nat.not_lt_zero j)) (fun _ _ => rfl) _ ⟨e1, rfl, e3, e6, e7, e15, e17, e24, e26, e27, e28⟩
    refine x_aload_n (q := 190) F dX7_init_189 rfl rfl (by first | exact xref_r | exact xref_n | exact xref_f _ | assumption) ?_
    refine x_iload_n (q := 191) F dX7_init_190 rfl rfl ?_
    refine x_if_ge (q := 194) F 198 dX7_init_191 (by decide) rfl (fun c191 => ?_) (fun c191 => ?_)
    · refine x_iload_n (q := 199) F dX7_init_198 rfl rfl ?_
      refine x_bipush (q := 201) (v := 32) F dX7_init_199 rfl (by decide) ?_
      refine x_icmp_le (q := 204) F 209 dX7_init_201 (by decide) rfl (fun c201 => ?_) (fun c201 => ?_)
      · refine x_iload_n (q := 210) F dX7_init_209 rfl rfl ?_
        refine x_topi (clamp2 (c := 32) (by omega) c191 c201) ?_
        exact put
      · refine x_bipush (q := 206) (v := 32) F dX7_init_204 rfl (by decide) ?_
        refine x_goto F 210 dX7_init_206 (by decide) ?_
        refine x_topi (clamp3 (c := 32) (by omega) c201) ?_
        exact put
    · refine x_iconst (q := 195) (v := 0) F dX7_init_194 rfl (by decide) ?_
      refine x_goto F 210 dX7_init_195 (by decide) ?_
      refine x_topi (clamp1 (c := 32) c191) ?_
      exact put
  have put : ∀ S, S 3 = 0 → S 6 = -1 → S 7 = 0 → S 15 = 0 → S 17 = 0 → S 24 = 0 → S 26 = 0 → S 27 = -1 → S 28 = 0 → xX p l e (xrm 1 18 4693) s m args below meth c0 G ad h 4 (xZ below G ad h Q args s (xrm 1 18 4693)) 186 [(0, .ref (ad18 (50, 0))), (1, .int x), (2, .int y)] [.int (nI (clampN 2000 x)), .ref (ad18 (50, 0))] ad18 (wM h ad18 S 0 (fun _ _ => 0)) 18 4693 := by
    intro S e3 e6 e7 e15 e17 e24 e26 e27 e28
    refine x_mputF (q := 189) F dX7_init_186 rfl fs_X7_73 rfl rfl (by decide) rfl rfl rfl ?_
    exact cells _ rfl e3 e6 e7 e15 e17 e24 e26 e27 e28
  refine x_aload_n (q := 164) F dX7_init_163 rfl rfl (by first | exact xref_r | exact xref_n | exact xref_f _ | assumption) ?_
  refine x_iload_n (q := 165) F dX7_init_164 rfl rfl ?_
  refine x_if_ge (q := 168) F 172 dX7_init_165 (by decide) rfl (fun c165 => ?_) (fun c165 => ?_)
  · refine x_iload_n (q := 173) F dX7_init_172 rfl rfl ?_
    refine x_sipush (q := 176) (v := 2000) F dX7_init_173 rfl (by decide) ?_
    refine x_icmp_le (q := 179) F 185 dX7_init_176 (by decide) rfl (fun c176 => ?_) (fun c176 => ?_)
    · refine x_iload_n (q := 186) F dX7_init_185 rfl rfl ?_
      refine x_topi (clamp2 (c := 2000) (by omega) c165 c176) ?_
      exact put (upd (upd (fun _ => 0) 6 (-1)) 27 (-1)) rfl rfl rfl rfl rfl rfl rfl rfl rfl
    · refine x_sipush (q := 182) (v := 2000) F dX7_init_179 rfl (by decide) ?_
      refine x_goto F 186 dX7_init_182 (by decide) ?_
      refine x_topi (clamp3 (c := 2000) (by omega) c176) ?_
      exact put (upd (upd (fun _ => 0) 6 (-1)) 27 (-1)) rfl rfl rfl rfl rfl rfl rfl rfl rfl
  · refine x_iconst (q := 169) (v := 0) F dX7_init_168 rfl (by decide) ?_
    refine x_goto F 186 dX7_init_169 (by decide) ?_
    refine x_topi (clamp1 (c := 2000) c165) ?_
    exact put (upd (upd (fun _ => 0) 6 (-1)) 27 (-1)) rfl rfl rfl rfl rfl rfl rfl rfl rfl
