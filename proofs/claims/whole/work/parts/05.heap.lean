/-! ===== fields, arrays, new cells, answers, calls, over the named heap ===== -/
theorem xwd_in {w : Cond} (h : w ∈ lw_tbl) (g : xgood w = true) : w ∈ xwd := List.mem_filter.mpr ⟨h, g⟩
theorem x_lay0 : ∀ w ∈ u_ws RX0 TX0 2, w ∈ xwd := by decide +kernel
theorem x_decl0 : ∀ k, k < 2 → (TX0 k).1 = RX0 := by decide +kernel
theorem x_lay1 : ∀ w ∈ u_ws RX1 TX1 3, w ∈ xwd := by decide +kernel
theorem x_decl1 : ∀ k, k < 3 → (TX1 k).1 = RX1 := by decide +kernel
theorem x_lay2 : ∀ w ∈ u_ws RX2 TX2 6, w ∈ xwd := by decide +kernel
theorem x_decl2 : ∀ k, k < 6 → (TX2 k).1 = RX2 := by decide +kernel
theorem x_lay3 : ∀ w ∈ u_ws RX3 TX3 9, w ∈ xwd := by decide +kernel
theorem x_decl3 : ∀ k, k < 9 → (TX3 k).1 = RX3 := by decide +kernel
theorem x_lay4 : ∀ w ∈ u_ws RX4 TX4 5, w ∈ xwd := by decide +kernel
theorem x_decl4 : ∀ k, k < 5 → (TX4 k).1 = RX4 := by decide +kernel
theorem x_lay5 : ∀ w ∈ u_ws RX5 TX5 5, w ∈ xwd := by decide +kernel
theorem x_decl5 : ∀ k, k < 5 → (TX5 k).1 = RX5 := by decide +kernel
theorem x_lay6 : ∀ w ∈ u_ws RX6 TX6 10, w ∈ xwd := by decide +kernel
theorem x_decl6 : ∀ k, k < 10 → (TX6 k).1 = RX6 := by decide +kernel
theorem x_lay7 : ∀ w ∈ u_ws RX7 TX7 32, w ∈ xwd := by decide +kernel
theorem x_decl7 : ∀ k, k < 32 → (TX7 k).1 = RX7 := by decide +kernel
theorem xcls_ok {ci : Nat} {C : String} {T : u_T} {N : Nat} (hc : xcl[ci]? = some (C, T, N)) : (∀ w ∈ u_ws C T N, w ∈ xwd) ∧ (∀ k, k < N → parseFieldDescriptor (T k).2.2.1 = some (xty ci k)) ∧ (∀ a, a < N → ∀ b, b < N → a ≠ b → (T a).2.1 ≠ (T b).2.1) ∧ ∀ k, k < N → (T k).1 = C := by
  match ci, hc with
  | 0, hc => cases hc; exact ⟨x_lay0, tyX0_ok, nmX0, x_decl0⟩
  | 1, hc => cases hc; exact ⟨x_lay1, tyX1_ok, nmX1, x_decl1⟩
  | 2, hc => cases hc; exact ⟨x_lay2, tyX2_ok, nmX2, x_decl2⟩
  | 3, hc => cases hc; exact ⟨x_lay3, tyX3_ok, nmX3, x_decl3⟩
  | 4, hc => cases hc; exact ⟨x_lay4, tyX4_ok, nmX4, x_decl4⟩
  | 5, hc => cases hc; exact ⟨x_lay5, tyX5_ok, nmX5, x_decl5⟩
  | 6, hc => cases hc; exact ⟨x_lay6, tyX6_ok, nmX6, x_decl6⟩
  | 7, hc => cases hc; exact ⟨x_lay7, tyX7_ok, nmX7, x_decl7⟩
  | k + 8, hc => simp [xcl] at hc
def xFS (own : String) (idx ci k : Nat) (fin : Bool) : Prop := ∃ C T N, xcl[ci]? = some (C, T, N) ∧ k < N ∧ Cond.fieldLink own idx C (T k).2.1 (T k).2.2.1 ∈ xwd ∧ (T k).2.2.2 = fin
def xFSN (own : String) (idx ci k : Nat) (fin : Bool) : Prop := ∃ C T N host, xcl[ci]? = some (C, T, N) ∧ k < N ∧ Cond.fieldLinkNest own idx C (T k).2.1 (T k).2.2.1 host ∈ xnw ∧ (T k).2.2.2 = fin
section XHEAP
variable {p : Program} {l : Launch} {e : Env} {R : Room} {s : State} {m : MethodId} {args : Array Value} {below : List Frame} {meth : Method} {c : Code} {G : xG} {ad0 : xAd} {h0 : xH} {nL : Nat} {Z : State → Prop} {pc : Nat} {ls : List (Nat × Value)} {st : List Value} {ad : xAd} {h : xH} {k n : Nat} {own : String} {cc : ByteArray} {r : Option FieldType} {nm : String}
theorem x_get (F : xF p s m args meth c G ad0 h0 own cc nL r nm) {ci j idx : Nat} {fin : Bool} {t : Tg} {fs : List Value} {v : Value} {q : Nat} (hd : decode cc pc = .ok (.getfield idx, 3)) (hp : pc + 3 = q) (hs : xFS own idx ci j fin) (ht : h t = some (.inr (ci, fs))) (hv : fs[j]? = some v) (kk : xX p l e R s m args below meth c G ad0 h0 nL Z q ls (v :: st) ad h k n) : xX p l e R s m args below meth c G ad0 h0 nL Z pc ls (.ref (ad t) :: st) ad h k n := by
  subst hp
  obtain ⟨C, T, N, hc, hk, hl, -⟩ := hs
  obtain ⟨hin, -, -, hC⟩ := xcls_ok hc
  exact fun H locs la hR hS hL hE => va_get F.1 F.2.1 F.2.2.2.2.1 hin F.2.2.2.1 F.2.2.2.2.2.2.1.1 (hR.one ht) 0 rfl hc j hk (F.2.2.2.2.1 _ hl) (fun x hx => by rw [hC j hk] at hx; exact hx) hv hd (kk H locs la hR hS hL hE)
theorem x_getN (F : xF p s m args meth c G ad0 h0 own cc nL r nm) {ci j idx : Nat} {fin : Bool} {t : Tg} {fs : List Value} {v : Value} {q : Nat} (hd : decode cc pc = .ok (.getfield idx, 3)) (hp : pc + 3 = q) (hs : xFSN own idx ci j fin) (ht : h t = some (.inr (ci, fs))) (hv : fs[j]? = some v) (kk : xX p l e R s m args below meth c G ad0 h0 nL Z q ls (v :: st) ad h k n) : xX p l e R s m args below meth c G ad0 h0 nL Z pc ls (.ref (ad t) :: st) ad h k n := by
  subst hp
  obtain ⟨C, T, N, host, hc, hk, hl, -⟩ := hs
  obtain ⟨hin, -, -, hC⟩ := xcls_ok hc
  exact fun H locs la hR hS hL hE => va_getN F.1 F.2.1 F.2.2.2.2.1 hin F.2.2.2.1 F.2.2.2.2.2.2.1.1 (hR.one ht) 0 rfl hc j hk (va_Nw.use (by rfl) (F.2.2.2.2.2.2.1.2.1 _ hl)) (fun x hx => by rw [hC j hk] at hx; exact hx) hv hd (kk H locs la hR hS hL hE)
theorem x_put (F : xF p s m args meth c G ad0 h0 own cc nL r nm) {ci j idx : Nat} {t : Tg} {fs : List Value} {v : Value} {q : Nat} (hd : decode cc pc = .ok (.putfield idx, 3)) (hp : pc + 3 = q) (hs : xFS own idx ci j false) (ht : h t = some (.inr (ci, fs))) (hlen : j < fs.length) (hn : narrow (xty ci j) v = v) (hfit : fits (xty ci j) v = true) (kk : xX p l e R s m args below meth c G ad0 h0 nL Z q ls st ad (xup h t (.inr (ci, fs.set j v))) k n) : xX p l e R s m args below meth c G ad0 h0 nL Z pc ls (v :: .ref (ad t) :: st) ad h k n := by
  subst hp
  obtain ⟨C, T, N, hc, hk, hl, hfin⟩ := hs
  obtain ⟨hin, hty, hnm, hC⟩ := xcls_ok hc
  intro H locs la hR hS hL hE
  have hts := F.2.2.2.2.1
  have hK := F.2.2.2.2.2.2.1.1
  have hap := va_apart (own := own) hts hin (xty ci) hty hnm hK hc
  obtain ⟨r0, h1, cell, q1, q2, q3, q4⟩ := (hR.1 t _ ht).1
  have hr : r0 = (C, T, N) := Option.some.inj (h1.symm.trans hc)
  subst hr
  obtain ⟨hSl, hfc, kC, hkC, hkind⟩ := hK.1 ci _ hc
  obtain ⟨cf, kf, fi, f, hi, hsl⟩ := hSl j hk
  have hlay := hts _ (hin _ (u_in_lay hk))
  unfold u_lay at hlay
  have hst := (u_facts hfc hkC (u_lays hts hin hk) hi).1
  have hi' : s.fieldFound? C (T j).2.1 (T j).2.2.1 = some (cf, kf, fi, f) := by rw [hC j hk] at hi; exact hi
  rw [if_neg (by rw [hfin]; decide)] at hlay
  have h6 := u_store hfc hkC hkind hlay hi (hty j hk) hn hfit
  refine W.putK F.1 F.2.1 (f := f) ⟨F.2.2.2.1, hts _ hl, ⟨_, _, _, hi'⟩, hst⟩ (by rw [q2]; exact h6) q1 q3 (by rw [hsl]; exact k2_hasslot (q4 j hk)) rfl rfl hd fun H1 e1 e2 e3 => ?_
  rw [hsl] at e1 ⊢
  exact kk H1 _ la (hR.set ht ⟨_, hc, t_OB.to (V := updV (vp_V fs) j v) ⟨_, e1, q2, q3, t_set q4 hap hk v⟩ (fun i _ => vp_updV_set hlen v i)⟩ e3) (hS.put e2 e3 (hR.1 t _ ht).2) hL (hE.tr xExt.up)
theorem x_putF (F : xF p s m args meth c G ad0 h0 own cc nL r nm) {ci j idx : Nat} {t : Tg} {fs : List Value} {v : Value} {q : Nat} (hd : decode cc pc = .ok (.putfield idx, 3)) (hp : pc + 3 = q) (hs : xFS own idx ci j true) (hi2 : nm = "<init>") (ho0 : (xcl[ci]?).map (fun r => r.1) = some own) (ht : h t = some (.inr (ci, fs))) (hlen : j < fs.length) (hn : narrow (xty ci j) v = v) (hfit : fits (xty ci j) v = true) (kk : xX p l e R s m args below meth c G ad0 h0 nL Z q ls st ad (xup h t (.inr (ci, fs.set j v))) k n) : xX p l e R s m args below meth c G ad0 h0 nL Z pc ls (v :: .ref (ad t) :: st) ad h k n := by
  subst hp
  obtain ⟨C, T, N, hc, hk, hl, hfin⟩ := hs
  obtain ⟨hin, hty, hnm, hC⟩ := xcls_ok hc
  intro H locs la hR hS hL hE
  have hts := F.2.2.2.2.1
  have hK := F.2.2.2.2.2.2.1.1
  have hap := va_apart (own := own) hts hin (xty ci) hty hnm hK hc
  obtain ⟨r0, h1, cell, q1, q2, q3, q4⟩ := (hR.1 t _ ht).1
  have hr : r0 = (C, T, N) := Option.some.inj (h1.symm.trans hc)
  subst hr
  obtain ⟨hSl, hfc, kC, hkC, hkind⟩ := hK.1 ci _ hc
  obtain ⟨cf, kf, fi, f, hi, hsl⟩ := hSl j hk
  have hlay := hts _ (hin _ (u_in_lay hk))
  unfold u_lay at hlay
  have hst := (u_facts hfc hkC (u_lays hts hin hk) hi).1
  have hi' : s.fieldFound? C (T j).2.1 (T j).2.2.1 = some (cf, kf, fi, f) := by rw [hC j hk] at hi; exact hi
  rw [if_pos hfin] at hlay
  have ho : C = own := by rw [hc] at ho0; exact Option.some.inj ho0
  have hcf : m.cls = cf := by
    obtain ⟨_, _, c', _, _, _, -, -, hf', -, -, -, hown2, -⟩ := Cond.laysFinal_spec hlay
    have e1 : c' = cf := by have := hi.symm.trans hf'; simp at this; exact this.1.symm
    rw [hC j hk, ho] at hown2
    rw [← e1]; exact Option.some.inj (F.2.2.2.1.symm.trans hown2)
  have h6 := u_fits hfc hkC hkind (Or.inr hlay) hi (hty j hk) hn hfit
  refine W.putFinK F.1 F.2.1 F.2.2.2.1 (hts _ hl) hi' hst hcf (F.2.2.2.2.2.2.2.2.1.trans hi2) (by rw [q2]; exact h6) q1 q3 (by rw [hsl]; exact k2_hasslot (q4 j hk)) rfl rfl hd fun H1 e1 e2 e3 => ?_
  rw [hsl] at e1 ⊢
  exact kk H1 _ la (hR.set ht ⟨_, hc, t_OB.to (V := updV (vp_V fs) j v) ⟨_, e1, q2, q3, t_set q4 hap hk v⟩ (fun i _ => vp_updV_set hlen v i)⟩ e3) (hS.put e2 e3 (hR.1 t _ ht).2) hL (hE.tr xExt.up)
theorem x_putN (F : xF p s m args meth c G ad0 h0 own cc nL r nm) {ci j idx : Nat} {t : Tg} {fs : List Value} {v : Value} {q : Nat} (hd : decode cc pc = .ok (.putfield idx, 3)) (hp : pc + 3 = q) (hs : xFSN own idx ci j false) (ht : h t = some (.inr (ci, fs))) (hlen : j < fs.length) (hn : narrow (xty ci j) v = v) (hfit : fits (xty ci j) v = true) (kk : xX p l e R s m args below meth c G ad0 h0 nL Z q ls st ad (xup h t (.inr (ci, fs.set j v))) k n) : xX p l e R s m args below meth c G ad0 h0 nL Z pc ls (v :: .ref (ad t) :: st) ad h k n := by
  subst hp
  obtain ⟨C, T, N, host, hc, hk, hl, hfin⟩ := hs
  obtain ⟨hin, hty, hnm, hC⟩ := xcls_ok hc
  intro H locs la hR hS hL hE
  have hts := F.2.2.2.2.1
  have hK := F.2.2.2.2.2.2.1.1
  have hap := va_apart (own := own) hts hin (xty ci) hty hnm hK hc
  obtain ⟨r0, h1, cell, q1, q2, q3, q4⟩ := (hR.1 t _ ht).1
  have hr : r0 = (C, T, N) := Option.some.inj (h1.symm.trans hc)
  subst hr
  obtain ⟨hSl, hfc, kC, hkC, hkind⟩ := hK.1 ci _ hc
  obtain ⟨cf, kf, fi, f, hi, hsl⟩ := hSl j hk
  have hlay := hts _ (hin _ (u_in_lay hk))
  unfold u_lay at hlay
  have hst := (u_facts hfc hkC (u_lays hts hin hk) hi).1
  have hi' : s.fieldFound? C (T j).2.1 (T j).2.2.1 = some (cf, kf, fi, f) := by rw [hC j hk] at hi; exact hi
  rw [if_neg (by rw [hfin]; decide)] at hlay
  have h6 := u_store hfc hkC hkind hlay hi (hty j hk) hn hfit
  refine va_WputK F.1 F.2.1 (f := f) F.2.2.2.1 (va_Nw.use (by rfl) (F.2.2.2.2.2.2.1.2.1 _ hl)) hi' hst (by rw [q2]; exact h6) q1 q3 (by rw [hsl]; exact k2_hasslot (q4 j hk)) rfl rfl hd fun H1 e1 e2 e3 => ?_
  rw [hsl] at e1 ⊢
  exact kk H1 _ la (hR.set ht ⟨_, hc, t_OB.to (V := updV (vp_V fs) j v) ⟨_, e1, q2, q3, t_set q4 hap hk v⟩ (fun i _ => vp_updV_set hlen v i)⟩ e3) (hS.put e2 e3 (hR.1 t _ ht).2) hL (hE.tr xExt.up)
theorem x_ix {j N : Nat} (hj : j < N) (hN : N < 2 ^ 31) : (nI j).toNatClampNeg = j := nI_clamp (by omega)
theorem x_iald (F : xF p s m args meth c G ad0 h0 own cc nL r nm) {t : Tg} {N j : Nat} {x : Int32} {f : Nat → Int32} {q : Nat} (hd : decode cc pc = .ok (.iaload, 1)) (hp : pc + 1 = q) (ht : h t = some (.inl (0, N, .inl f))) (hx : x = nI j) (hj : j < N) (hN : N < 2 ^ 31) (kk : xX p l e R s m args below meth c G ad0 h0 nL Z q ls (.int (f j) :: st) ad h k n) : xX p l e R s m args below meth c G ad0 h0 nL Z pc ls (.int x :: .ref (ad t) :: st) ad h k n := by
  subst hp; subst hx
  intro H locs la hR hS hL hE
  refine va_iald F.1 F.2.1 F.2.2.2.2.2.2.1.1 (hR.one ht) 0 0 rfl rfl (vp_in_nI hj hN) hd ?_
  rw [x_ix hj hN]
  exact kk H locs la hR hS hL hE
theorem x_bald (F : xF p s m args meth c G ad0 h0 own cc nL r nm) {t : Tg} {N j : Nat} {x : Int32} {f : Nat → Int32} {q : Nat} (hd : decode cc pc = .ok (.baload, 1)) (hp : pc + 1 = q) (ht : h t = some (.inl (1, N, .inl f))) (hx : x = nI j) (hj : j < N) (hN : N < 2 ^ 31) (kk : xX p l e R s m args below meth c G ad0 h0 nL Z q ls (.int (f j) :: st) ad h k n) : xX p l e R s m args below meth c G ad0 h0 nL Z pc ls (.int x :: .ref (ad t) :: st) ad h k n := by
  subst hp; subst hx
  intro H locs la hR hS hL hE
  refine va_bald F.1 F.2.1 F.2.2.2.2.2.2.1.1 (hR.one ht) 0 1 rfl rfl (vp_in_nI hj hN) hd ?_
  rw [x_ix hj hN]
  exact kk H locs la hR hS hL hE
theorem x_zald (F : xF p s m args meth c G ad0 h0 own cc nL r nm) {t : Tg} {N j : Nat} {x : Int32} {f : Nat → Int32} {q : Nat} (hd : decode cc pc = .ok (.baload, 1)) (hp : pc + 1 = q) (ht : h t = some (.inl (2, N, .inl f))) (hx : x = nI j) (hj : j < N) (hN : N < 2 ^ 31) (kk : xX p l e R s m args below meth c G ad0 h0 nL Z q ls (.int (f j) :: st) ad h k n) : xX p l e R s m args below meth c G ad0 h0 nL Z pc ls (.int x :: .ref (ad t) :: st) ad h k n := by
  subst hp; subst hx
  intro H locs la hR hS hL hE
  refine va_zald F.1 F.2.1 F.2.2.2.2.2.2.1.1 (hR.one ht) 0 2 rfl rfl (vp_in_nI hj hN) hd ?_
  rw [x_ix hj hN]
  exact kk H locs la hR hS hL hE
theorem x_lald (F : xF p s m args meth c G ad0 h0 own cc nL r nm) {t : Tg} {N j : Nat} {x : Int32} {f : Nat → Int64} {q : Nat} (hd : decode cc pc = .ok (.laload, 1)) (hp : pc + 1 = q) (ht : h t = some (.inl (3, N, .inr (.inl f)))) (hx : x = nI j) (hj : j < N) (hN : N < 2 ^ 31) (kk : xX p l e R s m args below meth c G ad0 h0 nL Z q ls (.long (f j) :: st) ad h k n) : xX p l e R s m args below meth c G ad0 h0 nL Z pc ls (.int x :: .ref (ad t) :: st) ad h k n := by
  subst hp; subst hx
  intro H locs la hR hS hL hE
  refine va_lald F.1 F.2.1 F.2.2.2.2.2.2.1.1 (hR.one ht) 0 3 rfl rfl (vp_in_nI hj hN) hd ?_
  rw [x_ix hj hN]
  exact kk H locs la hR hS hL hE
theorem x_aald4 (F : xF p s m args meth c G ad0 h0 own cc nL r nm) {t : Tg} {N j : Nat} {x : Int32} {f : Nat → Option Nat} {q : Nat} (hd : decode cc pc = .ok (.aaload, 1)) (hp : pc + 1 = q) (ht : h t = some (.inl (4, N, .inr (.inr (.inr (.inr f)))))) (hx : x = nI j) (hj : j < N) (hN : N < 2 ^ 31) (kk : xX p l e R s m args below meth c G ad0 h0 nL Z q ls (va_rf (f j) :: st) ad h k n) : xX p l e R s m args below meth c G ad0 h0 nL Z pc ls (.int x :: .ref (ad t) :: st) ad h k n := by
  subst hp; subst hx
  intro H locs la hR hS hL hE
  refine va_aldq F.1 F.2.1 F.2.2.2.2.2.2.1.1 (hR.one ht) 0 4 rfl rfl (vp_in_nI hj hN) hd ?_
  rw [x_ix hj hN]
  exact kk H locs la hR hS hL hE
theorem x_aald5 (F : xF p s m args meth c G ad0 h0 own cc nL r nm) {t : Tg} {N j : Nat} {x : Int32} {f : Nat → Option Nat} {q : Nat} (hd : decode cc pc = .ok (.aaload, 1)) (hp : pc + 1 = q) (ht : h t = some (.inl (5, N, .inr (.inr (.inr (.inr f)))))) (hx : x = nI j) (hj : j < N) (hN : N < 2 ^ 31) (kk : xX p l e R s m args below meth c G ad0 h0 nL Z q ls (va_rf (f j) :: st) ad h k n) : xX p l e R s m args below meth c G ad0 h0 nL Z pc ls (.int x :: .ref (ad t) :: st) ad h k n := by
  subst hp; subst hx
  intro H locs la hR hS hL hE
  refine va_aldq F.1 F.2.1 F.2.2.2.2.2.2.1.1 (hR.one ht) 0 5 rfl rfl (vp_in_nI hj hN) hd ?_
  rw [x_ix hj hN]
  exact kk H locs la hR hS hL hE
theorem x_alen (F : xF p s m args meth c G ad0 h0 own cc nL r nm) {t : Tg} {ti : Nat} {a : vp_A} {q : Nat} (hd : decode cc pc = .ok (.arraylength, 1)) (hp : pc + 1 = q) (ht : h t = some (.inl (ti, a))) (hti : ti < 6) (kk : xX p l e R s m args below meth c G ad0 h0 nL Z q ls (.int (nI a.1) :: st) ad h k n) : xX p l e R s m args below meth c G ad0 h0 nL Z pc ls (.ref (ad t) :: st) ad h k n := by
  subst hp
  intro H locs la hR hS hL hE
  have hy : ∃ ty, (xtys G.2.1)[ti]? = some (G.2.1 ti, ty) := by
    rcases (show ti = 0 ∨ ti = 1 ∨ ti = 2 ∨ ti = 3 ∨ ti = 4 ∨ ti = 5 by omega) with rfl | rfl | rfl | rfl | rfl | rfl <;> exact ⟨_, rfl⟩
  obtain ⟨ty, hy⟩ := hy
  exact va_alen F.1 F.2.1 F.2.2.2.2.2.2.1.1 (hR.one ht) 0 ti rfl hy rfl hd (kk H locs la hR hS hL hE)
theorem x_iast (F : xF p s m args meth c G ad0 h0 own cc nL r nm) {t : Tg} {N j : Nat} {x : Int32} {v : Int32} {f : Nat → Int32} {q : Nat} (hd : decode cc pc = .ok (.iastore, 1)) (hp : pc + 1 = q) (ht : h t = some (.inl (0, N, .inl f))) (hx : x = nI j) (hj : j < N) (hN : N < 2 ^ 31) (kk : xX p l e R s m args below meth c G ad0 h0 nL Z q ls st ad (xup h t (.inl (0, N, .inl (upd f j v)))) k n) : xX p l e R s m args below meth c G ad0 h0 nL Z pc ls (.int v :: .int x :: .ref (ad t) :: st) ad h k n := by
  subst hp; subst hx
  intro H locs la hR hS hL hE
  have hat := (hR.1 t _ ht).1
  refine W.iast F.1 F.2.1 hat ((F.2.2.2.2.2.2.1.1.2 0 _ rfl).1 N (fun i => .int (f i))) (fun q => by cases q) (by show ¬ (nI j < 0 ∨ (arrV _ _ _).slots.size ≤ _); rw [arrV_size]; exact vp_in_nI hj hN) rfl rfl hd fun H1 e1 z oq => ?_
  refine kk H1 _ la (hR.set ht ?_ oq) (hS.put z oq (hR.1 t _ ht).2) hL (hE.tr xExt.up)
  show H1[ad t]? = some (vp_cell _ _)
  rw [e1, x_ix hj hN]
  show some ((vp_cell _ (N, .inl f)).setSlot _ _) = _
  rw [vp_cell_i, vp_cell_i, arrV_store]
  congr 2
  funext i
  by_cases hq : i = j
  · subst hq
    simp [updV, upd]
  · simp [updV, upd, hq]
theorem x_bast (F : xF p s m args meth c G ad0 h0 own cc nL r nm) {t : Tg} {N j : Nat} {x : Int32} {v : Int32} {f : Nat → Int32} {q : Nat} (hd : decode cc pc = .ok (.bastore, 1)) (hp : pc + 1 = q) (ht : h t = some (.inl (1, N, .inl f))) (hx : x = nI j) (hj : j < N) (hN : N < 2 ^ 31) (kk : xX p l e R s m args below meth c G ad0 h0 nL Z q ls st ad (xup h t (.inl (1, N, .inl (upd f j (vp_nar .byte v))))) k n) : xX p l e R s m args below meth c G ad0 h0 nL Z pc ls (.int v :: .int x :: .ref (ad t) :: st) ad h k n := by
  subst hp; subst hx
  intro H locs la hR hS hL hE
  have hat := (hR.1 t _ ht).1
  refine W.bast F.1 F.2.1 hat ((F.2.2.2.2.2.2.1.1.2 1 _ rfl).1 N (fun i => .int (f i))) (fun q => by cases q) (by show ¬ (nI j < 0 ∨ (arrV _ _ _).slots.size ≤ _); rw [arrV_size]; exact vp_in_nI hj hN) rfl rfl hd fun H1 e1 z oq => ?_
  refine kk H1 _ la (hR.set ht ?_ oq) (hS.put z oq (hR.1 t _ ht).2) hL (hE.tr xExt.up)
  show H1[ad t]? = some (vp_cell _ _)
  rw [e1, x_ix hj hN]
  show some ((vp_cell _ (N, .inl f)).setSlot _ _) = _
  rw [vp_cell_i, vp_cell_i, arrV_store]
  congr 2
  funext i
  by_cases hq : i = j
  · subst hq
    (simp [updV, upd, vp_nar]; try rfl)
  · simp [updV, upd, hq]
theorem x_zast (F : xF p s m args meth c G ad0 h0 own cc nL r nm) {t : Tg} {N j : Nat} {x : Int32} {v : Int32} {f : Nat → Int32} {q : Nat} (hd : decode cc pc = .ok (.bastore, 1)) (hp : pc + 1 = q) (ht : h t = some (.inl (2, N, .inl f))) (hx : x = nI j) (hj : j < N) (hN : N < 2 ^ 31) (kk : xX p l e R s m args below meth c G ad0 h0 nL Z q ls st ad (xup h t (.inl (2, N, .inl (upd f j (vp_nar .boolean v))))) k n) : xX p l e R s m args below meth c G ad0 h0 nL Z pc ls (.int v :: .int x :: .ref (ad t) :: st) ad h k n := by
  subst hp; subst hx
  intro H locs la hR hS hL hE
  have hat := (hR.1 t _ ht).1
  refine W.zast F.1 F.2.1 hat ((F.2.2.2.2.2.2.1.1.2 2 _ rfl).1 N (fun i => .int (f i))) (fun q => by cases q) (by show ¬ (nI j < 0 ∨ (arrV _ _ _).slots.size ≤ _); rw [arrV_size]; exact vp_in_nI hj hN) rfl rfl hd fun H1 e1 z oq => ?_
  refine kk H1 _ la (hR.set ht ?_ oq) (hS.put z oq (hR.1 t _ ht).2) hL (hE.tr xExt.up)
  show H1[ad t]? = some (vp_cell _ _)
  rw [e1, x_ix hj hN]
  show some ((vp_cell _ (N, .inl f)).setSlot _ _) = _
  rw [vp_cell_i, vp_cell_i, arrV_store]
  congr 2
  funext i
  by_cases hq : i = j
  · subst hq
    (simp [updV, upd, vp_nar]; try rfl)
  · simp [updV, upd, hq]
theorem x_last (F : xF p s m args meth c G ad0 h0 own cc nL r nm) {t : Tg} {N j : Nat} {x : Int32} {v : Int64} {f : Nat → Int64} {q : Nat} (hd : decode cc pc = .ok (.lastore, 1)) (hp : pc + 1 = q) (ht : h t = some (.inl (3, N, .inr (.inl f)))) (hx : x = nI j) (hj : j < N) (hN : N < 2 ^ 31) (kk : xX p l e R s m args below meth c G ad0 h0 nL Z q ls st ad (xup h t (.inl (3, N, .inr (.inl (vp_updL f j v))))) k n) : xX p l e R s m args below meth c G ad0 h0 nL Z pc ls (.long v :: .int x :: .ref (ad t) :: st) ad h k n := by
  subst hp; subst hx
  intro H locs la hR hS hL hE
  have hat := (hR.1 t _ ht).1
  refine W.last F.1 F.2.1 hat ((F.2.2.2.2.2.2.1.1.2 3 _ rfl).1 N (fun i => .long (f i))) (fun q => by cases q) (by show ¬ (nI j < 0 ∨ (arrV _ _ _).slots.size ≤ _); rw [arrV_size]; exact vp_in_nI hj hN) rfl rfl hd fun H1 e1 z oq => ?_
  refine kk H1 _ la (hR.set ht ?_ oq) (hS.put z oq (hR.1 t _ ht).2) hL (hE.tr xExt.up)
  show H1[ad t]? = some (vp_cell _ _)
  rw [e1, x_ix hj hN]
  show some ((vp_cell _ (N, .inr (.inl f))).setSlot _ _) = _
  rw [vp_cell_l, vp_cell_l, arrV_store]
  congr 2
  funext i
  by_cases hq : i = j
  · subst hq
    simp [updV, vp_updL]
  · simp [updV, vp_updL, hq]
theorem x_aast4 (F : xF p s m args meth c G ad0 h0 own cc nL r nm) {t u : Tg} {N j : Nat} {x : Int32} {vs : List Value} {f : Nat → Option Nat} {q : Nat} (hd : decode cc pc = .ok (.aastore, 1)) (hp : pc + 1 = q) (ht : h t = some (.inl (4, N, .inr (.inr (.inr (.inr f)))))) (hu : h u = some (.inr (4, vs))) (hx : x = nI j) (hj : j < N) (hN : N < 2 ^ 31) (kk : xX p l e R s m args below meth c G ad0 h0 nL Z q ls st ad (xup h t (.inl (4, N, .inr (.inr (.inr (.inr (va_up f j (some (ad u))))))))) k n) : xX p l e R s m args below meth c G ad0 h0 nL Z pc ls (.ref (ad u) :: .int x :: .ref (ad t) :: st) ad h k n := by
  subst hp; subst hx
  intro H locs la hR hS hL hE
  have hat := (hR.1 t _ ht).1
  have hK := F.2.2.2.2.2.2.1.1
  obtain ⟨r', hr', cellV, g1, g2, g3, -⟩ := (hR.1 u _ hu).1
  have hcls := (hK.1 4 _ rfl).2
  obtain ⟨kA, comp, k1, k2, k3, -⟩ := (hK.2 4 _ rfl).2
  have hcomp : comp = G.1.1 4 := Option.some.inj (k3.symm.trans hcls.1)
  subst hcomp
  obtain ⟨kC, hkC, -⟩ := hcls.2
  have hin := vp_in_nI hj hN
  refine W.aast F.1 F.2.1 hat (fun q h => by cases h) (fun h => by cases h) k1 k2 rfl hkC ⟨fun q => hin (Or.inl q), by show _ < (arrV _ _ _).slots.size; rw [arrV_size]; exact Nat.not_le.mp fun q => hin (Or.inr q)⟩ g1 (fun q h => by rw [g3] at h; cases h) (by rw [g2]; exact hkC) (by rw [g2]; exact va_assign hcls) rfl rfl hd fun H1 e1 z oq => ?_
  refine kk H1 _ la (hR.set ht ?_ oq) (hS.put z oq (hR.1 t _ ht).2) hL (hE.tr xExt.up)
  show H1[ad t]? = some (vp_cell _ _)
  rw [e1, x_ix hj hN]
  show some ((vp_cell _ (N, .inr (.inr (.inr (.inr f))))).setSlot _ _) = _
  rw [vp_cell_q, vp_cell_q, arrV_store]
  congr 2
  funext i
  by_cases hq : i = j
  · subst hq
    simp [updV, va_up, va_rf]
  · simp [updV, va_up, hq]
theorem x_aast5 (F : xF p s m args meth c G ad0 h0 own cc nL r nm) {t u : Tg} {N j : Nat} {x : Int32} {vs : List Value} {f : Nat → Option Nat} {q : Nat} (hd : decode cc pc = .ok (.aastore, 1)) (hp : pc + 1 = q) (ht : h t = some (.inl (5, N, .inr (.inr (.inr (.inr f)))))) (hu : h u = some (.inr (2, vs))) (hx : x = nI j) (hj : j < N) (hN : N < 2 ^ 31) (kk : xX p l e R s m args below meth c G ad0 h0 nL Z q ls st ad (xup h t (.inl (5, N, .inr (.inr (.inr (.inr (va_up f j (some (ad u))))))))) k n) : xX p l e R s m args below meth c G ad0 h0 nL Z pc ls (.ref (ad u) :: .int x :: .ref (ad t) :: st) ad h k n := by
  subst hp; subst hx
  intro H locs la hR hS hL hE
  have hat := (hR.1 t _ ht).1
  have hK := F.2.2.2.2.2.2.1.1
  obtain ⟨r', hr', cellV, g1, g2, g3, -⟩ := (hR.1 u _ hu).1
  have hcls := (hK.1 2 _ rfl).2
  obtain ⟨kA, comp, k1, k2, k3, -⟩ := (hK.2 5 _ rfl).2
  have hcomp : comp = G.1.1 2 := Option.some.inj (k3.symm.trans hcls.1)
  subst hcomp
  obtain ⟨kC, hkC, -⟩ := hcls.2
  have hin := vp_in_nI hj hN
  refine W.aast F.1 F.2.1 hat (fun q h => by cases h) (fun h => by cases h) k1 k2 rfl hkC ⟨fun q => hin (Or.inl q), by show _ < (arrV _ _ _).slots.size; rw [arrV_size]; exact Nat.not_le.mp fun q => hin (Or.inr q)⟩ g1 (fun q h => by rw [g3] at h; cases h) (by rw [g2]; exact hkC) (by rw [g2]; exact va_assign hcls) rfl rfl hd fun H1 e1 z oq => ?_
  refine kk H1 _ la (hR.set ht ?_ oq) (hS.put z oq (hR.1 t _ ht).2) hL (hE.tr xExt.up)
  show H1[ad t]? = some (vp_cell _ _)
  rw [e1, x_ix hj hN]
  show some ((vp_cell _ (N, .inr (.inr (.inr (.inr f))))).setSlot _ _) = _
  rw [vp_cell_q, vp_cell_q, arrV_store]
  congr 2
  funext i
  by_cases hq : i = j
  · subst hq
    simp [updV, va_up, va_rf]
  · simp [updV, va_up, hq]
theorem x_A {H : Heap} {locs : List Loc} (hS : va_S (xFr ad0 h0 s.heap.size) s.heap H locs) : xFr ad0 h0 s.heap.size H.size := Or.inr hS.1
theorem x_Snew {A : Nat → Prop} {H0 H H1 : Heap} {locs : List Loc} (hS : va_S A H0 H locs) (z : H1.size = H.size + 1) (o1 : ∀ q, q < H.size → H1[q]? = H[q]?) : va_S A H0 H1 locs := ⟨Nat.le_trans hS.1 (by omega), fun x h1 h2 => (o1 x (Nat.lt_of_lt_of_le h1 hS.1)).trans (hS.2.1 x h1 h2), hS.2.2⟩
theorem x_new (F : xF p s m args meth c G ad0 h0 own cc nL r nm) (t : Tg) {ci N idx : Nat} {C : String} {T : u_T} (fs : List Value) {q : Nat} (hd : decode cc pc = .ok (.new idx, 3)) (hp : pc + 3 = q) (hc : xcl[ci]? = some (C, T, N)) (hw : Cond.classLink own idx C ∈ xwd ∧ Cond.instantiable C N ∈ xwd ∧ Cond.initialized C ∈ xwd) (ht : h t = none) (hfs : ∀ j, j < N → defaultValue (xty ci j) = vp_V fs j) (h1 : k + 1 ≤ R.cells) (h2 : n + N ≤ R.slots)
    (kk : ∀ ad' : xAd, (∀ u, u ≠ t → ad' u = ad u) → xX p l e R s m args below meth c G ad0 h0 nL Z q ls (.ref (ad' t) :: st) ad' (xup h t (.inr (ci, fs))) (k + 1) (n + N)) : xX p l e R s m args below meth c G ad0 h0 nL Z pc ls st ad h k n := by
  subst hp
  obtain ⟨hin, hty, -, -⟩ := xcls_ok hc
  intro H locs la hR hS hL hE
  have hts := F.2.2.2.2.1
  have hKn := F.2.2.2.2.2.2.1.1.1 ci _ hc
  refine W.newcK F.1 F.2.1 F.2.2.2.1 (hts _ hw.1) (hts _ hw.2.1) (hts _ hw.2.2) rfl hd h1 h2 hKn.2.1 rfl fun H1 kC hkC e1 z1 o1 => ?_
  have hR' := hR.new (e := .inr (ci, fs)) ht ⟨_, hc, (u_born (xty ci) hts hin hKn hkC e1 hty).to hfs⟩ o1 (x_A hS)
  have hX := kk (aup ad t H.size) (fun u hu => aup_ne _ _ hu) H1 locs la hR' (x_Snew hS z1 o1) hL (hE.tr (xExt.new ht))
  rw [aup_self] at hX
  exact hX
theorem x_newaI (F : xF p s m args meth c G ad0 h0 own cc nL r nm) (t : Tg) {N : Nat} {x : Int32} {q : Nat} (hd : decode cc pc = .ok (.newarray .int, 2)) (hp : pc + 2 = q) (hw : Cond.arrayClass .int ∈ xwd) (hx : x = nI N) (hN : N ≤ 1000000) (ht : h t = none) (h1 : k + 1 ≤ R.cells) (h2 : n + N ≤ R.slots)
    (kk : ∀ ad' : xAd, (∀ u, u ≠ t → ad' u = ad u) → xX p l e R s m args below meth c G ad0 h0 nL Z q ls (.ref (ad' t) :: st) ad' (xup h t (.inl (0, N, .inl (fun _ => 0)))) (k + 1) (n + N)) : xX p l e R s m args below meth c G ad0 h0 nL Z pc ls (.int x :: st) ad h k n := by
  subst hp; subst hx
  intro H locs la hR hS hL hE
  have hts := F.2.2.2.2.1
  have hN2 : N < 2 ^ 31 := by omega
  refine va_newaK (atype := .int) F.1 F.2.1 (hts _ hw) rfl hd rfl (nI_pos hN2) (nI_clamp hN2) (by show N * componentBytes .int ≤ _; simp [componentBytes]; omega) h1 h2 rfl fun H1 cA e1 z1 o1 hAr hNm => ?_
  have hcA : cA = G.2.1 0 := Option.some.inj (hNm.symm.trans (F.2.2.2.2.2.2.1.1.2 0 _ rfl).2)
  subst hcA
  have hR' := hR.new (e := .inl (0, N, .inl (fun _ => 0))) ht (show H1[H.size]? = some (vp_cell _ _) by rw [e1]; rfl) o1 (x_A hS)
  have hX := kk (aup ad t H.size) (fun u hu => aup_ne _ _ hu) H1 locs la hR' (x_Snew hS z1 o1) hL (hE.tr (xExt.new ht))
  rw [aup_self] at hX
  exact hX
theorem x_newaB (F : xF p s m args meth c G ad0 h0 own cc nL r nm) (t : Tg) {N : Nat} {x : Int32} {q : Nat} (hd : decode cc pc = .ok (.newarray .byte, 2)) (hp : pc + 2 = q) (hw : Cond.arrayClass .byte ∈ xwd) (hx : x = nI N) (hN : N ≤ 1000000) (ht : h t = none) (h1 : k + 1 ≤ R.cells) (h2 : n + N ≤ R.slots)
    (kk : ∀ ad' : xAd, (∀ u, u ≠ t → ad' u = ad u) → xX p l e R s m args below meth c G ad0 h0 nL Z q ls (.ref (ad' t) :: st) ad' (xup h t (.inl (1, N, .inl (fun _ => 0)))) (k + 1) (n + N)) : xX p l e R s m args below meth c G ad0 h0 nL Z pc ls (.int x :: st) ad h k n := by
  subst hp; subst hx
  intro H locs la hR hS hL hE
  have hts := F.2.2.2.2.1
  have hN2 : N < 2 ^ 31 := by omega
  refine va_newaK (atype := .byte) F.1 F.2.1 (hts _ hw) rfl hd rfl (nI_pos hN2) (nI_clamp hN2) (by show N * componentBytes .byte ≤ _; simp [componentBytes]; omega) h1 h2 rfl fun H1 cA e1 z1 o1 hAr hNm => ?_
  have hcA : cA = G.2.1 1 := Option.some.inj (hNm.symm.trans (F.2.2.2.2.2.2.1.1.2 1 _ rfl).2)
  subst hcA
  have hR' := hR.new (e := .inl (1, N, .inl (fun _ => 0))) ht (show H1[H.size]? = some (vp_cell _ _) by rw [e1]; rfl) o1 (x_A hS)
  have hX := kk (aup ad t H.size) (fun u hu => aup_ne _ _ hu) H1 locs la hR' (x_Snew hS z1 o1) hL (hE.tr (xExt.new ht))
  rw [aup_self] at hX
  exact hX
theorem x_newaZ (F : xF p s m args meth c G ad0 h0 own cc nL r nm) (t : Tg) {N : Nat} {x : Int32} {q : Nat} (hd : decode cc pc = .ok (.newarray .boolean, 2)) (hp : pc + 2 = q) (hw : Cond.arrayClass .boolean ∈ xwd) (hx : x = nI N) (hN : N ≤ 1000000) (ht : h t = none) (h1 : k + 1 ≤ R.cells) (h2 : n + N ≤ R.slots)
    (kk : ∀ ad' : xAd, (∀ u, u ≠ t → ad' u = ad u) → xX p l e R s m args below meth c G ad0 h0 nL Z q ls (.ref (ad' t) :: st) ad' (xup h t (.inl (2, N, .inl (fun _ => 0)))) (k + 1) (n + N)) : xX p l e R s m args below meth c G ad0 h0 nL Z pc ls (.int x :: st) ad h k n := by
  subst hp; subst hx
  intro H locs la hR hS hL hE
  have hts := F.2.2.2.2.1
  have hN2 : N < 2 ^ 31 := by omega
  refine va_newaK (atype := .boolean) F.1 F.2.1 (hts _ hw) rfl hd rfl (nI_pos hN2) (nI_clamp hN2) (by show N * componentBytes .boolean ≤ _; simp [componentBytes]; omega) h1 h2 rfl fun H1 cA e1 z1 o1 hAr hNm => ?_
  have hcA : cA = G.2.1 2 := Option.some.inj (hNm.symm.trans (F.2.2.2.2.2.2.1.1.2 2 _ rfl).2)
  subst hcA
  have hR' := hR.new (e := .inl (2, N, .inl (fun _ => 0))) ht (show H1[H.size]? = some (vp_cell _ _) by rw [e1]; rfl) o1 (x_A hS)
  have hX := kk (aup ad t H.size) (fun u hu => aup_ne _ _ hu) H1 locs la hR' (x_Snew hS z1 o1) hL (hE.tr (xExt.new ht))
  rw [aup_self] at hX
  exact hX
theorem x_newaJ (F : xF p s m args meth c G ad0 h0 own cc nL r nm) (t : Tg) {N : Nat} {x : Int32} {q : Nat} (hd : decode cc pc = .ok (.newarray .long, 2)) (hp : pc + 2 = q) (hw : Cond.arrayClass .long ∈ xwd) (hx : x = nI N) (hN : N ≤ 1000000) (ht : h t = none) (h1 : k + 1 ≤ R.cells) (h2 : n + N ≤ R.slots)
    (kk : ∀ ad' : xAd, (∀ u, u ≠ t → ad' u = ad u) → xX p l e R s m args below meth c G ad0 h0 nL Z q ls (.ref (ad' t) :: st) ad' (xup h t (.inl (3, N, .inr (.inl (fun _ => 0))))) (k + 1) (n + N)) : xX p l e R s m args below meth c G ad0 h0 nL Z pc ls (.int x :: st) ad h k n := by
  subst hp; subst hx
  intro H locs la hR hS hL hE
  have hts := F.2.2.2.2.1
  have hN2 : N < 2 ^ 31 := by omega
  refine va_newaK (atype := .long) F.1 F.2.1 (hts _ hw) rfl hd rfl (nI_pos hN2) (nI_clamp hN2) (by show N * componentBytes .long ≤ _; simp [componentBytes]; omega) h1 h2 rfl fun H1 cA e1 z1 o1 hAr hNm => ?_
  have hcA : cA = G.2.1 3 := Option.some.inj (hNm.symm.trans (F.2.2.2.2.2.2.1.1.2 3 _ rfl).2)
  subst hcA
  have hR' := hR.new (e := .inl (3, N, .inr (.inl (fun _ => 0)))) ht (show H1[H.size]? = some (vp_cell _ _) by rw [e1]; rfl) o1 (x_A hS)
  have hX := kk (aup ad t H.size) (fun u hu => aup_ne _ _ hu) H1 locs la hR' (x_Snew hS z1 o1) hL (hE.tr (xExt.new ht))
  rw [aup_self] at hX
  exact hX
theorem x_newq4 (F : xF p s m args meth c G ad0 h0 own cc nL r nm) (t : Tg) {N idx : Nat} {x : Int32} {q : Nat} (hd : decode cc pc = .ok (.anewarray idx, 3)) (hp : pc + 3 = q) (hw : Cond.classLink own idx RX4 ∈ xwd) (hx : x = nI N) (hN : N ≤ 1000000) (ht : h t = none) (h1 : k + 1 ≤ R.cells) (h2 : n + N ≤ R.slots)
    (kk : ∀ ad' : xAd, (∀ u, u ≠ t → ad' u = ad u) → xX p l e R s m args below meth c G ad0 h0 nL Z q ls (.ref (ad' t) :: st) ad' (xup h t (.inl (4, N, .inr (.inr (.inr (.inr (fun _ => none))))))) (k + 1) (n + N)) : xX p l e R s m args below meth c G ad0 h0 nL Z pc ls (.int x :: st) ad h k n := by
  subst hp; subst hx
  intro H locs la hR hS hL hE
  have hts := F.2.2.2.2.1
  have hN2 : N < 2 ^ 31 := by omega
  refine W.anew F.1 F.2.1 F.2.2.2.1 (hts _ hw) (va_AO.use F.2.2.2.2.2.2.1.2.2.1) rfl hd rfl (nI_pos hN2) (by rw [nI_clamp hN2]; omega) h1 (by rw [nI_clamp hN2]; exact h2) fun cA kA comp f1 f2 f3 f4 => ?_
  rw [nI_clamp hN2]
  obtain ⟨kA', comp', _, _, _, hNm⟩ := (F.2.2.2.2.2.2.1.1.2 4 _ rfl).2
  have hcA : cA = G.2.1 4 := Option.some.inj (f1.symm.trans hNm)
  subst hcA
  generalize hH1 : H.push ({ cls := G.2.1 4, slots := Array.replicate N .null, vm := .none } : Cell) = H1
  have z1 : H1.size = H.size + 1 := by rw [← hH1, Array.size_push]
  have e1 : H1[H.size]? = some (arrV (G.2.1 4) N (fun _ => .null)) := by rw [← hH1, Array.getElem?_push_size, ← arrV_new]
  have o1 : ∀ q : Nat, q < H.size → H1[q]? = H[q]? := fun q hq => by rw [← hH1, Array.getElem?_push, if_neg (Nat.ne_of_lt hq)]
  have hR' := hR.new (e := .inl (4, N, .inr (.inr (.inr (.inr (fun _ => none)))))) ht (show H1[H.size]? = some (vp_cell _ _) by rw [e1]; rfl) o1 (x_A hS)
  have hX := kk (aup ad t H.size) (fun u hu => aup_ne _ _ hu) H1 locs la hR' (x_Snew hS z1 o1) hL (hE.tr (xExt.new ht))
  rw [aup_self] at hX
  exact hX
theorem x_newq5 (F : xF p s m args meth c G ad0 h0 own cc nL r nm) (t : Tg) {N idx : Nat} {x : Int32} {q : Nat} (hd : decode cc pc = .ok (.anewarray idx, 3)) (hp : pc + 3 = q) (hw : Cond.classLink own idx RX2 ∈ xwd) (hx : x = nI N) (hN : N ≤ 1000000) (ht : h t = none) (h1 : k + 1 ≤ R.cells) (h2 : n + N ≤ R.slots)
    (kk : ∀ ad' : xAd, (∀ u, u ≠ t → ad' u = ad u) → xX p l e R s m args below meth c G ad0 h0 nL Z q ls (.ref (ad' t) :: st) ad' (xup h t (.inl (5, N, .inr (.inr (.inr (.inr (fun _ => none))))))) (k + 1) (n + N)) : xX p l e R s m args below meth c G ad0 h0 nL Z pc ls (.int x :: st) ad h k n := by
  subst hp; subst hx
  intro H locs la hR hS hL hE
  have hts := F.2.2.2.2.1
  have hN2 : N < 2 ^ 31 := by omega
  refine W.anew F.1 F.2.1 F.2.2.2.1 (hts _ hw) (va_AO.use F.2.2.2.2.2.2.1.2.2.2) rfl hd rfl (nI_pos hN2) (by rw [nI_clamp hN2]; omega) h1 (by rw [nI_clamp hN2]; exact h2) fun cA kA comp f1 f2 f3 f4 => ?_
  rw [nI_clamp hN2]
  obtain ⟨kA', comp', _, _, _, hNm⟩ := (F.2.2.2.2.2.2.1.1.2 5 _ rfl).2
  have hcA : cA = G.2.1 5 := Option.some.inj (f1.symm.trans hNm)
  subst hcA
  generalize hH1 : H.push ({ cls := G.2.1 5, slots := Array.replicate N .null, vm := .none } : Cell) = H1
  have z1 : H1.size = H.size + 1 := by rw [← hH1, Array.size_push]
  have e1 : H1[H.size]? = some (arrV (G.2.1 5) N (fun _ => .null)) := by rw [← hH1, Array.getElem?_push_size, ← arrV_new]
  have o1 : ∀ q : Nat, q < H.size → H1[q]? = H[q]? := fun q hq => by rw [← hH1, Array.getElem?_push, if_neg (Nat.ne_of_lt hq)]
  have hR' := hR.new (e := .inl (5, N, .inr (.inr (.inr (.inr (fun _ => none)))))) ht (show H1[H.size]? = some (vp_cell _ _) by rw [e1]; rfl) o1 (x_A hS)
  have hX := kk (aup ad t H.size) (fun u hu => aup_ne _ _ hu) H1 locs la hR' (x_Snew hS z1 o1) hL (hE.tr (xExt.new ht))
  rw [aup_self] at hX
  exact hX
theorem x_iret (F : xF p s m args meth c G ad0 h0 own cc nL (some .int) nm) {Q : xPq} {v : Int32} (hd : decode cc pc = .ok (.ireturn, 1)) (h1 : k ≤ R.cells) (h2 : n ≤ R.slots) (hq : Q (some (.int v)) ad h) : xX p l e R s m args below meth c G ad0 h0 nL (xZ below G ad0 h0 Q args s R) pc ls [.int v] ad h k n := fun H locs la hR hS hL hE => W.widen h1 h2 (W.iret (hlocks := F.2.2.2.2.2.1) F.1 F.2.1 F.2.2.2.2.2.2.2.1 (fun t ht hW => ⟨⟨some (.int v), ad, h, rfl, hq, hE, by rw [ht]; exact hR⟩, hS.F ht⟩) (fun q hq => hS.2.2 q hq) hd)
theorem x_lret (F : xF p s m args meth c G ad0 h0 own cc nL (some .long) nm) {Q : xPq} {v : Int64} (hd : decode cc pc = .ok (.lreturn, 1)) (h1 : k ≤ R.cells) (h2 : n ≤ R.slots) (hq : Q (some (.long v)) ad h) : xX p l e R s m args below meth c G ad0 h0 nL (xZ below G ad0 h0 Q args s R) pc ls [.long v] ad h k n := fun H locs la hR hS hL hE => W.widen h1 h2 (W.lret (hlocks := F.2.2.2.2.2.1) F.1 F.2.1 F.2.2.2.2.2.2.2.1 (fun t ht hW => ⟨⟨some (.long v), ad, h, rfl, hq, hE, by rw [ht]; exact hR⟩, hS.F ht⟩) (fun q hq => hS.2.2 q hq) hd)
theorem x_vret (F : xF p s m args meth c G ad0 h0 own cc nL none nm) {Q : xPq}  (hd : decode cc pc = .ok (.return_, 1)) (h1 : k ≤ R.cells) (h2 : n ≤ R.slots) (hq : Q (none) ad h) : xX p l e R s m args below meth c G ad0 h0 nL (xZ below G ad0 h0 Q args s R) pc ls [] ad h k n := fun H locs la hR hS hL hE => W.widen h1 h2 (W.vret (hlocks := F.2.2.2.2.2.1) F.1 F.2.1 F.2.2.2.2.2.2.2.1 (fun t ht hW => ⟨⟨none, ad, h, rfl, hq, hE, by rw [ht]; exact hR⟩, hS.F ht⟩) (fun q hq => hS.2.2 q hq) hd)
theorem x_zret (F : xF p s m args meth c G ad0 h0 own cc nL (some .boolean) nm) {Q : xPq} {v : Int32} (hd : decode cc pc = .ok (.ireturn, 1)) (h1 : k ≤ R.cells) (h2 : n ≤ R.slots) (hv : v = 0 ∨ v = 1) (hq : Q (some (.int v)) ad h) : xX p l e R s m args below meth c G ad0 h0 nL (xZ below G ad0 h0 Q args s R) pc ls [.int v] ad h k n := fun H locs la hR hS hL hE => W.widen h1 h2 (W.zret (ty := .boolean) (hlocks := F.2.2.2.2.2.1) F.1 F.2.1 F.2.2.2.2.2.2.2.1 (by rcases hv with rfl | rfl <;> rfl) (fun t ht hW => ⟨⟨some (.int v), ad, h, rfl, hq, hE, by rw [ht]; exact hR⟩, hS.F ht⟩) (fun q hq => hS.2.2 q hq) hd)
theorem x_aret {rt : FieldType} (F : xF p s m args meth c G ad0 h0 own cc nL (some rt) nm) {Q : xPq} {v : Value} (hd : decode cc pc = .ok (.areturn, 1)) (h1 : k ≤ R.cells) (h2 : n ≤ R.slots) (hrt : (∃ n, rt = .object n) ∨ ∃ t, rt = .array t) (hv : xrefv v) (hq : Q (some v) ad h) : xX p l e R s m args below meth c G ad0 h0 nL (xZ below G ad0 h0 Q args s R) pc ls [v] ad h k n := fun H locs la hR hS hL hE => W.widen h1 h2 (W.aret (hlocks := F.2.2.2.2.2.1) F.1 F.2.1 F.2.2.2.2.2.2.2.1 hrt hv (fun t ht hW => ⟨⟨some v, ad, h, rfl, hq, hE, by rw [ht]; exact hR⟩, hS.F ht⟩) (fun q hq => hS.2.2 q hq) hd)
theorem x_frame {H : Heap} {locs : List Loc} (hR : xR G ad h (xFr ad0 h0 s.heap.size) H) (hS : va_S (xFr ad0 h0 s.heap.size) s.heap H locs) (q : Nat) (hq : xFr ad h H.size q) : xFr ad0 h0 s.heap.size q := by
  rcases hq with ⟨t, ht, rfl⟩ | hq
  · cases z : h t with
    | none => exact absurd z ht
    | some e => exact (hR.1 t e z).2
  · exact Or.inr (Nat.le_trans hS.1 hq)
theorem x_cont {H : Heap} {locs : List Loc} {la : Array Slot} {st0 rest : List Value} {mc ms : Nat} {a : Array Value} (hR : xR G ad h (xFr ad0 h0 s.heap.size) H) (hS : va_S (xFr ad0 h0 s.heap.size) s.heap H locs) (hL : xL la nL ls) (hE : xExt ad0 h0 ad h)
    (hr : va_Run p l e R s m args below meth c H locs k n mc ms (F0 m pc la st0) rest (xPost G ad h H.size (fun v ad' h' => xExt ad h ad' h' → xX p l e R s m args below meth c G ad0 h0 nL Z (pc + 3) ls (v.toList ++ rest) ad' h' (k + mc) (n + ms)) a) (xFr ad h H.size)) : W p l e R s m args below meth c H locs k n Z (F0 m pc la st0) := by
  intro T hT X
  obtain ⟨v, st₀, t, T', L, hh0, X', hLL, e1, e2, ⟨⟨v', ad', h', hv, hQ, hE', hR'⟩, hz, hk⟩, go⟩ := hr T hT X
  cases hv
  rw [hh0] at hz hk
  have hfr := fun q hq => x_frame (ad := ad) (h := h) hR hS q hq
  have hsz : H.size ≤ T'.heap.size := by rw [e1]; exact hz
  obtain ⟨t2, a1, b1⟩ := hQ hE' T'.heap (locs ++ L) la (by rw [e1]; exact hR'.weaken hfr)
    ⟨Nat.le_trans hS.1 hsz, fun q h1 h2 => by rw [e1, hk q (Nat.lt_of_lt_of_le h1 hS.1) (fun z => h2 (hfr q z))]; exact hS.2.1 q h1 h2, fun q hq => by
      rcases List.mem_append.mp hq with h | h
      · exact hS.2.2 q h
      · exact hfr _ (hLL q h)⟩ hL (hE.tr hE') T' rfl X'
  exact ⟨t2, go t2 a1, b1⟩
theorem x_O (F : xF p s m args meth c G ad0 h0 own cc nL r nm) {H : Heap} {locs : List Loc} (hR : xR G ad h (xFr ad0 h0 s.heap.size) H) (hS : va_S (xFr ad0 h0 s.heap.size) s.heap H locs) {U : State} (hU : U.heap = H) (hW : s.WarmedH U.vm) : xO G (xFr ad h H.size) U U.heap := by
  rw [hU]
  exact xO.warm hW (xO.narrow (fun q hq => x_frame hR hS q hq) (xO.kept hS.1 hS.2.1 F.2.2.2.2.2.2.2.2.2))
/-- what the tables say of a method that is called -/
def xMt (y : MethodName) (b : ByteArray) (ml : Nat) (r : Option FieldType) (na : Nat) : Prop := Cond.code y b ml r ∈ xwd ∧ Cond.initialized y.cls ∈ xwd ∧ (y.cls ≠ "java/lang/invoke/MethodHandle" ∧ y.cls ≠ "java/lang/invoke/VarHandle" ∧ (parseMethodDescriptor y.desc).map (fun d => d.parameters.length) = some na)
def xMv (y : MethodName) (b : ByteArray) (ml : Nat) (r : Option FieldType) (na : Nat) : Prop := xMt y b ml r na ∧ Cond.instanceMethod y ∈ xwd ∧ Cond.selects y.cls y y ∈ xwd
def xMs (y : MethodName) (b : ByteArray) (ml : Nat) (r : Option FieldType) (na : Nat) : Prop := xMt y b ml r na ∧ Cond.static y ∈ xwd
def xMi (y : MethodName) (b : ByteArray) (ml : Nat) (na : Nat) : Prop := xMt y b ml none na ∧ Cond.instanceMethod y ∈ xwd ∧ y.name = "<init>"
def xFit (rm R : Room) (ml k n : Nat) : Prop := (rm.frames + 1 ≤ R.frames ∧ 8 + (ml + 11) + rm.locals ≤ R.locals) ∧ k + rm.cells ≤ R.cells ∧ n + rm.slots ≤ R.slots
variable {y : MethodName} {b : ByteArray} {ml na idx : Nat} {ry : Option FieldType} {rm : Room} {sp : xSp} {As rest : List Value} {q : Nat}
theorem x_callB (F : xF p s m args meth c G ad0 h0 own cc nL r nm) (hm : xMt y b ml ry na) (hf : xFit rm R ml k n) (hl : Cond.methodLink own idx y ∈ xwd) : CallB R s args own idx y b ml ry (xw y b ml ry) rm rm.cells rm.slots na := callB_of na F.2.2.2.2.1 (xwd_goodC hm.1) rfl rfl rfl (F.2.2.2.2.1 _ hm.2.1) (F.2.2.2.2.1 _ hl) hm.2.2 hf.1
theorem x_callV (F : xF p s m args meth c G ad0 h0 own cc nL r nm) (t : Tg) {ci : Nat} {fs : List Value} {T : u_T} {N : Nat} (C : Ct y b ml ry rm sp) (hd : decode cc pc = .ok (.invokevirtual idx, 3)) (hp : pc + 3 = q) (hm : xMv y b ml ry na) (hl : Cond.methodLink own idx y ∈ xwd) (hf : xFit rm R ml k n) (hn : As.length = na) (hc : xcl[ci]? = some (y.cls, T, N)) (ht : h t = some (.inr (ci, fs))) (hroom : (rest.map fun v => v.category).sum ≤ 8)
    (kk : sp ad h (.ref (ad t) :: As) (fun v ad' h' => xExt ad h ad' h' → xX p l e R s m args below meth c G ad0 h0 nL Z q ls (v.toList ++ rest) ad' h' (k + rm.cells) (n + rm.slots))) : xX p l e R s m args below meth c G ad0 h0 nL Z pc ls (As.reverse ++ .ref (ad t) :: rest) ad h k n := by
  subst hp
  intro H locs la hR hS hL hE
  refine x_cont hR hS hL hE (va_runV (C := y.cls) ⟨F.1, F.2.1, F.2.2.1, F.2.2.2.1, F.2.2.2.2.1⟩ (C l G ad h _ _ H.size kk) ⟨x_callB F hm.1 hf hl, F.2.2.2.2.1 _ hm.2.1, F.2.2.2.2.1 _ hm.2.2⟩ ⟨xPre.blind, va_recv F.2.2.2.2.2.2.1.1 (hR.one ht) (ci := ci) (q0 := 0) hc rfl, fun U hU hW => ⟨rfl, by rw [hU], by rw [hU]; exact hR.any fun _ _ => trivial, xK.warm hW F.2.2.2.2.2.2.1, x_O F hR hS hU hW⟩⟩ rfl hn hL.1.1 rfl (lv_room hroom) hd hf.2)
theorem x_callS (F : xF p s m args meth c G ad0 h0 own cc nL r nm) (C : Ct y b ml ry rm sp) (hd : decode cc pc = .ok (.invokestatic idx, 3)) (hp : pc + 3 = q) (hm : xMs y b ml ry na) (hl : Cond.methodLink own idx y ∈ xwd) (hf : xFit rm R ml k n) (hn : As.length = na) (hroom : (rest.map fun v => v.category).sum ≤ 8)
    (kk : sp ad h As (fun v ad' h' => xExt ad h ad' h' → xX p l e R s m args below meth c G ad0 h0 nL Z q ls (v.toList ++ rest) ad' h' (k + rm.cells) (n + rm.slots))) : xX p l e R s m args below meth c G ad0 h0 nL Z pc ls (As.reverse ++ rest) ad h k n := by
  subst hp
  intro H locs la hR hS hL hE
  refine x_cont hR hS hL hE (va_runS ⟨F.1, F.2.1, F.2.2.1, F.2.2.2.1, F.2.2.2.2.1⟩ (C l G ad h _ _ H.size kk) ⟨x_callB F hm.1 hf hl, F.2.2.2.2.1 _ hm.2⟩ ⟨xPre.blind, fun U hU hW => ⟨rfl, by rw [hU], by rw [hU]; exact hR.any fun _ _ => trivial, xK.warm hW F.2.2.2.2.2.2.1, x_O F hR hS hU hW⟩⟩ rfl hn hL.1.1 rfl (lv_room hroom) hd hf.2)
theorem x_callI (F : xF p s m args meth c G ad0 h0 own cc nL r nm) (t : Tg) (C : Ct y b ml none rm sp) (hd : decode cc pc = .ok (.invokespecial idx, 3)) (hp : pc + 3 = q) (hm : xMi y b ml na) (hl : Cond.methodLink own idx y ∈ xwd) (hf : xFit rm R ml k n) (hn : As.length = na) (hroom : (rest.map fun v => v.category).sum ≤ 8)
    (kk : sp ad h (.ref (ad t) :: As) (fun v ad' h' => xExt ad h ad' h' → xX p l e R s m args below meth c G ad0 h0 nL Z q ls (v.toList ++ rest) ad' h' (k + rm.cells) (n + rm.slots))) : xX p l e R s m args below meth c G ad0 h0 nL Z pc ls (As.reverse ++ .ref (ad t) :: rest) ad h k n := by
  subst hp
  intro H locs la hR hS hL hE
  refine x_cont hR hS hL hE (va_runI ⟨F.1, F.2.1, F.2.2.1, F.2.2.2.1, F.2.2.2.2.1⟩ (C l G ad h _ _ H.size kk) ⟨x_callB F hm.1 hf hl, hm.2.2, F.2.2.2.2.1 _ hm.2.1⟩ ⟨xPre.blind, fun U hU hW => ⟨rfl, by rw [hU], by rw [hU]; exact hR.any fun _ _ => trivial, xK.warm hW F.2.2.2.2.2.2.1, x_O F hR hS hU hW⟩⟩ rfl hn hL.1.1 rfl (lv_room hroom) hd hf.2)
theorem x_callIN (F : xF p s m args meth c G ad0 h0 own cc nL r nm) (t : Tg) (host : String) (C : Ct y b ml none rm sp) (hd : decode cc pc = .ok (.invokespecial idx, 3)) (hp : pc + 3 = q) (hm : xMi y b ml na) (hl : Cond.methodLinkNest own idx y host ∈ xnw) (hf : xFit rm R ml k n) (hn : As.length = na) (hroom : (rest.map fun v => v.category).sum ≤ 8)
    (kk : sp ad h (.ref (ad t) :: As) (fun v ad' h' => xExt ad h ad' h' → xX p l e R s m args below meth c G ad0 h0 nL Z q ls (v.toList ++ rest) ad' h' (k + rm.cells) (n + rm.slots))) : xX p l e R s m args below meth c G ad0 h0 nL Z pc ls (As.reverse ++ .ref (ad t) :: rest) ad h k n := by
  subst hp
  intro H locs la hR hS hL hE
  refine x_cont hR hS hL hE (va_runIN ⟨F.1, F.2.1, F.2.2.1, F.2.2.2.1, F.2.2.2.2.1⟩ (C l G ad h _ _ H.size kk) ⟨va_cnB (host := host) na F.2.2.2.2.1 (xwd_goodC hm.1.1) rfl rfl rfl (F.2.2.2.2.2.2.1.2.1 _ hl) (F.2.2.2.2.1 _ hm.1.2.1) hm.1.2.2 hf.1, hm.2.2, F.2.2.2.2.1 _ hm.2.1⟩ ⟨xPre.blind, fun U hU hW => ⟨rfl, by rw [hU], by rw [hU]; exact hR.any fun _ _ => trivial, xK.warm hW F.2.2.2.2.2.2.1, x_O F hR hS hU hW⟩⟩ rfl hn hL.1.1 rfl (lv_room hroom) hd hf.2)
theorem x_objInit (F : xF p s m args meth c G ad0 h0 own cc nL r nm) {a : Nat} (hd : decode cc pc = .ok (.invokespecial idx, 3)) (hp : pc + 3 = q) (hl : Cond.methodLink own idx objectInit ∈ xwd) (h1 : Cond.instanceMethod objectInit ∈ xwd) (h2 : Cond.code objectInit ⟨#[0xb1]⟩ 1 none ∈ xwd) (h3 : 1 ≤ R.frames) (h4 : (st.map fun v => v.category).sum + 12 ≤ R.locals) (kk : xX p l e R s m args below meth c G ad0 h0 nL Z q ls st ad h k n) : xX p l e R s m args below meth c G ad0 h0 nL Z pc ls (.ref a :: st) ad h k n := by
  subst hp
  intro H locs la hR hS hL hE
  exact W.objInit F.1 F.2.1 F.2.2.2.1 (F.2.2.2.2.1 _ hl) (F.2.2.2.2.1 _ h1) (F.2.2.2.2.1 _ h2) rfl (by rw [F.2.2.1]; exact hL.1.1) rfl hd h3 (by show 2 * 0 + _ + 12 ≤ _; omega) (kk H locs la hR hS hL hE)
end XHEAP
