/-! ===== the reference: its cells, rows over them ===== -/
theorem mb_b (x : Int32) : x.toInt8.toInt32 &&& 255 = x &&& 255 := by
  apply Int32.toBitVec_inj.mp
  rw [Int32.toBitVec_and, Int32.toBitVec_and, Int8.toBitVec_toInt32, Int32.toBitVec_toInt8]
  apply BitVec.eq_of_getLsbD_eq
  intro i hi
  rw [BitVec.getLsbD_and, BitVec.getLsbD_and]
  have hm : ∀ i < 32, 8 ≤ i → (255 : Int32).toBitVec.getLsbD i = false := by decide
  rcases Nat.lt_or_ge i 8 with z | z
  · rw [BitVec.getLsbD_signExtend, BitVec.getLsbD_signExtend, if_pos z, if_pos hi]
    simp only [z, hi, decide_true, Bool.true_and]
  · rw [hm i hi z]; simp
/-! ===== the char cast and 65535 ===== -/
abbrev MV : Type := Nat → Nat → Int32
def mTy : Nat → Nat × Nat
  | 51 => (1, 200)
  | 52 => (0, 11)
  | 53 => (0, 440)
  | 54 => (0, 440)
  | 55 => (0, 10)
  | 56 => (0, 20)
  | 57 => (0, 80)
  | 58 => (0, 80)
  | 59 => (1, 40)
  | 60 => (0, 60)
  | 61 => (1, 2400)
  | 62 => (0, 60)
  | 63 => (0, 60)
  | 64 => (2, 60)
  | 65 => (0, 60)
  | 66 => (2, 600)
  | 67 => (1, 40)
  | 68 => (0, 32)
  | _ => (0, 0)
abbrev mFl (ad : xAd) (S : Nat → Int32) (ct : Int64) : List Value := [.int (S 0), .int (S 1), .int (S 2), .int (S 3), .ref (ad (51, 0)), .int (S 5), .int (S 6), .int (S 7), .ref (ad (52, 0)), .ref (ad (53, 0)), .ref (ad (54, 0)), .ref (ad (55, 0)), .ref (ad (56, 0)), .ref (ad (57, 0)), .ref (ad (58, 0)), .int (S 15), .ref (ad (59, 0)), .int (S 17), .ref (ad (60, 0)), .ref (ad (61, 0)), .ref (ad (62, 0)), .ref (ad (63, 0)), .ref (ad (64, 0)), .ref (ad (65, 0)), .int (S 24), .ref (ad (66, 0)), .int (S 26), .int (S 27), .int (S 28), .ref (ad (67, 0)), .ref (ad (68, 0)), .long ct]
/-- the reference's object and arrays over g -/
def wM (g : xH) (ad : xAd) (S : Nat → Int32) (ct : Int64) (V : MV) : xH := fun t => if t.2 = 0 ∧ 50 ≤ t.1 ∧ t.1 ≤ 68 then (if t.1 = 50 then some (.inr (7, mFl ad S ct)) else some (.inl ((mTy t.1).1, (mTy t.1).2, .inl (V t.1)))) else g t
theorem wM_o (g : xH) (ad : xAd) (S : Nat → Int32) (ct : Int64) (V : MV) : wM g ad S ct V (50, 0) = some (.inr (7, mFl ad S ct)) := rfl
theorem wM_a (g : xH) (ad : xAd) (S : Nat → Int32) (ct : Int64) (V : MV) {k ti N : Nat} (hk : mTy k = (ti, N)) (h1 : 51 ≤ k) (h2 : k ≤ 68) : wM g ad S ct V (k, 0) = some (.inl (ti, N, .inl (V k))) := by
  unfold wM
  rw [if_pos ⟨rfl, by show 50 ≤ k; omega, h2⟩, if_neg (by show ¬ k = 50; omega)]
  show some (Sum.inl ((mTy k).1, (mTy k).2, _)) = _
  rw [hk]
theorem wM_n (g : xH) (ad : xAd) (S : Nat → Int32) (ct : Int64) (V : MV) {t : Tg} (h : t.1 < 50 ∨ 69 ≤ t.1) : wM g ad S ct V t = g t := if_neg (fun z => by omega)
def upV (V : MV) (k j : Nat) (v : Int32) : MV := fun a => if a = k then upd (V a) j v else V a
theorem upV_s (V : MV) (k j : Nat) (v : Int32) : upV V k j v k = upd (V k) j v := if_pos rfl
theorem upV_n (V : MV) {k a : Nat} (j : Nat) (v : Int32) (h : a ≠ k) : upV V k j v a = V a := if_neg h
theorem upV_at (V : MV) (k j : Nat) (v : Int32) : upV V k j v k j = v := by rw [upV_s]; exact pk_us
theorem upV_ne (V : MV) (k : Nat) {j i : Nat} (v : Int32) (h : i ≠ j) : upV V k j v k i = V k i := by rw [upV_s]; exact pk_un h
theorem wM_uo (g : xH) (ad : xAd) (S S' : Nat → Int32) (ct ct' : Int64) (V : MV) : xup (wM g ad S ct V) (50, 0) (.inr (7, mFl ad S' ct')) = wM g ad S' ct' V := by
  funext t
  unfold xup wM
  by_cases q : t = (50, 0)
  · subst q; rfl
  · rw [if_neg q]
    by_cases z : t.2 = 0 ∧ 50 ≤ t.1 ∧ t.1 ≤ 68
    · rw [if_pos z, if_pos z, if_neg (fun w => q (Prod.ext w z.1)), if_neg (fun w => q (Prod.ext w z.1))]
    · rw [if_neg z, if_neg z]
theorem wM_ua (g : xH) (ad : xAd) (S : Nat → Int32) (ct : Int64) (V : MV) {k ti N : Nat} (hk : mTy k = (ti, N)) (h1 : 51 ≤ k) (h2 : k ≤ 68) (j : Nat) (v : Int32) : xup (wM g ad S ct V) (k, 0) (.inl (ti, N, .inl (upd (V k) j v))) = wM g ad S ct (upV V k j v) := by
  funext t
  unfold xup
  by_cases q : t = (k, 0)
  · subst q
    rw [if_pos rfl, wM_a g ad S ct (upV V k j v) hk h1 h2, upV_s]
  · rw [if_neg q]
    unfold wM
    by_cases z : t.2 = 0 ∧ 50 ≤ t.1 ∧ t.1 ≤ 68
    · rw [if_pos z, if_pos z]
      by_cases w : t.1 = 50
      · rw [if_pos w, if_pos w]
      · rw [if_neg w, if_neg w, upV_n V j v (fun y => q (Prod.ext y z.1))]
    · rw [if_neg z, if_neg z]
theorem wM_wM (g : xH) (ad : xAd) (S S' : Nat → Int32) (ct ct' : Int64) (V V' : MV) : wM (wM g ad S ct V) ad S' ct' V' = wM g ad S' ct' V' := by
  funext t
  unfold wM
  by_cases z : t.2 = 0 ∧ 50 ≤ t.1 ∧ t.1 ≤ 68
  · rw [if_pos z, if_pos z]
  · rw [if_neg z, if_neg z, if_neg z]
/-- the reference lies in h as S, ct, V say -/
theorem wM_moved {h h' : xH} {ad ad' : xAd} {S : Nat → Int32} {ct : Int64} {V : MV} (e : h = wM h ad S ct V) (ea : ∀ k, 50 ≤ k → k ≤ 68 → ad' (k, 0) = ad (k, 0)) (eh : ∀ k, 50 ≤ k → k ≤ 68 → h' (k, 0) = h (k, 0)) : h' = wM h' ad' S ct V := by
  funext t
  by_cases z : t.2 = 0 ∧ 50 ≤ t.1 ∧ t.1 ≤ 68
  · obtain ⟨k, i⟩ := t
    obtain ⟨z1, z2, z3⟩ := z
    have z1 : i = 0 := z1
    subst z1
    have z2 : 50 ≤ k := z2
    have z3 : k ≤ 68 := z3
    rw [eh k z2 z3, show h (k, 0) = wM h ad S ct V (k, 0) from congrFun e (k, 0)]
    by_cases w : k = 50
    · subst w
      rw [wM_o, wM_o]
      unfold mFl
      rw [ea 51 (by omega) (by omega), ea 52 (by omega) (by omega), ea 53 (by omega) (by omega), ea 54 (by omega) (by omega), ea 55 (by omega) (by omega), ea 56 (by omega) (by omega), ea 57 (by omega) (by omega), ea 58 (by omega) (by omega), ea 59 (by omega) (by omega), ea 60 (by omega) (by omega), ea 61 (by omega) (by omega), ea 62 (by omega) (by omega), ea 63 (by omega) (by omega), ea 64 (by omega) (by omega), ea 65 (by omega) (by omega), ea 66 (by omega) (by omega), ea 67 (by omega) (by omega), ea 68 (by omega) (by omega)]
    · rw [wM_a h ad S ct V rfl (by omega) z3, wM_a h' ad' S ct V rfl (by omega) z3]
  · exact (if_neg z).symm
theorem mTy_le (k : Nat) : (mTy k).2 < 2 ^ 31 := by unfold mTy; split <;> decide
section XMROWS
variable {p : Program} {l : Launch} {e : Env} {R : Room} {s : State} {m : MethodId} {args : Array Value} {below : List Frame} {meth : Method} {c : Code} {G : xG} {ad0 : xAd} {h0 : xH} {nL : Nat} {Z : State → Prop} {pc : Nat} {ls : List (Nat × Value)} {st : List Value} {ad : xAd} {g : xH} {S : Nat → Int32} {ct : Int64} {V : MV} {k n : Nat} {own : String} {cc : ByteArray} {r : Option FieldType} {nm : String}
theorem x_irem (F : xF p s m args meth c G ad0 h0 own cc nL r nm) {h : xH} {x y : Int32} {q : Nat} (hd : decode cc pc = .ok (.irem, 1)) (hp : pc + 1 = q) (hne : ¬ y = 0) (kk : xX p l e R s m args below meth c G ad0 h0 nL Z q ls (.int (x - x / y * y) :: st) ad h k n) : xX p l e R s m args below meth c G ad0 h0 nL Z pc ls (.int y :: .int x :: st) ad h k n := by
  subst hp
  exact fun H locs la hR hS hL hE => lv_irem F.1 F.2.1 hd hne (kk H locs la hR hS hL hE)
theorem x_mget (F : xF p s m args meth c G ad0 h0 own cc nL r nm) {j idx q : Nat} {fin : Bool} {v : Value} (hd : decode cc pc = .ok (.getfield idx, 3)) (hp : pc + 3 = q) (hs : xFS own idx 7 j fin) (hv : (mFl ad S ct)[j]? = some v) (kk : xX p l e R s m args below meth c G ad0 h0 nL Z q ls (v :: st) ad (wM g ad S ct V) k n) : xX p l e R s m args below meth c G ad0 h0 nL Z pc ls (.ref (ad (50, 0)) :: st) ad (wM g ad S ct V) k n := x_get F hd hp hs (wM_o g ad S ct V) hv kk
theorem x_mput (F : xF p s m args meth c G ad0 h0 own cc nL r nm) {j idx q : Nat} {v : Int32} (hd : decode cc pc = .ok (.putfield idx, 3)) (hp : pc + 3 = q) (hs : xFS own idx 7 j false) (hlen : j < 32) (hn : narrow (xty 7 j) (.int v) = .int v) (hfit : fits (xty 7 j) (.int v) = true) (he : (mFl ad S ct).set j (.int v) = mFl ad (upd S j v) ct) (kk : xX p l e R s m args below meth c G ad0 h0 nL Z q ls st ad (wM g ad (upd S j v) ct V) k n) : xX p l e R s m args below meth c G ad0 h0 nL Z pc ls (.int v :: .ref (ad (50, 0)) :: st) ad (wM g ad S ct V) k n := by
  refine x_put F hd hp hs (wM_o g ad S ct V) hlen hn hfit ?_
  rw [he, wM_uo]
  exact kk
theorem x_mputL (F : xF p s m args meth c G ad0 h0 own cc nL r nm) {idx q : Nat} {v : Int64} (hd : decode cc pc = .ok (.putfield idx, 3)) (hp : pc + 3 = q) (hs : xFS own idx 7 31 false) (kk : xX p l e R s m args below meth c G ad0 h0 nL Z q ls st ad (wM g ad S v V) k n) : xX p l e R s m args below meth c G ad0 h0 nL Z pc ls (.long v :: .ref (ad (50, 0)) :: st) ad (wM g ad S ct V) k n := by
  refine x_put F hd hp hs (wM_o g ad S ct V) (show 31 < 32 by omega) rfl rfl ?_
  rw [show (mFl ad S ct).set 31 (.long v) = mFl ad S v from rfl, wM_uo]
  exact kk
theorem x_mild (F : xF p s m args meth c G ad0 h0 own cc nL r nm) {a N j q : Nat} {x : Int32} (hd : decode cc pc = .ok (.iaload, 1)) (hp : pc + 1 = q) (hk : mTy a = (0, N)) (h1 : 51 ≤ a) (h2 : a ≤ 68) (hx : x = nI j) (hj : j < N) (kk : xX p l e R s m args below meth c G ad0 h0 nL Z q ls (.int (V a j) :: st) ad (wM g ad S ct V) k n) : xX p l e R s m args below meth c G ad0 h0 nL Z pc ls (.int x :: .ref (ad (a, 0)) :: st) ad (wM g ad S ct V) k n := x_iald F hd hp (wM_a g ad S ct V hk h1 h2) hx hj (by have := mTy_le a; rw [hk] at this; exact this) kk
theorem x_mbld (F : xF p s m args meth c G ad0 h0 own cc nL r nm) {a N j q : Nat} {x : Int32} (hd : decode cc pc = .ok (.baload, 1)) (hp : pc + 1 = q) (hk : mTy a = (1, N)) (h1 : 51 ≤ a) (h2 : a ≤ 68) (hx : x = nI j) (hj : j < N) (kk : xX p l e R s m args below meth c G ad0 h0 nL Z q ls (.int (V a j) :: st) ad (wM g ad S ct V) k n) : xX p l e R s m args below meth c G ad0 h0 nL Z pc ls (.int x :: .ref (ad (a, 0)) :: st) ad (wM g ad S ct V) k n := x_bald F hd hp (wM_a g ad S ct V hk h1 h2) hx hj (by have := mTy_le a; rw [hk] at this; exact this) kk
theorem x_mzld (F : xF p s m args meth c G ad0 h0 own cc nL r nm) {a N j q : Nat} {x : Int32} (hd : decode cc pc = .ok (.baload, 1)) (hp : pc + 1 = q) (hk : mTy a = (2, N)) (h1 : 51 ≤ a) (h2 : a ≤ 68) (hx : x = nI j) (hj : j < N) (kk : xX p l e R s m args below meth c G ad0 h0 nL Z q ls (.int (V a j) :: st) ad (wM g ad S ct V) k n) : xX p l e R s m args below meth c G ad0 h0 nL Z pc ls (.int x :: .ref (ad (a, 0)) :: st) ad (wM g ad S ct V) k n := x_zald F hd hp (wM_a g ad S ct V hk h1 h2) hx hj (by have := mTy_le a; rw [hk] at this; exact this) kk
theorem x_mist (F : xF p s m args meth c G ad0 h0 own cc nL r nm) {a N j q : Nat} {x v : Int32} (hd : decode cc pc = .ok (.iastore, 1)) (hp : pc + 1 = q) (hk : mTy a = (0, N)) (h1 : 51 ≤ a) (h2 : a ≤ 68) (hx : x = nI j) (hj : j < N) (kk : xX p l e R s m args below meth c G ad0 h0 nL Z q ls st ad (wM g ad S ct (upV V a j v)) k n) : xX p l e R s m args below meth c G ad0 h0 nL Z pc ls (.int v :: .int x :: .ref (ad (a, 0)) :: st) ad (wM g ad S ct V) k n := by
  refine x_iast F hd hp (wM_a g ad S ct V hk h1 h2) hx hj (by have := mTy_le a; rw [hk] at this; exact this) ?_
  rw [wM_ua g ad S ct V hk h1 h2]
  exact kk
theorem x_mbst (F : xF p s m args meth c G ad0 h0 own cc nL r nm) {a N j q : Nat} {x v : Int32} (hd : decode cc pc = .ok (.bastore, 1)) (hp : pc + 1 = q) (hk : mTy a = (1, N)) (h1 : 51 ≤ a) (h2 : a ≤ 68) (hx : x = nI j) (hj : j < N) (kk : xX p l e R s m args below meth c G ad0 h0 nL Z q ls st ad (wM g ad S ct (upV V a j (vp_nar .byte v))) k n) : xX p l e R s m args below meth c G ad0 h0 nL Z pc ls (.int v :: .int x :: .ref (ad (a, 0)) :: st) ad (wM g ad S ct V) k n := by
  refine x_bast F hd hp (wM_a g ad S ct V hk h1 h2) hx hj (by have := mTy_le a; rw [hk] at this; exact this) ?_
  rw [wM_ua g ad S ct V hk h1 h2]
  exact kk
theorem x_mzst (F : xF p s m args meth c G ad0 h0 own cc nL r nm) {a N j q : Nat} {x v : Int32} (hd : decode cc pc = .ok (.bastore, 1)) (hp : pc + 1 = q) (hk : mTy a = (2, N)) (h1 : 51 ≤ a) (h2 : a ≤ 68) (hx : x = nI j) (hj : j < N) (kk : xX p l e R s m args below meth c G ad0 h0 nL Z q ls st ad (wM g ad S ct (upV V a j (vp_nar .boolean v))) k n) : xX p l e R s m args below meth c G ad0 h0 nL Z pc ls (.int v :: .int x :: .ref (ad (a, 0)) :: st) ad (wM g ad S ct V) k n := by
  refine x_zast F hd hp (wM_a g ad S ct V hk h1 h2) hx hj (by have := mTy_le a; rw [hk] at this; exact this) ?_
  rw [wM_ua g ad S ct V hk h1 h2]
  exact kk
end XMROWS
theorem mb_nar (v : Int32) : vp_nar .byte v &&& 255 = v &&& 255 := by rw [vp_nar_byte]; exact mb_b v
theorem mb_z1 : vp_nar .boolean 1 = 1 := rfl
theorem mb_z0 : vp_nar .boolean 0 = 0 := rfl
/-! ===== how the reference's cells hold the state ===== -/
def rTx (A : AS) (S : Nat → Int32) (V : MV) : Prop := S 3 = nI (aNs A) ∧ ∀ j, j < aNs A → V 51 j &&& 255 = nI (aSg A j)
def rCo (A : AS) (S : Nat → Int32) (V : MV) : Prop := S 15 = nI (aCn A) ∧ ∀ j, j < aCn A → V 59 j &&& 255 = nI (aCb A j)
def rScr (V : MV) (s : Nat) (d : ScrD) : Prop := (V 52 s = nI (sNk d) ∧ ∀ j, j < sNk d → V 53 (40 * s + j) = nI (sL d j) ∧ V 54 (40 * s + j) = nI (sV d j)) ∧ V 55 s = optI (sNx d) ∧ (V 56 (2 * s) = nI (sBn d) ∧ ∀ j, j < sBn d → V 57 (4 * (2 * s) + j) = nI (sBk d j) ∧ V 58 (4 * (2 * s) + j) = nI (sBv d j)) ∧ (V 56 (2 * s + 1) = nI (sHn d) ∧ ∀ j, j < sHn d → V 57 (4 * (2 * s + 1) + j) = nI (sHk d j) ∧ V 58 (4 * (2 * s + 1) + j) = nI (sHv d j))
def rSc (A : AS) (S : Nat → Int32) (V : MV) : Prop := S 7 = nI (aS A) ∧ (∀ s, s < aS A → rScr V s (aScr A s)) ∧ ∀ s, aS A ≤ s → s < 10 → V 55 s = -1 ∧ V 56 (2 * s) = 0 ∧ V 56 (2 * s + 1) = 0
def rItm (V : MV) (i : Nat) (d : ItmD) : Prop := V 60 i = nI (iN d) ∧ (∀ j, j < iN d → V 61 (40 * i + j) &&& 255 = nI (iB d j)) ∧ V 62 i = optI (iFr d) ∧ V 63 i = optI (iBy d) ∧ V 64 i = bI (iGn d)
def rIt (A : AS) (S : Nat → Int32) (V : MV) : Prop := S 17 = nI (aI A) ∧ (∀ i, i < aI A → rItm V i (aItm A i)) ∧ ∀ i, aI A ≤ i → i < 60 → V 64 i = 0
/-- open batches: bm names the reference's number of each -/
def rBt (A : AS) (S : Nat → Int32) (V : MV) : Prop := ∃ (nb : Nat) (bm ob : Nat → Nat), S 24 = nI nb ∧ nb ≤ aI A ∧ aOb A ≤ nb ∧ (∀ k, k < aOb A → bm k < nb) ∧ (∀ k k', k < k' → k' < aOb A → bm k < bm k') ∧ (∀ b, b < nb → V 66 b = 0 ∨ V 66 b = 1) ∧ (∀ b, b < nb → (V 66 b = 0 ↔ ∃ k, k < aOb A ∧ bm k = b)) ∧
  (∀ i, i < aI A → V 65 i = nI (ob i) ∧ ob i ≤ nb ∧ (∀ k, k < aOb A → (ob i = bm k + 1 ↔ iBt (aItm A i) = some k)) ∧ ∀ k, iBt (aItm A i) = some k → k < aOb A)
def rRn (A : AS) (S : Nat → Int32) (V : MV) (ct : Int64) : Prop := S 1 = nI (aSt A) ∧ S 2 = nI (aNc A) ∧ S 27 = optI (aFa A) ∧ (S 28 = nI (aNo A) ∧ ∀ j, j < aNo A → V 67 j &&& 255 = nI (aOut A j)) ∧ ct = lN (aCt A)
def rM (A : AS) (S : Nat → Int32) (ct : Int64) (V : MV) : Prop := rTx A S V ∧ rCo A S V ∧ rSc A S V ∧ rIt A S V ∧ rBt A S V ∧ rRn A S V ct ∧ (S 6 = optI (aWr A) ∧ S 26 = aMl A)
