/-! ===== the law from its entry ===== -/
set_option maxRecDepth 100000 in
set_option maxHeartbeats 4000000 in
theorem law_start {p : Program} {l : Launch} {e : Env} {s : State} {m : MethodId} {below : List Frame} {meth : Method} {c : Code} {G : xG} {ad0 : xAd} {h0 : xH} {nm : String} {b : Nat} (F : xF p s m #[Value.ref b] meth c G ad0 h0 RL code 7 ret nm) (h0n : ∀ t, h0 t = none) (hl : l.stackTraces = false) (hL : G.2.2.2.2.1 ≤ 2562) :
    xX p l e room_1 s m #[Value.ref b] below meth c G ad0 h0 7 (lw_Z below #[Value.ref b] s) 0 [(0, .ref G.2.2.2.1)] [] ad0 h0 0 0 := by
  refine x_new (q := 3) F (1, 0) [.null, .null, .null, .null, .null, .int 0, .int 0, .int 0, .int 0, .int 0] dL_law_0 rfl (ci := 6) rfl ⟨cl_L_8, im_X6, iz_X6⟩ (h0n (1, 0)) df_X6 (xle rfl) (xle rfl) (fun ad1 E1 => ?_)
  refine x_dup (q := 4) F dL_law_3 rfl rfl ?_
  refine x_aload_n (q := 5) F dL_law_4 rfl rfl (by first | exact xref_r | exact xref_n | exact xref_f _ | assumption) ?_
  refine x_iconst (q := 6) (v := 0) F dL_law_5 rfl (by decide) ?_
  refine x_callSG (q := 9) F [.ref G.2.2.2.1, .int (nI 0)] c_L_cell dL_law_6 rfl ms_L_cell ml_L_21 ⟨⟨xle rfl, xle rfl⟩, xle rfl, xle rfl⟩ rfl (xle rfl) rfl ?_
  refine ⟨0, rfl, by omega, by omega, fun _ => ?_⟩
  refine x_aload_n (q := 10) F dL_law_9 rfl rfl (by first | exact xref_r | exact xref_n | exact xref_f _ | assumption) ?_
  refine x_iconst (q := 11) (v := 1) F dL_law_10 rfl (by decide) ?_
  refine x_callSG (q := 14) F [.ref G.2.2.2.1, .int (nI 1)] c_L_cell dL_law_11 rfl ms_L_cell ml_L_21 ⟨⟨xle rfl, xle rfl⟩, xle rfl, xle rfl⟩ rfl (xle rfl) rfl ?_
  refine ⟨1, rfl, by omega, by omega, fun _ => ?_⟩
  refine x_callI2 (q := 17) F (1, 0) c_X6_init dL_law_14 rfl mi_X6_init ml_L_27 ⟨⟨xle rfl, xle rfl⟩, xle rfl, xle rfl⟩ (xle rfl) ?_
  refine ⟨cellF G 0, cellF G 1, rfl, xup_self _ _ _, fun t q1 q2 => (up_ne (by omega)).trans (h0n t), fun ad2 h2 hC2 hfr2 hE2 => ?_⟩
  have f2 : ∀ t : Tg, 40 ≤ t.1 → h2 t = none := fun t ht => by rw [hfr2 t ht, up_ne (by omega)]; exact h0n t
  have e1 : ad2 (1, 0) = ad1 (1, 0) := (hE2 (1, 0) (by rw [xup_self]; exact fun z => by cases z)).2
  rw [← e1]
  clear hfr2 hE2
  show xX p l e room_1 s m #[Value.ref b] below meth c G ad0 h0 7 (lw_Z below #[Value.ref b] s) 17 [(0, .ref G.2.2.2.1)] [.ref (ad2 (1, 0))] ad2 h2 _ _
  refine x_astore_n (q := 18) F dL_law_17 rfl (by decide) (by first | exact xref_r | exact xref_n | exact xref_f _ | assumption) ?_
  refine x_new (q := 21) F (50, 0) [.int 0, .int 0, .int 0, .int 0, .null, .int 0, .int 0, .int 0, .null, .null, .null, .null, .null, .null, .null, .int 0, .null, .int 0, .null, .null, .null, .null, .null, .null, .int 0, .null, .int 0, .int 0, .int 0, .null, .null, .long 0] dL_law_18 rfl (ci := 7) rfl ⟨cl_L_30, im_X7, iz_X7⟩ (f2 (50, 0) (by decide)) df_X7 (xle rfl) (xle rfl) (fun ad3 E3 => ?_)
  rw [← E3 (1, 0) (by decide)]
  have hC3 : pC ad3 h2 (newA (cellF G 0) (cellF G 1)) := hC2.move (fun t ht => E3 t (fun z => ht (by rw [z]; exact f2 (50, 0) (by decide))))
  refine x_dup (q := 22) F dL_law_21 rfl rfl ?_
  refine x_aload_n (q := 23) F dL_law_22 rfl rfl (by first | exact xref_r | exact xref_n | exact xref_f _ | assumption) ?_
  refine x_iconst (q := 24) (v := 0) F dL_law_23 rfl (by decide) ?_
  refine x_callSG (q := 27) F [.ref G.2.2.2.1, .int (nI 0)] c_L_cell dL_law_24 rfl ms_L_cell ml_L_21 ⟨⟨xle rfl, xle rfl⟩, xle rfl, xle rfl⟩ rfl (xle rfl) rfl ?_
  refine ⟨0, rfl, by omega, by omega, fun _ => ?_⟩
  refine x_aload_n (q := 28) F dL_law_27 rfl rfl (by first | exact xref_r | exact xref_n | exact xref_f _ | assumption) ?_
  refine x_iconst (q := 29) (v := 1) F dL_law_28 rfl (by decide) ?_
  refine x_callSG (q := 32) F [.ref G.2.2.2.1, .int (nI 1)] c_L_cell dL_law_29 rfl ms_L_cell ml_L_21 ⟨⟨xle rfl, xle rfl⟩, xle rfl, xle rfl⟩ rfl (xle rfl) rfl ?_
  refine ⟨1, rfl, by omega, by omega, fun _ => ?_⟩
  refine x_callI2 (q := 35) F (50, 0) c_X7_init dL_law_32 rfl mi_X7_init ml_L_32 ⟨⟨xle rfl, xle rfl⟩, xle rfl, xle rfl⟩ (xle rfl) ?_
  refine ⟨cellF G 0, cellF G 1, rfl, xup_self _ _ _, fun k q1 q2 => (up_ne (by show k ≠ 50; omega)).trans (f2 (k, 0) (by show 40 ≤ k; omega)), fun ad4 S V E4 hR _ => ?_⟩
  rw [← E4 (1, 0) (by decide), ← E4 (50, 0) (by decide)]
  have hC4 : pC ad4 h2 (newA (cellF G 0) (cellF G 1)) := hC3.move (fun t ht => E4 t (fun z => ht (f2 t (by omega))))
  have hC5 : pC ad4 (wM (xup h2 (50, 0) (.inr (7, [.int 0, .int 0, .int 0, .int 0, .null, .int 0, .int 0, .int 0, .null, .null, .null, .null, .null, .null, .null, .int 0, .null, .int 0, .null, .null, .null, .null, .null, .null, .int 0, .null, .int 0, .int 0, .int 0, .null, .null, .long 0]))) ad4 S 0 V) (newA (cellF G 0) (cellF G 1)) := hC4.congr (fun t ht => (wM_n _ _ _ _ _ (Or.inl (by omega))).trans (up_ne (by omega)))
  have n90 : wM (xup h2 (50, 0) (.inr (7, [.int 0, .int 0, .int 0, .int 0, .null, .int 0, .int 0, .int 0, .null, .null, .null, .null, .null, .null, .null, .int 0, .null, .int 0, .null, .null, .null, .null, .null, .null, .int 0, .null, .int 0, .int 0, .int 0, .null, .null, .long 0]))) ad4 S 0 V (90, 0) = none := (wM_n _ _ _ _ _ (Or.inr (by decide))).trans ((up_ne (by decide)).trans (f2 (90, 0) (by decide)))
  have hw5 : wM (xup h2 (50, 0) (.inr (7, [.int 0, .int 0, .int 0, .int 0, .null, .int 0, .int 0, .int 0, .null, .null, .null, .null, .null, .null, .null, .int 0, .null, .int 0, .null, .null, .null, .null, .null, .null, .int 0, .null, .int 0, .int 0, .int 0, .null, .null, .long 0]))) ad4 S 0 V = wM (wM (xup h2 (50, 0) (.inr (7, [.int 0, .int 0, .int 0, .int 0, .null, .int 0, .int 0, .int 0, .null, .null, .null, .null, .null, .null, .null, .int 0, .null, .int 0, .null, .null, .null, .null, .null, .null, .int 0, .null, .int 0, .int 0, .int 0, .null, .null, .long 0]))) ad4 S 0 V) ad4 S 0 V := (wM_wM _ _ _ _ _ _ _ _).symm
  show xX p l e room_1 s m #[Value.ref b] below meth c G ad0 h0 7 (lw_Z below #[Value.ref b] s) 35 _ [.ref (ad4 (50, 0))] ad4 _ _ _
  generalize wM (xup h2 (50, 0) (.inr (7, [.int 0, .int 0, .int 0, .int 0, .null, .int 0, .int 0, .int 0, .null, .null, .null, .null, .null, .null, .null, .int 0, .null, .int 0, .null, .null, .null, .null, .null, .null, .int 0, .null, .int 0, .int 0, .int 0, .null, .null, .long 0]))) ad4 S 0 V = h4 at hC5 n90 hw5 ⊢
  refine x_astore_n (q := 36) F dL_law_35 rfl (by decide) (by first | exact xref_r | exact xref_n | exact xref_f _ | assumption) ?_
  refine x_iconst (q := 37) (v := 1) F dL_law_36 rfl (by decide) ?_
  refine x_newaJ (q := 39) (N := 1) F (90, 0) dL_law_37 rfl ac_long rfl (by omega) n90 (xle rfl) (xle rfl) (fun ad5 E5 => ?_)
  rw [← E5 (1, 0) (by decide), ← E5 (50, 0) (by decide)]
  refine x_astore_n (q := 40) F dL_law_39 rfl (by decide) (by first | exact xref_r | exact xref_n | exact xref_f _ | assumption) ?_
  refine x_iconst (q := 41) (v := 2) F dL_law_40 rfl (by decide) ?_
  refine x_istore (q := 43) F dL_law_41 rfl (by decide) ?_
  refine x_ls [(0, .ref G.2.2.2.1), (1, .ref (ad5 (1, 0))), (2, .ref (ad5 (50, 0))), (3, .ref (ad5 (90, 0))), (4, .int (nI 2))] rfl ?_
  refine law_loop F h0n hl hL 512 2 (newA (cellF G 0) (cellF G 1)) ad5 _ _ _ ⟨?_, Inv_new _ _, ⟨S, 0, V, ?_, hR⟩, _, xup_self _ _ _⟩ (by omega) (by omega) (xle rfl) (xle rfl)
  · exact (hC5.move (fun t ht => E5 t (fun z => ht (by rw [z]; exact n90)))).congr (fun t ht => up_ne (by omega))
  · exact wM_moved hw5 (fun k q1 q2 => E5 (k, 0) (tg_ne (by omega) _ _)) (fun k q1 q2 => up_ne (by show k ≠ 90; omega))
theorem whole_start {p : Program} {e : Env} {s : State} {m : MethodId} {below : List Frame} {meth : Method} {c : Code} (l : Launch) (hfl : l.stackTraces = false) {b L : Nat} {xs : Nat → Int32} (hL : L ≤ 2562) (C0 : lw_At p s m meth c b L xs) : W p l e room_1 s m #[Value.ref b] below meth c s.heap [] 0 0 (lw_Z below #[Value.ref b] s) (entryFrame m ([Value.ref b] : List Value).toArray 7) := by
  have hA : ∀ a : Nat, a < s.heap.size → ¬ xFr (fun _ => 0) (fun _ => none) s.heap.size a := fun a ha z => by
    rcases z with ⟨t, ht, _⟩ | z
    · exact ht rfl
    · omega
  obtain ⟨D, g, hK⟩ := xK_start C0
  obtain ⟨adK, adV, hO⟩ := xO_start C0 _ hA
  obtain ⟨hx, hb, hr, hml, hown, hts, hX, hbl, hlocks, hgv⟩ := C0
  have F : xF p s m #[Value.ref b] meth c (D, g, (adK, adV), (b, L, xs)) (fun _ => 0) (fun _ => none) RL code 7 ret meth.name := ⟨hx, hb, hml, hown, fun w hw => hts w (List.mem_filter.mp hw).1, hlocks, hK _ _, hr, rfl, hO D g⟩
  have main := law_start (l := l) (e := e) (below := below) F (fun _ => rfl) hfl hL
  rw [lg_entry_eq]
  exact main s.heap [] _ ⟨fun t e ht => (by cases ht), fun t u ht => absurd rfl ht⟩ va_S.rf ⟨lv_entry [.ref b] (xle rfl), fun q hq => by cases hq with | head => rfl | tail _ h => cases h⟩ xExt.rf
