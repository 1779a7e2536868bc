/-! the law, call by call (printed by wip/whole/m15.py) -/
set_option maxHeartbeats 4000000 in
set_option maxRecDepth 100000 in
/-- even -/
theorem lw_k16 {p : Program} {e : Env} {s : State} {m : MethodId} {below : List Frame} {meth : Method} {c : Code} (l : Launch) {b L : Nat} {xs : Nat → Int32} {G : va_G} {t : gT} {b0 d i : Nat} (C0 : LC p s m c b L xs G t b0 d) (hi : i + 5 ≤ L) {z : Nat → Int32} {gr : Nat → Nat} {sl bc : Nat} {bk : Nat → Nat → Int32} {kp : Nat → Bool} {im : Nat → Nat → Int32} {H : Heap} {locs : List Loc} (h0 : LI s G t b0 d (z, gr, sl, bc, bk, kp, im) H locs) (K : LK p l e s m below meth c b G t b0 d i) {ls : Array Slot} (hl : lv_has ls 4 [(0, .ref b), (1, .ref b0), (2, .ref d), (3, .int (nI i))]) : LW p l e s m below meth c b H locs ls 704 := by
  obtain ⟨hx, hb, hml, hown, hts, hX, hbl, hK, hb0, hd, hL⟩ := C0
  obtain ⟨hPX, hPM, hS2, hS, hZ⟩ := h0
  obtain ⟨⟨hz, hg, hg2, hsl, hbc, hwb, hwi⟩, hcn⟩ := id hS2
  refine lv_aload_n hx hb dL_law_704 rfl (lv_at hl 1 rfl) ?_
  refine lv_aload_n hx hb dL_law_705 rfl (lv_at hl 0 rfl) ?_
  refine lv_iload_n hx hb dL_law_706 rfl (lv_at hl 3 rfl) ?_
  refine lv_iconst (v := nI 1) hx hb dL_law_707 (by decide) ?_
  refine r_iaddN hx hb dL_law_708 ?_
  refine r_sld hx hb hX hbl hS (i + 1) (by omega) hL dL_law_709 ?_
  refine lv_aload_n hx hb dL_law_710 rfl (lv_at hl 0 rfl) ?_
  refine lv_iload_n hx hb dL_law_711 rfl (lv_at hl 3 rfl) ?_
  refine lv_iconst (v := nI 2) hx hb dL_law_712 (by decide) ?_
  refine r_iaddN hx hb dL_law_713 ?_
  refine r_sld hx hb hX hbl hS (i + 2) (by omega) hL dL_law_714 ?_
  refine r_mVi (av := [.int (xs (i + 1)), .int (xs (i + 2))]) (c_X3_even l G t b0 z gr sl bc bk kp im hz  (xs (i + 1)) (xs (i + 2))) ⟨hx, hb, hml, hown, hts⟩ (cwV 2 hts gL_law_X3_even rfl rfl rfl (by decide +kernel) ⟨Nat.le_of_ble_eq_true rfl, Nat.le_of_ble_eq_true rfl⟩) mv_K ⟨hK, hPX⟩ (at_recv hK (PX_o hPX) rfl) rfl hl (Nat.le_of_ble_eq_true rfl) ⟨Nat.le_refl _, Nat.le_refl _⟩ rfl dL_law_715 hS (fun q h => Nat.le_trans hb0 h.1) (fun r1 H locs hP hz9 hk hS => ?_)
  obtain ⟨e1, hPX⟩ := hP
  have hPM := PM_keptA hPM hk (fun q h1 h2 h3 => by have h4 := h3.2; omega)
  have hZ := ZS_kept hZ (fun q h1 h2 => hk q h1 (fun h3 => h2 (Nat.le_trans hb0 h3.1)))
  refine r_top (y := rEven (xs (i + 1)) (xs (i + 2)) z) e1 ?_
  refine lv_aload_n hx hb dL_law_718 rfl (lv_at hl 2 rfl) ?_
  refine lv_aload_n hx hb dL_law_719 rfl (lv_at hl 0 rfl) ?_
  refine lv_iload_n hx hb dL_law_720 rfl (lv_at hl 3 rfl) ?_
  refine lv_iconst (v := nI 1) hx hb dL_law_721 (by decide) ?_
  refine r_iaddN hx hb dL_law_722 ?_
  refine r_sld hx hb hX hbl hS (i + 1) (by omega) hL dL_law_723 ?_
  refine lv_aload_n hx hb dL_law_724 rfl (lv_at hl 0 rfl) ?_
  refine lv_iload_n hx hb dL_law_725 rfl (lv_at hl 3 rfl) ?_
  refine lv_iconst (v := nI 2) hx hb dL_law_726 (by decide) ?_
  refine r_iaddN hx hb dL_law_727 ?_
  refine r_sld hx hb hX hbl hS (i + 2) (by omega) hL dL_law_728 ?_
  obtain ⟨fs4, hM0⟩ := PM_o hPM
  refine r_mVi (av := [.int (xs (i + 1)), .int (xs (i + 2))]) (c_X4_even l G t d z gr sl bc bk kp im hz (xs (i + 1)) (xs (i + 2))) ⟨hx, hb, hml, hown, hts⟩ (cwV 2 hts gL_law_X4_even rfl rfl rfl (by decide +kernel) ⟨Nat.le_of_ble_eq_true rfl, Nat.le_of_ble_eq_true rfl⟩) mv_K ⟨hK, hPM⟩ (at_recv hK hM0 rfl) rfl hl (Nat.le_of_ble_eq_true rfl) ⟨Nat.le_refl _, Nat.le_refl _⟩ rfl dL_law_729 hS (fun q h => by have h1 := h.1; show s.heap.size ≤ q; omega) (fun r2 H locs hP hz9 hk hS => ?_)
  obtain ⟨e2, hPM⟩ := hP
  have hPX := PX_keptA hPX hk (fun q h1 h2 h3 => by have h4 := h3.1; omega)
  have hZ := ZS_kept hZ (fun q h1 h2 => hk q h1 (fun h3 => h2 (by have h4 := h3.1; show s.heap.size ≤ q; omega)))
  refine r_top (y := rEven (xs (i + 1)) (xs (i + 2)) z) e2 ?_
  refine lv_icmp_eq (tgt := 832) hx hb dL_law_732 (by decide) (fun _ => ?_) (fun c9 => absurd rfl c9)
  exact K _ _ _ _ ⟨hPX, hPM, hS2, hS, hZ⟩ hl

set_option maxHeartbeats 4000000 in
set_option maxRecDepth 100000 in
/-- run -/
theorem lw_k17 {p : Program} {e : Env} {s : State} {m : MethodId} {below : List Frame} {meth : Method} {c : Code} (l : Launch) {b L : Nat} {xs : Nat → Int32} {G : va_G} {t : gT} {b0 d i : Nat} (C0 : LC p s m c b L xs G t b0 d) (hi : i + 5 ≤ L) {z : Nat → Int32} {gr : Nat → Nat} {sl bc : Nat} {bk : Nat → Nat → Int32} {kp : Nat → Bool} {im : Nat → Nat → Int32} {H : Heap} {locs : List Loc} (h0 : LI s G t b0 d (z, gr, sl, bc, bk, kp, im) H locs) (K : LK p l e s m below meth c b G t b0 d i) {ls : Array Slot} (hl : lv_has ls 4 [(0, .ref b), (1, .ref b0), (2, .ref d), (3, .int (nI i))]) : LW p l e s m below meth c b H locs ls 737 := by
  obtain ⟨hx, hb, hml, hown, hts, hX, hbl, hK, hb0, hd, hL⟩ := C0
  obtain ⟨hPX, hPM, hS2, hS, hZ⟩ := h0
  obtain ⟨⟨hz, hg, hg2, hsl, hbc, hwb, hwi⟩, hcn⟩ := id hS2
  refine lv_aload_n hx hb dL_law_737 rfl (lv_at hl 1 rfl) ?_
  refine lv_aload_n hx hb dL_law_738 rfl (lv_at hl 0 rfl) ?_
  refine lv_iload_n hx hb dL_law_739 rfl (lv_at hl 3 rfl) ?_
  refine lv_iconst (v := nI 1) hx hb dL_law_740 (by decide) ?_
  refine r_iaddN hx hb dL_law_741 ?_
  refine r_sld hx hb hX hbl hS (i + 1) (by omega) hL dL_law_742 ?_
  refine r_mVi (av := [.int (xs (i + 1))]) (c_X3_run l G t b0 z gr sl bc bk kp im hz hsl hg hg2 (xs (i + 1))) ⟨hx, hb, hml, hown, hts⟩ (cwV 1 hts gL_law_X3_run rfl rfl rfl (by decide +kernel) ⟨Nat.le_of_ble_eq_true rfl, Nat.le_of_ble_eq_true rfl⟩) mv_K ⟨hK, hPX⟩ (at_recv hK (PX_o hPX) rfl) rfl hl (Nat.le_of_ble_eq_true rfl) ⟨Nat.le_refl _, Nat.le_refl _⟩ rfl dL_law_743 hS (fun q h => Nat.le_trans hb0 h.1) (fun r1 H locs hP hz9 hk hS => ?_)
  obtain ⟨e1, hPX⟩ := hP
  have hPM := PM_keptA hPM hk (fun q h1 h2 h3 => by have h4 := h3.2; omega)
  have hZ := ZS_kept hZ (fun q h1 h2 => hk q h1 (fun h3 => h2 (Nat.le_trans hb0 h3.1)))
  refine r_top (y := rRun (xs (i + 1)) z gr sl) e1 ?_
  refine lv_aload_n hx hb dL_law_746 rfl (lv_at hl 2 rfl) ?_
  refine lv_aload_n hx hb dL_law_747 rfl (lv_at hl 0 rfl) ?_
  refine lv_iload_n hx hb dL_law_748 rfl (lv_at hl 3 rfl) ?_
  refine lv_iconst (v := nI 1) hx hb dL_law_749 (by decide) ?_
  refine r_iaddN hx hb dL_law_750 ?_
  refine r_sld hx hb hX hbl hS (i + 1) (by omega) hL dL_law_751 ?_
  obtain ⟨fs4, hM0⟩ := PM_o hPM
  refine r_mVi (av := [.int (xs (i + 1))]) (c_X4_run l G t d z gr sl bc bk kp im hz hsl hg hg2 (xs (i + 1))) ⟨hx, hb, hml, hown, hts⟩ (cwV 1 hts gL_law_X4_run rfl rfl rfl (by decide +kernel) ⟨Nat.le_of_ble_eq_true rfl, Nat.le_of_ble_eq_true rfl⟩) mv_K ⟨hK, hPM⟩ (at_recv hK hM0 rfl) rfl hl (Nat.le_of_ble_eq_true rfl) ⟨Nat.le_refl _, Nat.le_refl _⟩ rfl dL_law_752 hS (fun q h => by have h1 := h.1; show s.heap.size ≤ q; omega) (fun r2 H locs hP hz9 hk hS => ?_)
  obtain ⟨e2, hPM⟩ := hP
  have hPX := PX_keptA hPX hk (fun q h1 h2 h3 => by have h4 := h3.1; omega)
  have hZ := ZS_kept hZ (fun q h1 h2 => hk q h1 (fun h3 => h2 (by have h4 := h3.1; show s.heap.size ≤ q; omega)))
  refine r_top (y := rRun (xs (i + 1)) z gr sl) e2 ?_
  refine lv_icmp_eq (tgt := 832) hx hb dL_law_755 (by decide) (fun _ => ?_) (fun c9 => absurd rfl c9)
  exact K _ _ _ _ ⟨hPX, hPM, S2_run hS2, hS, hZ⟩ hl

set_option maxHeartbeats 4000000 in
set_option maxRecDepth 100000 in
/-- merge -/
theorem lw_k18 {p : Program} {e : Env} {s : State} {m : MethodId} {below : List Frame} {meth : Method} {c : Code} (l : Launch) {b L : Nat} {xs : Nat → Int32} {G : va_G} {t : gT} {b0 d i : Nat} (C0 : LC p s m c b L xs G t b0 d) (hi : i + 5 ≤ L) {z : Nat → Int32} {gr : Nat → Nat} {sl bc : Nat} {bk : Nat → Nat → Int32} {kp : Nat → Bool} {im : Nat → Nat → Int32} {H : Heap} {locs : List Loc} (h0 : LI s G t b0 d (z, gr, sl, bc, bk, kp, im) H locs) (K : LK p l e s m below meth c b G t b0 d i) {ls : Array Slot} (hl : lv_has ls 4 [(0, .ref b), (1, .ref b0), (2, .ref d), (3, .int (nI i))]) : LW p l e s m below meth c b H locs ls 760 := by
  obtain ⟨hx, hb, hml, hown, hts, hX, hbl, hK, hb0, hd, hL⟩ := C0
  obtain ⟨hPX, hPM, hS2, hS, hZ⟩ := h0
  obtain ⟨⟨hz, hg, hg2, hsl, hbc, hwb, hwi⟩, hcn⟩ := id hS2
  refine lv_aload_n hx hb dL_law_760 rfl (lv_at hl 1 rfl) ?_
  refine r_mVi (av := []) (c_X3_merge l G t b0 z gr sl bc bk kp im hz hsl hg hg2 ) ⟨hx, hb, hml, hown, hts⟩ (cwV 0 hts gL_law_X3_merge rfl rfl rfl (by decide +kernel) ⟨Nat.le_of_ble_eq_true rfl, Nat.le_of_ble_eq_true rfl⟩) mv_K ⟨hK, hPX⟩ (at_recv hK (PX_o hPX) rfl) rfl hl (Nat.le_of_ble_eq_true rfl) ⟨Nat.le_refl _, Nat.le_refl _⟩ rfl dL_law_761 hS (fun q h => Nat.le_trans hb0 h.1) (fun r1 H locs hP hz9 hk hS => ?_)
  obtain ⟨e1, hPX⟩ := hP
  have hPM := PM_keptA hPM hk (fun q h1 h2 h3 => by have h4 := h3.2; omega)
  have hZ := ZS_kept hZ (fun q h1 h2 => hk q h1 (fun h3 => h2 (Nat.le_trans hb0 h3.1)))
  refine r_top (y := rMerge z gr sl) e1 ?_
  refine lv_aload_n hx hb dL_law_764 rfl (lv_at hl 2 rfl) ?_
  obtain ⟨fs4, hM0⟩ := PM_o hPM
  refine r_mVi (av := []) (c_X4_merge l G t d z gr sl bc bk kp im hz hsl hg hg2 ) ⟨hx, hb, hml, hown, hts⟩ (cwV 0 hts gL_law_X4_merge rfl rfl rfl (by decide +kernel) ⟨Nat.le_of_ble_eq_true rfl, Nat.le_of_ble_eq_true rfl⟩) mv_K ⟨hK, hPM⟩ (at_recv hK hM0 rfl) rfl hl (Nat.le_of_ble_eq_true rfl) ⟨Nat.le_refl _, Nat.le_refl _⟩ rfl dL_law_765 hS (fun q h => by have h1 := h.1; show s.heap.size ≤ q; omega) (fun r2 H locs hP hz9 hk hS => ?_)
  obtain ⟨e2, hPM⟩ := hP
  have hPX := PX_keptA hPX hk (fun q h1 h2 h3 => by have h4 := h3.1; omega)
  have hZ := ZS_kept hZ (fun q h1 h2 => hk q h1 (fun h3 => h2 (by have h4 := h3.1; show s.heap.size ≤ q; omega)))
  refine r_top (y := rMerge z gr sl) e2 ?_
  refine lv_icmp_eq (tgt := 832) hx hb dL_law_768 (by decide) (fun _ => ?_) (fun c9 => absurd rfl c9)
  exact K _ _ _ _ ⟨hPX, hPM, S2_merge hS2, hS, hZ⟩ hl

set_option maxHeartbeats 4000000 in
set_option maxRecDepth 100000 in
/-- part -/
theorem lw_k19 {p : Program} {e : Env} {s : State} {m : MethodId} {below : List Frame} {meth : Method} {c : Code} (l : Launch) {b L : Nat} {xs : Nat → Int32} {G : va_G} {t : gT} {b0 d i : Nat} (C0 : LC p s m c b L xs G t b0 d) (hi : i + 5 ≤ L) {z : Nat → Int32} {gr : Nat → Nat} {sl bc : Nat} {bk : Nat → Nat → Int32} {kp : Nat → Bool} {im : Nat → Nat → Int32} {H : Heap} {locs : List Loc} (h0 : LI s G t b0 d (z, gr, sl, bc, bk, kp, im) H locs) (K : LK p l e s m below meth c b G t b0 d i) {ls : Array Slot} (hl : lv_has ls 4 [(0, .ref b), (1, .ref b0), (2, .ref d), (3, .int (nI i))]) : LW p l e s m below meth c b H locs ls 773 := by
  obtain ⟨hx, hb, hml, hown, hts, hX, hbl, hK, hb0, hd, hL⟩ := C0
  obtain ⟨hPX, hPM, hS2, hS, hZ⟩ := h0
  obtain ⟨⟨hz, hg, hg2, hsl, hbc, hwb, hwi⟩, hcn⟩ := id hS2
  refine lv_aload_n hx hb dL_law_773 rfl (lv_at hl 1 rfl) ?_
  refine r_mVi (av := []) (c_X3_part l G t b0 z gr sl bc bk kp im hz  ) ⟨hx, hb, hml, hown, hts⟩ (cwV 0 hts gL_law_X3_part rfl rfl rfl (by decide +kernel) ⟨Nat.le_of_ble_eq_true rfl, Nat.le_of_ble_eq_true rfl⟩) mv_K ⟨hK, hPX⟩ (at_recv hK (PX_o hPX) rfl) rfl hl (Nat.le_of_ble_eq_true rfl) ⟨Nat.le_refl _, Nat.le_refl _⟩ rfl dL_law_774 hS (fun q h => Nat.le_trans hb0 h.1) (fun r1 H locs hP hz9 hk hS => ?_)
  obtain ⟨e1, hPX⟩ := hP
  have hPM := PM_keptA hPM hk (fun q h1 h2 h3 => by have h4 := h3.2; omega)
  have hZ := ZS_kept hZ (fun q h1 h2 => hk q h1 (fun h3 => h2 (Nat.le_trans hb0 h3.1)))
  refine r_top (y := nI sl) e1 ?_
  refine lv_aload_n hx hb dL_law_777 rfl (lv_at hl 2 rfl) ?_
  obtain ⟨fs4, hM0⟩ := PM_o hPM
  refine r_mVi (av := []) (c_X4_part l G t d z gr sl bc bk kp im hz ) ⟨hx, hb, hml, hown, hts⟩ (cwV 0 hts gL_law_X4_part rfl rfl rfl (by decide +kernel) ⟨Nat.le_of_ble_eq_true rfl, Nat.le_of_ble_eq_true rfl⟩) mv_K ⟨hK, hPM⟩ (at_recv hK hM0 rfl) rfl hl (Nat.le_of_ble_eq_true rfl) ⟨Nat.le_refl _, Nat.le_refl _⟩ rfl dL_law_778 hS (fun q h => by have h1 := h.1; show s.heap.size ≤ q; omega) (fun r2 H locs hP hz9 hk hS => ?_)
  obtain ⟨e2, hPM⟩ := hP
  have hPX := PX_keptA hPX hk (fun q h1 h2 h3 => by have h4 := h3.1; omega)
  have hZ := ZS_kept hZ (fun q h1 h2 => hk q h1 (fun h3 => h2 (by have h4 := h3.1; show s.heap.size ≤ q; omega)))
  refine r_top (y := nI sl) e2 ?_
  refine lv_icmp_eq (tgt := 832) hx hb dL_law_781 (by decide) (fun _ => ?_) (fun c9 => absurd rfl c9)
  exact K _ _ _ _ ⟨hPX, hPM, S2_part hS2, hS, hZ⟩ hl

set_option maxHeartbeats 4000000 in
set_option maxRecDepth 100000 in
/-- keep -/
theorem lw_k20 {p : Program} {e : Env} {s : State} {m : MethodId} {below : List Frame} {meth : Method} {c : Code} (l : Launch) {b L : Nat} {xs : Nat → Int32} {G : va_G} {t : gT} {b0 d i : Nat} (C0 : LC p s m c b L xs G t b0 d) (hi : i + 5 ≤ L) {z : Nat → Int32} {gr : Nat → Nat} {sl bc : Nat} {bk : Nat → Nat → Int32} {kp : Nat → Bool} {im : Nat → Nat → Int32} {H : Heap} {locs : List Loc} (h0 : LI s G t b0 d (z, gr, sl, bc, bk, kp, im) H locs) (K : LK p l e s m below meth c b G t b0 d i) {ls : Array Slot} (hl : lv_has ls 4 [(0, .ref b), (1, .ref b0), (2, .ref d), (3, .int (nI i))]) : LW p l e s m below meth c b H locs ls 786 := by
  obtain ⟨hx, hb, hml, hown, hts, hX, hbl, hK, hb0, hd, hL⟩ := C0
  obtain ⟨hPX, hPM, hS2, hS, hZ⟩ := h0
  obtain ⟨⟨hz, hg, hg2, hsl, hbc, hwb, hwi⟩, hcn⟩ := id hS2
  refine lv_aload_n hx hb dL_law_786 rfl (lv_at hl 1 rfl) ?_
  refine lv_aload_n hx hb dL_law_787 rfl (lv_at hl 0 rfl) ?_
  refine lv_iload_n hx hb dL_law_788 rfl (lv_at hl 3 rfl) ?_
  refine lv_iconst (v := nI 1) hx hb dL_law_789 (by decide) ?_
  refine r_iaddN hx hb dL_law_790 ?_
  refine r_sld hx hb hX hbl hS (i + 1) (by omega) hL dL_law_791 ?_
  refine r_mVi (av := [.int (xs (i + 1))]) (c_X3_keep l G t b0 z gr sl bc bk kp im hz  (xs (i + 1))) ⟨hx, hb, hml, hown, hts⟩ (cwV 1 hts gL_law_X3_keep rfl rfl rfl (by decide +kernel) ⟨Nat.le_of_ble_eq_true rfl, Nat.le_of_ble_eq_true rfl⟩) mv_K ⟨hK, hPX⟩ (at_recv hK (PX_o hPX) rfl) rfl hl (Nat.le_of_ble_eq_true rfl) ⟨Nat.le_refl _, Nat.le_refl _⟩ rfl dL_law_792 hS (fun q h => Nat.le_trans hb0 h.1) (fun r1 H locs hP hz9 hk hS => ?_)
  obtain ⟨e1, hPX⟩ := hP
  have hPM := PM_keptA hPM hk (fun q h1 h2 h3 => by have h4 := h3.2; omega)
  have hZ := ZS_kept hZ (fun q h1 h2 => hk q h1 (fun h3 => h2 (Nat.le_trans hb0 h3.1)))
  refine r_top (y := rKeep (xs (i + 1)) z) e1 ?_
  refine lv_aload_n hx hb dL_law_795 rfl (lv_at hl 2 rfl) ?_
  refine lv_aload_n hx hb dL_law_796 rfl (lv_at hl 0 rfl) ?_
  refine lv_iload_n hx hb dL_law_797 rfl (lv_at hl 3 rfl) ?_
  refine lv_iconst (v := nI 1) hx hb dL_law_798 (by decide) ?_
  refine r_iaddN hx hb dL_law_799 ?_
  refine r_sld hx hb hX hbl hS (i + 1) (by omega) hL dL_law_800 ?_
  obtain ⟨fs4, hM0⟩ := PM_o hPM
  refine r_mVi (av := [.int (xs (i + 1))]) (c_X4_keep l G t d z gr sl bc bk kp im hz (xs (i + 1))) ⟨hx, hb, hml, hown, hts⟩ (cwV 1 hts gL_law_X4_keep rfl rfl rfl (by decide +kernel) ⟨Nat.le_of_ble_eq_true rfl, Nat.le_of_ble_eq_true rfl⟩) mv_K ⟨hK, hPM⟩ (at_recv hK hM0 rfl) rfl hl (Nat.le_of_ble_eq_true rfl) ⟨Nat.le_refl _, Nat.le_refl _⟩ rfl dL_law_801 hS (fun q h => by have h1 := h.1; show s.heap.size ≤ q; omega) (fun r2 H locs hP hz9 hk hS => ?_)
  obtain ⟨e2, hPM⟩ := hP
  have hPX := PX_keptA hPX hk (fun q h1 h2 h3 => by have h4 := h3.1; omega)
  have hZ := ZS_kept hZ (fun q h1 h2 => hk q h1 (fun h3 => h2 (by have h4 := h3.1; show s.heap.size ≤ q; omega)))
  refine r_top (y := rKeep (xs (i + 1)) z) e2 ?_
  refine lv_icmp_eq (tgt := 832) hx hb dL_law_804 (by decide) (fun _ => ?_) (fun c9 => absurd rfl c9)
  exact K _ _ _ _ ⟨hPX, hPM, S2_keep hS2, hS, hZ⟩ hl

set_option maxHeartbeats 4000000 in
set_option maxRecDepth 100000 in
/-- goBack -/
theorem lw_k21 {p : Program} {e : Env} {s : State} {m : MethodId} {below : List Frame} {meth : Method} {c : Code} (l : Launch) {b L : Nat} {xs : Nat → Int32} {G : va_G} {t : gT} {b0 d i : Nat} (C0 : LC p s m c b L xs G t b0 d) (hi : i + 5 ≤ L) {z : Nat → Int32} {gr : Nat → Nat} {sl bc : Nat} {bk : Nat → Nat → Int32} {kp : Nat → Bool} {im : Nat → Nat → Int32} {H : Heap} {locs : List Loc} (h0 : LI s G t b0 d (z, gr, sl, bc, bk, kp, im) H locs) (K : LK p l e s m below meth c b G t b0 d i) {ls : Array Slot} (hl : lv_has ls 4 [(0, .ref b), (1, .ref b0), (2, .ref d), (3, .int (nI i))]) : LW p l e s m below meth c b H locs ls 809 := by
  obtain ⟨hx, hb, hml, hown, hts, hX, hbl, hK, hb0, hd, hL⟩ := C0
  obtain ⟨hPX, hPM, hS2, hS, hZ⟩ := h0
  obtain ⟨⟨hz, hg, hg2, hsl, hbc, hwb, hwi⟩, hcn⟩ := id hS2
  refine lv_aload_n hx hb dL_law_809 rfl (lv_at hl 1 rfl) ?_
  refine lv_aload_n hx hb dL_law_810 rfl (lv_at hl 0 rfl) ?_
  refine lv_iload_n hx hb dL_law_811 rfl (lv_at hl 3 rfl) ?_
  refine lv_iconst (v := nI 1) hx hb dL_law_812 (by decide) ?_
  refine r_iaddN hx hb dL_law_813 ?_
  refine r_sld hx hb hX hbl hS (i + 1) (by omega) hL dL_law_814 ?_
  refine r_mVi (av := [.int (xs (i + 1))]) (c_X3_goBack l G t b0 z gr sl bc bk kp im hz hwi (xs (i + 1))) ⟨hx, hb, hml, hown, hts⟩ (cwV 1 hts gL_law_X3_goBack rfl rfl rfl (by decide +kernel) ⟨Nat.le_of_ble_eq_true rfl, Nat.le_of_ble_eq_true rfl⟩) mv_K ⟨hK, hPX⟩ (at_recv hK (PX_o hPX) rfl) rfl hl (Nat.le_of_ble_eq_true rfl) ⟨Nat.le_refl _, Nat.le_refl _⟩ rfl dL_law_815 hS (fun q h => Nat.le_trans hb0 h.1) (fun r1 H locs hP hz9 hk hS => ?_)
  obtain ⟨e1, hPX⟩ := hP
  have hPM := PM_keptA hPM hk (fun q h1 h2 h3 => by have h4 := h3.2; omega)
  have hZ := ZS_kept hZ (fun q h1 h2 => hk q h1 (fun h3 => h2 (Nat.le_trans hb0 h3.1)))
  refine r_top (y := rGoBack (xs (i + 1)) kp im) e1 ?_
  refine lv_aload_n hx hb dL_law_818 rfl (lv_at hl 2 rfl) ?_
  refine lv_aload_n hx hb dL_law_819 rfl (lv_at hl 0 rfl) ?_
  refine lv_iload_n hx hb dL_law_820 rfl (lv_at hl 3 rfl) ?_
  refine lv_iconst (v := nI 1) hx hb dL_law_821 (by decide) ?_
  refine r_iaddN hx hb dL_law_822 ?_
  refine r_sld hx hb hX hbl hS (i + 1) (by omega) hL dL_law_823 ?_
  obtain ⟨fs4, hM0⟩ := PM_o hPM
  refine r_mVi (av := [.int (xs (i + 1))]) (c_X4_goBack l G t d z gr sl bc bk kp im hz hwi (xs (i + 1))) ⟨hx, hb, hml, hown, hts⟩ (cwV 1 hts gL_law_X4_goBack rfl rfl rfl (by decide +kernel) ⟨Nat.le_of_ble_eq_true rfl, Nat.le_of_ble_eq_true rfl⟩) mv_K ⟨hK, hPM⟩ (at_recv hK hM0 rfl) rfl hl (Nat.le_of_ble_eq_true rfl) ⟨Nat.le_refl _, Nat.le_refl _⟩ rfl dL_law_824 hS (fun q h => by have h1 := h.1; show s.heap.size ≤ q; omega) (fun r2 H locs hP hz9 hk hS => ?_)
  obtain ⟨e2, hPM⟩ := hP
  have hPX := PX_keptA hPX hk (fun q h1 h2 h3 => by have h4 := h3.1; omega)
  have hZ := ZS_kept hZ (fun q h1 h2 => hk q h1 (fun h3 => h2 (by have h4 := h3.1; show s.heap.size ≤ q; omega)))
  refine r_top (y := rGoBack (xs (i + 1)) kp im) e2 ?_
  refine lv_icmp_eq (tgt := 832) hx hb dL_law_827 (by decide) (fun _ => ?_) (fun c9 => absurd rfl c9)
  exact K _ _ _ _ ⟨hPX, hPM, S2_goBack hS2, hS, hZ⟩ hl
