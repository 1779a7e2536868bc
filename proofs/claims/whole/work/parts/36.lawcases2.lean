/-! the law, call by call (printed by wip/whole/m15.py) -/
set_option maxHeartbeats 4000000 in
set_option maxRecDepth 100000 in
/-- userOf -/
theorem lw_k8 {p : Program} {e : Env} {s : State} {m : MethodId} {below : List Frame} {meth : Method} {c : Code} (l : Launch) {b L : Nat} {xs : Nat → Int32} {G : va_G} {t : gT} {b0 d i : Nat} (C0 : LC p s m c b L xs G t b0 d) (hi : i + 5 ≤ L) {z : Nat → Int32} {gr : Nat → Nat} {sl bc : Nat} {bk : Nat → Nat → Int32} {kp : Nat → Bool} {im : Nat → Nat → Int32} {H : Heap} {locs : List Loc} (h0 : LI s G t b0 d (z, gr, sl, bc, bk, kp, im) H locs) (K : LK p l e s m below meth c b G t b0 d i) {ls : Array Slot} (hl : lv_has ls 4 [(0, .ref b), (1, .ref b0), (2, .ref d), (3, .int (nI i))]) : LW p l e s m below meth c b H locs ls 400 := by
  obtain ⟨hx, hb, hml, hown, hts, hX, hbl, hK, hb0, hd, hL⟩ := C0
  obtain ⟨hPX, hPM, hS2, hS, hZ⟩ := h0
  obtain ⟨⟨hz, hg, hg2, hsl, hbc, hwb, hwi⟩, hcn⟩ := id hS2
  refine lv_aload_n hx hb dL_law_400 rfl (lv_at hl 1 rfl) ?_
  refine lv_aload_n hx hb dL_law_401 rfl (lv_at hl 0 rfl) ?_
  refine lv_iload_n hx hb dL_law_402 rfl (lv_at hl 3 rfl) ?_
  refine lv_iconst (v := nI 1) hx hb dL_law_403 (by decide) ?_
  refine r_iaddN hx hb dL_law_404 ?_
  refine r_sld hx hb hX hbl hS (i + 1) (by omega) hL dL_law_405 ?_
  refine lv_aload_n hx hb dL_law_406 rfl (lv_at hl 0 rfl) ?_
  refine lv_iload_n hx hb dL_law_407 rfl (lv_at hl 3 rfl) ?_
  refine lv_iconst (v := nI 2) hx hb dL_law_408 (by decide) ?_
  refine r_iaddN hx hb dL_law_409 ?_
  refine r_sld hx hb hX hbl hS (i + 2) (by omega) hL dL_law_410 ?_
  refine r_cV (av := [.int (xs (i + 1)), .int (xs (i + 2))]) (c_X3_userOf l G t b0 z gr sl bc bk kp im hz hg (xs (i + 1)) (xs (i + 2))) ⟨hx, hb, hml, hown, hts⟩ (cwV 2 hts gL_law_X3_userOf rfl rfl rfl (by decide +kernel) ⟨Nat.le_of_ble_eq_true rfl, Nat.le_of_ble_eq_true rfl⟩) mv_K ⟨hK, hPX⟩ (at_recv hK (PX_o hPX) rfl) rfl hl (Nat.le_of_ble_eq_true rfl) ⟨Nat.le_refl _, Nat.le_refl _⟩ rfl dL_law_411 (fun r1 hr1 => ?_)
  subst hr1
  refine lv_aload_n hx hb dL_law_414 rfl (lv_at hl 2 rfl) ?_
  refine lv_aload_n hx hb dL_law_415 rfl (lv_at hl 0 rfl) ?_
  refine lv_iload_n hx hb dL_law_416 rfl (lv_at hl 3 rfl) ?_
  refine lv_iconst (v := nI 1) hx hb dL_law_417 (by decide) ?_
  refine r_iaddN hx hb dL_law_418 ?_
  refine r_sld hx hb hX hbl hS (i + 1) (by omega) hL dL_law_419 ?_
  refine lv_aload_n hx hb dL_law_420 rfl (lv_at hl 0 rfl) ?_
  refine lv_iload_n hx hb dL_law_421 rfl (lv_at hl 3 rfl) ?_
  refine lv_iconst (v := nI 2) hx hb dL_law_422 (by decide) ?_
  refine r_iaddN hx hb dL_law_423 ?_
  refine r_sld hx hb hX hbl hS (i + 2) (by omega) hL dL_law_424 ?_
  obtain ⟨fs4, hM0⟩ := PM_o hPM
  refine r_cV (av := [.int (xs (i + 1)), .int (xs (i + 2))]) (c_X4_userOf l G t d z gr sl bc bk kp im hz hg (xs (i + 1)) (xs (i + 2))) ⟨hx, hb, hml, hown, hts⟩ (cwV 2 hts gL_law_X4_userOf rfl rfl rfl (by decide +kernel) ⟨Nat.le_of_ble_eq_true rfl, Nat.le_of_ble_eq_true rfl⟩) mv_K ⟨hK, hPM⟩ (at_recv hK hM0 rfl) rfl hl (Nat.le_of_ble_eq_true rfl) ⟨Nat.le_refl _, Nat.le_refl _⟩ rfl dL_law_425 (fun r2 hr2 => ?_)
  subst hr2
  refine lv_icmp_eq (tgt := 832) hx hb dL_law_428 (by decide) (fun _ => ?_) (fun c9 => absurd rfl c9)
  exact K _ _ _ _ ⟨hPX, hPM, hS2, hS, hZ⟩ hl

set_option maxHeartbeats 4000000 in
set_option maxRecDepth 100000 in
/-- pointsAt -/
theorem lw_k9 {p : Program} {e : Env} {s : State} {m : MethodId} {below : List Frame} {meth : Method} {c : Code} (l : Launch) {b L : Nat} {xs : Nat → Int32} {G : va_G} {t : gT} {b0 d i : Nat} (C0 : LC p s m c b L xs G t b0 d) (hi : i + 5 ≤ L) {z : Nat → Int32} {gr : Nat → Nat} {sl bc : Nat} {bk : Nat → Nat → Int32} {kp : Nat → Bool} {im : Nat → Nat → Int32} {H : Heap} {locs : List Loc} (h0 : LI s G t b0 d (z, gr, sl, bc, bk, kp, im) H locs) (K : LK p l e s m below meth c b G t b0 d i) {ls : Array Slot} (hl : lv_has ls 4 [(0, .ref b), (1, .ref b0), (2, .ref d), (3, .int (nI i))]) : LW p l e s m below meth c b H locs ls 433 := by
  obtain ⟨hx, hb, hml, hown, hts, hX, hbl, hK, hb0, hd, hL⟩ := C0
  obtain ⟨hPX, hPM, hS2, hS, hZ⟩ := h0
  obtain ⟨⟨hz, hg, hg2, hsl, hbc, hwb, hwi⟩, hcn⟩ := id hS2
  refine lv_aload_n hx hb dL_law_433 rfl (lv_at hl 1 rfl) ?_
  refine lv_aload_n hx hb dL_law_434 rfl (lv_at hl 0 rfl) ?_
  refine lv_iload_n hx hb dL_law_435 rfl (lv_at hl 3 rfl) ?_
  refine lv_iconst (v := nI 1) hx hb dL_law_436 (by decide) ?_
  refine r_iaddN hx hb dL_law_437 ?_
  refine r_sld hx hb hX hbl hS (i + 1) (by omega) hL dL_law_438 ?_
  refine lv_aload_n hx hb dL_law_439 rfl (lv_at hl 0 rfl) ?_
  refine lv_iload_n hx hb dL_law_440 rfl (lv_at hl 3 rfl) ?_
  refine lv_iconst (v := nI 2) hx hb dL_law_441 (by decide) ?_
  refine r_iaddN hx hb dL_law_442 ?_
  refine r_sld hx hb hX hbl hS (i + 2) (by omega) hL dL_law_443 ?_
  refine r_cV (av := [.int (xs (i + 1)), .int (xs (i + 2))]) (c_X3_pointsAt l G t b0 z gr sl bc bk kp im hz  (xs (i + 1)) (xs (i + 2))) ⟨hx, hb, hml, hown, hts⟩ (cwV 2 hts gL_law_X3_pointsAt rfl rfl rfl (by decide +kernel) ⟨Nat.le_of_ble_eq_true rfl, Nat.le_of_ble_eq_true rfl⟩) mv_K ⟨hK, hPX⟩ (at_recv hK (PX_o hPX) rfl) rfl hl (Nat.le_of_ble_eq_true rfl) ⟨Nat.le_refl _, Nat.le_refl _⟩ rfl dL_law_444 (fun r1 hr1 => ?_)
  subst hr1
  refine lv_aload_n hx hb dL_law_447 rfl (lv_at hl 2 rfl) ?_
  refine lv_aload_n hx hb dL_law_448 rfl (lv_at hl 0 rfl) ?_
  refine lv_iload_n hx hb dL_law_449 rfl (lv_at hl 3 rfl) ?_
  refine lv_iconst (v := nI 1) hx hb dL_law_450 (by decide) ?_
  refine r_iaddN hx hb dL_law_451 ?_
  refine r_sld hx hb hX hbl hS (i + 1) (by omega) hL dL_law_452 ?_
  refine lv_aload_n hx hb dL_law_453 rfl (lv_at hl 0 rfl) ?_
  refine lv_iload_n hx hb dL_law_454 rfl (lv_at hl 3 rfl) ?_
  refine lv_iconst (v := nI 2) hx hb dL_law_455 (by decide) ?_
  refine r_iaddN hx hb dL_law_456 ?_
  refine r_sld hx hb hX hbl hS (i + 2) (by omega) hL dL_law_457 ?_
  obtain ⟨fs4, hM0⟩ := PM_o hPM
  refine r_cV (av := [.int (xs (i + 1)), .int (xs (i + 2))]) (c_X4_pointsAt l G t d z hz (xs (i + 1)) (xs (i + 2))) ⟨hx, hb, hml, hown, hts⟩ (cwV 2 hts gL_law_X4_pointsAt rfl rfl rfl (by decide +kernel) ⟨Nat.le_of_ble_eq_true rfl, Nat.le_of_ble_eq_true rfl⟩) mv_K ⟨hK, PM_Mn hPM⟩ (at_recv hK hM0 rfl) rfl hl (Nat.le_of_ble_eq_true rfl) ⟨Nat.le_refl _, Nat.le_refl _⟩ rfl dL_law_458 (fun r2 hr2 => ?_)
  subst hr2
  refine lv_icmp_eq (tgt := 832) hx hb dL_law_461 (by decide) (fun _ => ?_) (fun c9 => absurd rfl c9)
  exact K _ _ _ _ ⟨hPX, hPM, hS2, hS, hZ⟩ hl

set_option maxHeartbeats 4000000 in
set_option maxRecDepth 100000 in
/-- on -/
theorem lw_k10 {p : Program} {e : Env} {s : State} {m : MethodId} {below : List Frame} {meth : Method} {c : Code} (l : Launch) {b L : Nat} {xs : Nat → Int32} {G : va_G} {t : gT} {b0 d i : Nat} (C0 : LC p s m c b L xs G t b0 d) (hi : i + 5 ≤ L) {z : Nat → Int32} {gr : Nat → Nat} {sl bc : Nat} {bk : Nat → Nat → Int32} {kp : Nat → Bool} {im : Nat → Nat → Int32} {H : Heap} {locs : List Loc} (h0 : LI s G t b0 d (z, gr, sl, bc, bk, kp, im) H locs) (K : LK p l e s m below meth c b G t b0 d i) {ls : Array Slot} (hl : lv_has ls 4 [(0, .ref b), (1, .ref b0), (2, .ref d), (3, .int (nI i))]) : LW p l e s m below meth c b H locs ls 466 := by
  obtain ⟨hx, hb, hml, hown, hts, hX, hbl, hK, hb0, hd, hL⟩ := C0
  obtain ⟨hPX, hPM, hS2, hS, hZ⟩ := h0
  obtain ⟨⟨hz, hg, hg2, hsl, hbc, hwb, hwi⟩, hcn⟩ := id hS2
  refine lv_aload_n hx hb dL_law_466 rfl (lv_at hl 1 rfl) ?_
  refine lv_aload_n hx hb dL_law_467 rfl (lv_at hl 0 rfl) ?_
  refine lv_iload_n hx hb dL_law_468 rfl (lv_at hl 3 rfl) ?_
  refine lv_iconst (v := nI 1) hx hb dL_law_469 (by decide) ?_
  refine r_iaddN hx hb dL_law_470 ?_
  refine r_sld hx hb hX hbl hS (i + 1) (by omega) hL dL_law_471 ?_
  refine lv_aload_n hx hb dL_law_472 rfl (lv_at hl 0 rfl) ?_
  refine lv_iload_n hx hb dL_law_473 rfl (lv_at hl 3 rfl) ?_
  refine lv_iconst (v := nI 2) hx hb dL_law_474 (by decide) ?_
  refine r_iaddN hx hb dL_law_475 ?_
  refine r_sld hx hb hX hbl hS (i + 2) (by omega) hL dL_law_476 ?_
  refine r_cV (av := [.int (xs (i + 1)), .int (xs (i + 2))]) (c_X3_on l G t b0 z gr sl bc bk kp im hz  (xs (i + 1)) (xs (i + 2))) ⟨hx, hb, hml, hown, hts⟩ (cwV 2 hts gL_law_X3_on rfl rfl rfl (by decide +kernel) ⟨Nat.le_of_ble_eq_true rfl, Nat.le_of_ble_eq_true rfl⟩) mv_K ⟨hK, hPX⟩ (at_recv hK (PX_o hPX) rfl) rfl hl (Nat.le_of_ble_eq_true rfl) ⟨Nat.le_refl _, Nat.le_refl _⟩ rfl dL_law_477 (fun r1 hr1 => ?_)
  subst hr1
  refine lv_aload_n hx hb dL_law_480 rfl (lv_at hl 2 rfl) ?_
  refine lv_aload_n hx hb dL_law_481 rfl (lv_at hl 0 rfl) ?_
  refine lv_iload_n hx hb dL_law_482 rfl (lv_at hl 3 rfl) ?_
  refine lv_iconst (v := nI 1) hx hb dL_law_483 (by decide) ?_
  refine r_iaddN hx hb dL_law_484 ?_
  refine r_sld hx hb hX hbl hS (i + 1) (by omega) hL dL_law_485 ?_
  refine lv_aload_n hx hb dL_law_486 rfl (lv_at hl 0 rfl) ?_
  refine lv_iload_n hx hb dL_law_487 rfl (lv_at hl 3 rfl) ?_
  refine lv_iconst (v := nI 2) hx hb dL_law_488 (by decide) ?_
  refine r_iaddN hx hb dL_law_489 ?_
  refine r_sld hx hb hX hbl hS (i + 2) (by omega) hL dL_law_490 ?_
  obtain ⟨fs4, hM0⟩ := PM_o hPM
  refine r_cV (av := [.int (xs (i + 1)), .int (xs (i + 2))]) (c_X4_on l G t d z hz (xs (i + 1)) (xs (i + 2))) ⟨hx, hb, hml, hown, hts⟩ (cwV 2 hts gL_law_X4_on rfl rfl rfl (by decide +kernel) ⟨Nat.le_of_ble_eq_true rfl, Nat.le_of_ble_eq_true rfl⟩) mv_K ⟨hK, PM_Mn hPM⟩ (at_recv hK hM0 rfl) rfl hl (Nat.le_of_ble_eq_true rfl) ⟨Nat.le_refl _, Nat.le_refl _⟩ rfl dL_law_491 (fun r2 hr2 => ?_)
  subst hr2
  refine lv_icmp_eq (tgt := 832) hx hb dL_law_494 (by decide) (fun _ => ?_) (fun c9 => absurd rfl c9)
  exact K _ _ _ _ ⟨hPX, hPM, hS2, hS, hZ⟩ hl

set_option maxHeartbeats 4000000 in
set_option maxRecDepth 100000 in
/-- why -/
theorem lw_k11 {p : Program} {e : Env} {s : State} {m : MethodId} {below : List Frame} {meth : Method} {c : Code} (l : Launch) {b L : Nat} {xs : Nat → Int32} {G : va_G} {t : gT} {b0 d i : Nat} (C0 : LC p s m c b L xs G t b0 d) (hi : i + 5 ≤ L) {z : Nat → Int32} {gr : Nat → Nat} {sl bc : Nat} {bk : Nat → Nat → Int32} {kp : Nat → Bool} {im : Nat → Nat → Int32} {H : Heap} {locs : List Loc} (h0 : LI s G t b0 d (z, gr, sl, bc, bk, kp, im) H locs) (K : LK p l e s m below meth c b G t b0 d i) {ls : Array Slot} (hl : lv_has ls 4 [(0, .ref b), (1, .ref b0), (2, .ref d), (3, .int (nI i))]) : LW p l e s m below meth c b H locs ls 499 := by
  obtain ⟨hx, hb, hml, hown, hts, hX, hbl, hK, hb0, hd, hL⟩ := C0
  obtain ⟨hPX, hPM, hS2, hS, hZ⟩ := h0
  obtain ⟨⟨hz, hg, hg2, hsl, hbc, hwb, hwi⟩, hcn⟩ := id hS2
  refine lv_aload_n hx hb dL_law_499 rfl (lv_at hl 1 rfl) ?_
  refine lv_aload_n hx hb dL_law_500 rfl (lv_at hl 0 rfl) ?_
  refine lv_iload_n hx hb dL_law_501 rfl (lv_at hl 3 rfl) ?_
  refine lv_iconst (v := nI 1) hx hb dL_law_502 (by decide) ?_
  refine r_iaddN hx hb dL_law_503 ?_
  refine r_sld hx hb hX hbl hS (i + 1) (by omega) hL dL_law_504 ?_
  refine lv_aload_n hx hb dL_law_505 rfl (lv_at hl 0 rfl) ?_
  refine lv_iload_n hx hb dL_law_506 rfl (lv_at hl 3 rfl) ?_
  refine lv_iconst (v := nI 2) hx hb dL_law_507 (by decide) ?_
  refine r_iaddN hx hb dL_law_508 ?_
  refine r_sld hx hb hX hbl hS (i + 2) (by omega) hL dL_law_509 ?_
  refine r_cV (av := [.int (xs (i + 1)), .int (xs (i + 2))]) (c_X3_why l G t b0 z gr sl bc bk kp im hz  (xs (i + 1)) (xs (i + 2))) ⟨hx, hb, hml, hown, hts⟩ (cwV 2 hts gL_law_X3_why rfl rfl rfl (by decide +kernel) ⟨Nat.le_of_ble_eq_true rfl, Nat.le_of_ble_eq_true rfl⟩) mv_K ⟨hK, hPX⟩ (at_recv hK (PX_o hPX) rfl) rfl hl (Nat.le_of_ble_eq_true rfl) ⟨Nat.le_refl _, Nat.le_refl _⟩ rfl dL_law_510 (fun r1 hr1 => ?_)
  subst hr1
  refine lv_aload_n hx hb dL_law_513 rfl (lv_at hl 2 rfl) ?_
  refine lv_aload_n hx hb dL_law_514 rfl (lv_at hl 0 rfl) ?_
  refine lv_iload_n hx hb dL_law_515 rfl (lv_at hl 3 rfl) ?_
  refine lv_iconst (v := nI 1) hx hb dL_law_516 (by decide) ?_
  refine r_iaddN hx hb dL_law_517 ?_
  refine r_sld hx hb hX hbl hS (i + 1) (by omega) hL dL_law_518 ?_
  refine lv_aload_n hx hb dL_law_519 rfl (lv_at hl 0 rfl) ?_
  refine lv_iload_n hx hb dL_law_520 rfl (lv_at hl 3 rfl) ?_
  refine lv_iconst (v := nI 2) hx hb dL_law_521 (by decide) ?_
  refine r_iaddN hx hb dL_law_522 ?_
  refine r_sld hx hb hX hbl hS (i + 2) (by omega) hL dL_law_523 ?_
  obtain ⟨fs4, hM0⟩ := PM_o hPM
  refine r_cV (av := [.int (xs (i + 1)), .int (xs (i + 2))]) (c_X4_why l G t d z hz (xs (i + 1)) (xs (i + 2))) ⟨hx, hb, hml, hown, hts⟩ (cwV 2 hts gL_law_X4_why rfl rfl rfl (by decide +kernel) ⟨Nat.le_of_ble_eq_true rfl, Nat.le_of_ble_eq_true rfl⟩) mv_K ⟨hK, PM_Mn hPM⟩ (at_recv hK hM0 rfl) rfl hl (Nat.le_of_ble_eq_true rfl) ⟨Nat.le_refl _, Nat.le_refl _⟩ rfl dL_law_524 (fun r2 hr2 => ?_)
  subst hr2
  refine lv_icmp_eq (tgt := 832) hx hb dL_law_527 (by decide) (fun _ => ?_) (fun c9 => absurd rfl c9)
  exact K _ _ _ _ ⟨hPX, hPM, hS2, hS, hZ⟩ hl

set_option maxHeartbeats 4000000 in
set_option maxRecDepth 100000 in
/-- first -/
theorem lw_k12 {p : Program} {e : Env} {s : State} {m : MethodId} {below : List Frame} {meth : Method} {c : Code} (l : Launch) {b L : Nat} {xs : Nat → Int32} {G : va_G} {t : gT} {b0 d i : Nat} (C0 : LC p s m c b L xs G t b0 d) (hi : i + 5 ≤ L) {z : Nat → Int32} {gr : Nat → Nat} {sl bc : Nat} {bk : Nat → Nat → Int32} {kp : Nat → Bool} {im : Nat → Nat → Int32} {H : Heap} {locs : List Loc} (h0 : LI s G t b0 d (z, gr, sl, bc, bk, kp, im) H locs) (K : LK p l e s m below meth c b G t b0 d i) {ls : Array Slot} (hl : lv_has ls 4 [(0, .ref b), (1, .ref b0), (2, .ref d), (3, .int (nI i))]) : LW p l e s m below meth c b H locs ls 532 := by
  obtain ⟨hx, hb, hml, hown, hts, hX, hbl, hK, hb0, hd, hL⟩ := C0
  obtain ⟨hPX, hPM, hS2, hS, hZ⟩ := h0
  obtain ⟨⟨hz, hg, hg2, hsl, hbc, hwb, hwi⟩, hcn⟩ := id hS2
  refine lv_aload_n hx hb dL_law_532 rfl (lv_at hl 1 rfl) ?_
  refine lv_aload_n hx hb dL_law_533 rfl (lv_at hl 0 rfl) ?_
  refine lv_iload_n hx hb dL_law_534 rfl (lv_at hl 3 rfl) ?_
  refine lv_iconst (v := nI 1) hx hb dL_law_535 (by decide) ?_
  refine r_iaddN hx hb dL_law_536 ?_
  refine r_sld hx hb hX hbl hS (i + 1) (by omega) hL dL_law_537 ?_
  refine lv_aload_n hx hb dL_law_538 rfl (lv_at hl 0 rfl) ?_
  refine lv_iload_n hx hb dL_law_539 rfl (lv_at hl 3 rfl) ?_
  refine lv_iconst (v := nI 2) hx hb dL_law_540 (by decide) ?_
  refine r_iaddN hx hb dL_law_541 ?_
  refine r_sld hx hb hX hbl hS (i + 2) (by omega) hL dL_law_542 ?_
  refine r_cV (av := [.int (xs (i + 1)), .int (xs (i + 2))]) (c_X3_first l G t b0 z gr sl bc bk kp im hz  (xs (i + 1)) (xs (i + 2))) ⟨hx, hb, hml, hown, hts⟩ (cwV 2 hts gL_law_X3_first rfl rfl rfl (by decide +kernel) ⟨Nat.le_of_ble_eq_true rfl, Nat.le_of_ble_eq_true rfl⟩) mv_K ⟨hK, hPX⟩ (at_recv hK (PX_o hPX) rfl) rfl hl (Nat.le_of_ble_eq_true rfl) ⟨Nat.le_refl _, Nat.le_refl _⟩ rfl dL_law_543 (fun r1 hr1 => ?_)
  subst hr1
  refine lv_aload_n hx hb dL_law_546 rfl (lv_at hl 2 rfl) ?_
  refine lv_aload_n hx hb dL_law_547 rfl (lv_at hl 0 rfl) ?_
  refine lv_iload_n hx hb dL_law_548 rfl (lv_at hl 3 rfl) ?_
  refine lv_iconst (v := nI 1) hx hb dL_law_549 (by decide) ?_
  refine r_iaddN hx hb dL_law_550 ?_
  refine r_sld hx hb hX hbl hS (i + 1) (by omega) hL dL_law_551 ?_
  refine lv_aload_n hx hb dL_law_552 rfl (lv_at hl 0 rfl) ?_
  refine lv_iload_n hx hb dL_law_553 rfl (lv_at hl 3 rfl) ?_
  refine lv_iconst (v := nI 2) hx hb dL_law_554 (by decide) ?_
  refine r_iaddN hx hb dL_law_555 ?_
  refine r_sld hx hb hX hbl hS (i + 2) (by omega) hL dL_law_556 ?_
  obtain ⟨fs4, hM0⟩ := PM_o hPM
  refine r_cV (av := [.int (xs (i + 1)), .int (xs (i + 2))]) (c_X4_first l G t d z hz (xs (i + 1)) (xs (i + 2))) ⟨hx, hb, hml, hown, hts⟩ (cwV 2 hts gL_law_X4_first rfl rfl rfl (by decide +kernel) ⟨Nat.le_of_ble_eq_true rfl, Nat.le_of_ble_eq_true rfl⟩) mv_K ⟨hK, PM_Mn hPM⟩ (at_recv hK hM0 rfl) rfl hl (Nat.le_of_ble_eq_true rfl) ⟨Nat.le_refl _, Nat.le_refl _⟩ rfl dL_law_557 (fun r2 hr2 => ?_)
  subst hr2
  refine lv_icmp_eq (tgt := 832) hx hb dL_law_560 (by decide) (fun _ => ?_) (fun c9 => absurd rfl c9)
  exact K _ _ _ _ ⟨hPX, hPM, hS2, hS, hZ⟩ hl

set_option maxHeartbeats 4000000 in
set_option maxRecDepth 100000 in
/-- worst -/
theorem lw_k13 {p : Program} {e : Env} {s : State} {m : MethodId} {below : List Frame} {meth : Method} {c : Code} (l : Launch) {b L : Nat} {xs : Nat → Int32} {G : va_G} {t : gT} {b0 d i : Nat} (C0 : LC p s m c b L xs G t b0 d) (hi : i + 5 ≤ L) {z : Nat → Int32} {gr : Nat → Nat} {sl bc : Nat} {bk : Nat → Nat → Int32} {kp : Nat → Bool} {im : Nat → Nat → Int32} {H : Heap} {locs : List Loc} (h0 : LI s G t b0 d (z, gr, sl, bc, bk, kp, im) H locs) (K : LK p l e s m below meth c b G t b0 d i) {ls : Array Slot} (hl : lv_has ls 4 [(0, .ref b), (1, .ref b0), (2, .ref d), (3, .int (nI i))]) : LW p l e s m below meth c b H locs ls 565 := by
  obtain ⟨hx, hb, hml, hown, hts, hX, hbl, hK, hb0, hd, hL⟩ := C0
  obtain ⟨hPX, hPM, hS2, hS, hZ⟩ := h0
  obtain ⟨⟨hz, hg, hg2, hsl, hbc, hwb, hwi⟩, hcn⟩ := id hS2
  refine lv_aload_n hx hb dL_law_565 rfl (lv_at hl 1 rfl) ?_
  refine lv_aload_n hx hb dL_law_566 rfl (lv_at hl 0 rfl) ?_
  refine lv_iload_n hx hb dL_law_567 rfl (lv_at hl 3 rfl) ?_
  refine lv_iconst (v := nI 1) hx hb dL_law_568 (by decide) ?_
  refine r_iaddN hx hb dL_law_569 ?_
  refine r_sld hx hb hX hbl hS (i + 1) (by omega) hL dL_law_570 ?_
  refine lv_aload_n hx hb dL_law_571 rfl (lv_at hl 0 rfl) ?_
  refine lv_iload_n hx hb dL_law_572 rfl (lv_at hl 3 rfl) ?_
  refine lv_iconst (v := nI 2) hx hb dL_law_573 (by decide) ?_
  refine r_iaddN hx hb dL_law_574 ?_
  refine r_sld hx hb hX hbl hS (i + 2) (by omega) hL dL_law_575 ?_
  refine lv_aload_n hx hb dL_law_576 rfl (lv_at hl 0 rfl) ?_
  refine lv_iload_n hx hb dL_law_577 rfl (lv_at hl 3 rfl) ?_
  refine lv_iconst (v := nI 3) hx hb dL_law_578 (by decide) ?_
  refine r_iaddN hx hb dL_law_579 ?_
  refine r_sld hx hb hX hbl hS (i + 3) (by omega) hL dL_law_580 ?_
  refine r_mVi (av := [.int (xs (i + 1)), .int (xs (i + 2)), .int (xs (i + 3))]) (c_X3_worst l G t b0 z gr sl bc bk kp im hz  (xs (i + 1)) (xs (i + 2)) (xs (i + 3))) ⟨hx, hb, hml, hown, hts⟩ (cwV 3 hts gL_law_X3_worst rfl rfl rfl (by decide +kernel) ⟨Nat.le_of_ble_eq_true rfl, Nat.le_of_ble_eq_true rfl⟩) mv_K ⟨hK, hPX⟩ (at_recv hK (PX_o hPX) rfl) rfl hl (Nat.le_of_ble_eq_true rfl) ⟨Nat.le_refl _, Nat.le_refl _⟩ rfl dL_law_581 hS (fun q h => Nat.le_trans hb0 h.1) (fun r1 H locs hP hz9 hk hS => ?_)
  obtain ⟨e1, hPX⟩ := hP
  have hPM := PM_keptA hPM hk (fun q h1 h2 h3 => by have h4 := h3.2; omega)
  have hZ := ZS_kept hZ (fun q h1 h2 => hk q h1 (fun h3 => h2 (Nat.le_trans hb0 h3.1)))
  refine r_top (y := rWorst (xs (i + 1)) (xs (i + 2)) (xs (i + 3)) z) e1 ?_
  refine lv_aload_n hx hb dL_law_584 rfl (lv_at hl 2 rfl) ?_
  refine lv_aload_n hx hb dL_law_585 rfl (lv_at hl 0 rfl) ?_
  refine lv_iload_n hx hb dL_law_586 rfl (lv_at hl 3 rfl) ?_
  refine lv_iconst (v := nI 1) hx hb dL_law_587 (by decide) ?_
  refine r_iaddN hx hb dL_law_588 ?_
  refine r_sld hx hb hX hbl hS (i + 1) (by omega) hL dL_law_589 ?_
  refine lv_aload_n hx hb dL_law_590 rfl (lv_at hl 0 rfl) ?_
  refine lv_iload_n hx hb dL_law_591 rfl (lv_at hl 3 rfl) ?_
  refine lv_iconst (v := nI 2) hx hb dL_law_592 (by decide) ?_
  refine r_iaddN hx hb dL_law_593 ?_
  refine r_sld hx hb hX hbl hS (i + 2) (by omega) hL dL_law_594 ?_
  refine lv_aload_n hx hb dL_law_595 rfl (lv_at hl 0 rfl) ?_
  refine lv_iload_n hx hb dL_law_596 rfl (lv_at hl 3 rfl) ?_
  refine lv_iconst (v := nI 3) hx hb dL_law_597 (by decide) ?_
  refine r_iaddN hx hb dL_law_598 ?_
  refine r_sld hx hb hX hbl hS (i + 3) (by omega) hL dL_law_599 ?_
  obtain ⟨fs4, hM0⟩ := PM_o hPM
  refine r_cV (av := [.int (xs (i + 1)), .int (xs (i + 2)), .int (xs (i + 3))]) (c_X4_worst l G t d z hz (xs (i + 1)) (xs (i + 2)) (xs (i + 3))) ⟨hx, hb, hml, hown, hts⟩ (cwV 3 hts gL_law_X4_worst rfl rfl rfl (by decide +kernel) ⟨Nat.le_of_ble_eq_true rfl, Nat.le_of_ble_eq_true rfl⟩) mv_K ⟨hK, PM_Mn hPM⟩ (at_recv hK hM0 rfl) rfl hl (Nat.le_of_ble_eq_true rfl) ⟨Nat.le_refl _, Nat.le_refl _⟩ rfl dL_law_600 (fun r2 hr2 => ?_)
  subst hr2
  refine lv_icmp_eq (tgt := 832) hx hb dL_law_603 (by decide) (fun _ => ?_) (fun c9 => absurd rfl c9)
  exact K _ _ _ _ ⟨hPX, hPM, hS2, hS, hZ⟩ hl

set_option maxHeartbeats 4000000 in
set_option maxRecDepth 100000 in
/-- bound -/
theorem lw_k14 {p : Program} {e : Env} {s : State} {m : MethodId} {below : List Frame} {meth : Method} {c : Code} (l : Launch) {b L : Nat} {xs : Nat → Int32} {G : va_G} {t : gT} {b0 d i : Nat} (C0 : LC p s m c b L xs G t b0 d) (hi : i + 5 ≤ L) {z : Nat → Int32} {gr : Nat → Nat} {sl bc : Nat} {bk : Nat → Nat → Int32} {kp : Nat → Bool} {im : Nat → Nat → Int32} {H : Heap} {locs : List Loc} (h0 : LI s G t b0 d (z, gr, sl, bc, bk, kp, im) H locs) (K : LK p l e s m below meth c b G t b0 d i) {ls : Array Slot} (hl : lv_has ls 4 [(0, .ref b), (1, .ref b0), (2, .ref d), (3, .int (nI i))]) : LW p l e s m below meth c b H locs ls 608 := by
  obtain ⟨hx, hb, hml, hown, hts, hX, hbl, hK, hb0, hd, hL⟩ := C0
  obtain ⟨hPX, hPM, hS2, hS, hZ⟩ := h0
  obtain ⟨⟨hz, hg, hg2, hsl, hbc, hwb, hwi⟩, hcn⟩ := id hS2
  refine lv_aload_n hx hb dL_law_608 rfl (lv_at hl 1 rfl) ?_
  refine lv_aload_n hx hb dL_law_609 rfl (lv_at hl 0 rfl) ?_
  refine lv_iload_n hx hb dL_law_610 rfl (lv_at hl 3 rfl) ?_
  refine lv_iconst (v := nI 1) hx hb dL_law_611 (by decide) ?_
  refine r_iaddN hx hb dL_law_612 ?_
  refine r_sld hx hb hX hbl hS (i + 1) (by omega) hL dL_law_613 ?_
  refine lv_aload_n hx hb dL_law_614 rfl (lv_at hl 0 rfl) ?_
  refine lv_iload_n hx hb dL_law_615 rfl (lv_at hl 3 rfl) ?_
  refine lv_iconst (v := nI 2) hx hb dL_law_616 (by decide) ?_
  refine r_iaddN hx hb dL_law_617 ?_
  refine r_sld hx hb hX hbl hS (i + 2) (by omega) hL dL_law_618 ?_
  refine lv_aload_n hx hb dL_law_619 rfl (lv_at hl 0 rfl) ?_
  refine lv_iload_n hx hb dL_law_620 rfl (lv_at hl 3 rfl) ?_
  refine lv_iconst (v := nI 3) hx hb dL_law_621 (by decide) ?_
  refine r_iaddN hx hb dL_law_622 ?_
  refine r_sld hx hb hX hbl hS (i + 3) (by omega) hL dL_law_623 ?_
  refine lv_aload_n hx hb dL_law_624 rfl (lv_at hl 0 rfl) ?_
  refine lv_iload_n hx hb dL_law_625 rfl (lv_at hl 3 rfl) ?_
  refine lv_iconst (v := nI 4) hx hb dL_law_626 (by decide) ?_
  refine r_iaddN hx hb dL_law_627 ?_
  refine r_sld hx hb hX hbl hS (i + 4) (by omega) hL dL_law_628 ?_
  refine r_mVi (av := [.int (xs (i + 1)), .int (xs (i + 2)), .int (xs (i + 3)), .int (xs (i + 4))]) (c_X3_bound l G t b0 z gr sl bc bk kp im hz  (xs (i + 1)) (xs (i + 2)) (xs (i + 3)) (xs (i + 4))) ⟨hx, hb, hml, hown, hts⟩ (cwV 4 hts gL_law_X3_bound rfl rfl rfl (by decide +kernel) ⟨Nat.le_of_ble_eq_true rfl, Nat.le_of_ble_eq_true rfl⟩) mv_K ⟨hK, hPX⟩ (at_recv hK (PX_o hPX) rfl) rfl hl (Nat.le_of_ble_eq_true rfl) ⟨Nat.le_refl _, Nat.le_refl _⟩ rfl dL_law_629 hS (fun q h => Nat.le_trans hb0 h.1) (fun r1 H locs hP hz9 hk hS => ?_)
  obtain ⟨e1, hPX⟩ := hP
  have hPM := PM_keptA hPM hk (fun q h1 h2 h3 => by have h4 := h3.2; omega)
  have hZ := ZS_kept hZ (fun q h1 h2 => hk q h1 (fun h3 => h2 (Nat.le_trans hb0 h3.1)))
  refine r_top (y := rBound (xs (i + 1)) (xs (i + 2)) (xs (i + 3)) (xs (i + 4)) z) e1 ?_
  refine lv_aload_n hx hb dL_law_632 rfl (lv_at hl 2 rfl) ?_
  refine lv_aload_n hx hb dL_law_633 rfl (lv_at hl 0 rfl) ?_
  refine lv_iload_n hx hb dL_law_634 rfl (lv_at hl 3 rfl) ?_
  refine lv_iconst (v := nI 1) hx hb dL_law_635 (by decide) ?_
  refine r_iaddN hx hb dL_law_636 ?_
  refine r_sld hx hb hX hbl hS (i + 1) (by omega) hL dL_law_637 ?_
  refine lv_aload_n hx hb dL_law_638 rfl (lv_at hl 0 rfl) ?_
  refine lv_iload_n hx hb dL_law_639 rfl (lv_at hl 3 rfl) ?_
  refine lv_iconst (v := nI 2) hx hb dL_law_640 (by decide) ?_
  refine r_iaddN hx hb dL_law_641 ?_
  refine r_sld hx hb hX hbl hS (i + 2) (by omega) hL dL_law_642 ?_
  refine lv_aload_n hx hb dL_law_643 rfl (lv_at hl 0 rfl) ?_
  refine lv_iload_n hx hb dL_law_644 rfl (lv_at hl 3 rfl) ?_
  refine lv_iconst (v := nI 3) hx hb dL_law_645 (by decide) ?_
  refine r_iaddN hx hb dL_law_646 ?_
  refine r_sld hx hb hX hbl hS (i + 3) (by omega) hL dL_law_647 ?_
  refine lv_aload_n hx hb dL_law_648 rfl (lv_at hl 0 rfl) ?_
  refine lv_iload_n hx hb dL_law_649 rfl (lv_at hl 3 rfl) ?_
  refine lv_iconst (v := nI 4) hx hb dL_law_650 (by decide) ?_
  refine r_iaddN hx hb dL_law_651 ?_
  refine r_sld hx hb hX hbl hS (i + 4) (by omega) hL dL_law_652 ?_
  obtain ⟨fs4, hM0⟩ := PM_o hPM
  refine r_cV (av := [.int (xs (i + 1)), .int (xs (i + 2)), .int (xs (i + 3)), .int (xs (i + 4))]) (c_X4_bound l G t d z hz (xs (i + 1)) (xs (i + 2)) (xs (i + 3)) (xs (i + 4))) ⟨hx, hb, hml, hown, hts⟩ (cwV 4 hts gL_law_X4_bound rfl rfl rfl (by decide +kernel) ⟨Nat.le_of_ble_eq_true rfl, Nat.le_of_ble_eq_true rfl⟩) mv_K ⟨hK, PM_Mn hPM⟩ (at_recv hK hM0 rfl) rfl hl (Nat.le_of_ble_eq_true rfl) ⟨Nat.le_refl _, Nat.le_refl _⟩ rfl dL_law_653 (fun r2 hr2 => ?_)
  subst hr2
  refine lv_icmp_eq (tgt := 832) hx hb dL_law_656 (by decide) (fun _ => ?_) (fun c9 => absurd rfl c9)
  exact K _ _ _ _ ⟨hPX, hPM, hS2, hS, hZ⟩ hl

set_option maxHeartbeats 4000000 in
set_option maxRecDepth 100000 in
/-- together -/
theorem lw_k15 {p : Program} {e : Env} {s : State} {m : MethodId} {below : List Frame} {meth : Method} {c : Code} (l : Launch) {b L : Nat} {xs : Nat → Int32} {G : va_G} {t : gT} {b0 d i : Nat} (C0 : LC p s m c b L xs G t b0 d) (hi : i + 5 ≤ L) {z : Nat → Int32} {gr : Nat → Nat} {sl bc : Nat} {bk : Nat → Nat → Int32} {kp : Nat → Bool} {im : Nat → Nat → Int32} {H : Heap} {locs : List Loc} (h0 : LI s G t b0 d (z, gr, sl, bc, bk, kp, im) H locs) (K : LK p l e s m below meth c b G t b0 d i) {ls : Array Slot} (hl : lv_has ls 4 [(0, .ref b), (1, .ref b0), (2, .ref d), (3, .int (nI i))]) : LW p l e s m below meth c b H locs ls 661 := by
  obtain ⟨hx, hb, hml, hown, hts, hX, hbl, hK, hb0, hd, hL⟩ := C0
  obtain ⟨hPX, hPM, hS2, hS, hZ⟩ := h0
  obtain ⟨⟨hz, hg, hg2, hsl, hbc, hwb, hwi⟩, hcn⟩ := id hS2
  refine lv_aload_n hx hb dL_law_661 rfl (lv_at hl 1 rfl) ?_
  refine lv_aload_n hx hb dL_law_662 rfl (lv_at hl 0 rfl) ?_
  refine lv_iload_n hx hb dL_law_663 rfl (lv_at hl 3 rfl) ?_
  refine lv_iconst (v := nI 1) hx hb dL_law_664 (by decide) ?_
  refine r_iaddN hx hb dL_law_665 ?_
  refine r_sld hx hb hX hbl hS (i + 1) (by omega) hL dL_law_666 ?_
  refine lv_aload_n hx hb dL_law_667 rfl (lv_at hl 0 rfl) ?_
  refine lv_iload_n hx hb dL_law_668 rfl (lv_at hl 3 rfl) ?_
  refine lv_iconst (v := nI 2) hx hb dL_law_669 (by decide) ?_
  refine r_iaddN hx hb dL_law_670 ?_
  refine r_sld hx hb hX hbl hS (i + 2) (by omega) hL dL_law_671 ?_
  refine lv_aload_n hx hb dL_law_672 rfl (lv_at hl 0 rfl) ?_
  refine lv_iload_n hx hb dL_law_673 rfl (lv_at hl 3 rfl) ?_
  refine lv_iconst (v := nI 3) hx hb dL_law_674 (by decide) ?_
  refine r_iaddN hx hb dL_law_675 ?_
  refine r_sld hx hb hX hbl hS (i + 3) (by omega) hL dL_law_676 ?_
  refine r_cV (av := [.int (xs (i + 1)), .int (xs (i + 2)), .int (xs (i + 3))]) (c_X3_together l G t b0 z gr sl bc bk kp im hz  (xs (i + 1)) (xs (i + 2)) (xs (i + 3))) ⟨hx, hb, hml, hown, hts⟩ (cwV 3 hts gL_law_X3_together rfl rfl rfl (by decide +kernel) ⟨Nat.le_of_ble_eq_true rfl, Nat.le_of_ble_eq_true rfl⟩) mv_K ⟨hK, hPX⟩ (at_recv hK (PX_o hPX) rfl) rfl hl (Nat.le_of_ble_eq_true rfl) ⟨Nat.le_refl _, Nat.le_refl _⟩ rfl dL_law_677 (fun r1 hr1 => ?_)
  subst hr1
  refine lv_aload_n hx hb dL_law_680 rfl (lv_at hl 2 rfl) ?_
  refine lv_aload_n hx hb dL_law_681 rfl (lv_at hl 0 rfl) ?_
  refine lv_iload_n hx hb dL_law_682 rfl (lv_at hl 3 rfl) ?_
  refine lv_iconst (v := nI 1) hx hb dL_law_683 (by decide) ?_
  refine r_iaddN hx hb dL_law_684 ?_
  refine r_sld hx hb hX hbl hS (i + 1) (by omega) hL dL_law_685 ?_
  refine lv_aload_n hx hb dL_law_686 rfl (lv_at hl 0 rfl) ?_
  refine lv_iload_n hx hb dL_law_687 rfl (lv_at hl 3 rfl) ?_
  refine lv_iconst (v := nI 2) hx hb dL_law_688 (by decide) ?_
  refine r_iaddN hx hb dL_law_689 ?_
  refine r_sld hx hb hX hbl hS (i + 2) (by omega) hL dL_law_690 ?_
  refine lv_aload_n hx hb dL_law_691 rfl (lv_at hl 0 rfl) ?_
  refine lv_iload_n hx hb dL_law_692 rfl (lv_at hl 3 rfl) ?_
  refine lv_iconst (v := nI 3) hx hb dL_law_693 (by decide) ?_
  refine r_iaddN hx hb dL_law_694 ?_
  refine r_sld hx hb hX hbl hS (i + 3) (by omega) hL dL_law_695 ?_
  obtain ⟨fs4, hM0⟩ := PM_o hPM
  refine r_cV (av := [.int (xs (i + 1)), .int (xs (i + 2)), .int (xs (i + 3))]) (c_X4_together l G t d z hz (xs (i + 1)) (xs (i + 2)) (xs (i + 3))) ⟨hx, hb, hml, hown, hts⟩ (cwV 3 hts gL_law_X4_together rfl rfl rfl (by decide +kernel) ⟨Nat.le_of_ble_eq_true rfl, Nat.le_of_ble_eq_true rfl⟩) mv_K ⟨hK, PM_Mn hPM⟩ (at_recv hK hM0 rfl) rfl hl (Nat.le_of_ble_eq_true rfl) ⟨Nat.le_refl _, Nat.le_refl _⟩ rfl dL_law_696 (fun r2 hr2 => ?_)
  subst hr2
  refine lv_icmp_eq (tgt := 832) hx hb dL_law_699 (by decide) (fun _ => ?_) (fun c9 => absurd rfl c9)
  exact K _ _ _ _ ⟨hPX, hPM, hS2, hS, hZ⟩ hl
