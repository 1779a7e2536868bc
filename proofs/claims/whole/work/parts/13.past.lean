/-! Past (printed by wip/whole/m5.py) -/
set_option maxRecDepth 20000 in
theorem iiX1_forget_1 : ∀ w ∈ wsX10, w ∈ wsX1_forget := by decide +kernel
set_option maxHeartbeats 4000000 in
set_option maxRecDepth 100000 in
/-- nothing can be undone -/
theorem c_X1_forget (l : Launch) (G : va_G) (t : gT) (a bc : Nat) (bk : Nat → Nat → Int32) : Met l yX1_forget wsX1_forget ({ frames := 0, cells := 0, slots := 0, locals := 0 } : Room) (pc_ [.ref a] (fun U H => KK G t U ∧ Pa G t a bc bk H)) (qv_ (fun H => ∀ bk2, Pa G t a 0 bk2 H) (iv a (a + 194))) 0 0 (iv a (a + 194)) := by
  refine Met.ofW (cc := cX1_forget) (maxL := 1) (ret := none) (by decide) rfl ?_
  intro p e s m args below meth c s₁ B hml hv
  obtain ⟨rfl, hB⟩ := hv
  have hx := B.exec
  have hb := B.bytes
  have hr := B.returns
  have hts := atoms_spec (ws := wsX1_forget) B.pre
  have hown : s.vm.findClass RX1 = some m.cls := findClass_of_methodNamed B.named
  have hlocks := B.notSynchronized
  have hK := hB.1
  obtain ⟨nx, zs, hnx, h0, h1, h2, h3⟩ := hB.2
  have hS : va_S (iv a (a + 194)) s.heap s.heap [] := va_S.rf
  have hl := lv_entry ([.ref a]) (n := 1) (Nat.le_of_ble_eq_true rfl)
  rw [lg_entry_eq]
  generalize (lg_sl ([.ref a]) ++ List.replicate (1 - (lg_sl ([.ref a])).length) Slot.unset).toArray = ls at hl ⊢
  have hl : lv_has ls 1 [(0, .ref a)] := hl
  refine lv_aload_n hx hb dX1_forget_0 rfl (lv_at hl 0 rfl) ?_
  refine lv_iconst (v := nI 0) hx hb dX1_forget_1 (by decide) ?_
  refine r_put (ty := .int) (ci := 1) (C := RX1) (T := TX1) (N := 3) (fs' := [.ref (a + 1), .int (nI 0), .int (nI bc)]) hx hb hts iiX1_forget_1 tyX1 tyX1_ok nmX1 hown hK h0 ⟨by omega, by omega⟩ hS rfl 1 (by decide) (hts (.fieldLink RX1 18 "HopMeet$Past" "next" "I") (List.mem_of_getElem? (i := 1) rfl)) rfl (by decide +kernel) rfl rfl (Nat.le_of_ble_eq_true rfl) rfl dX1_forget_2 (fun H locs h0 hz9 hq hS => ?_)
  have h1 := at_kept h1 (hq _ (by omega))
  have h2 := fun i hi => Sc_kept (h2 i hi) (fun q h8 h9 => hq q (by omega))
  refine lv_aload_n hx hb dX1_forget_5 rfl (lv_at hl 0 rfl) ?_
  refine lv_iconst (v := nI 0) hx hb dX1_forget_6 (by decide) ?_
  refine r_put (ty := .int) (ci := 1) (C := RX1) (T := TX1) (N := 3) (fs' := [.ref (a + 1), .int (nI 0), .int (nI 0)]) hx hb hts iiX1_forget_1 tyX1 tyX1_ok nmX1 hown hK h0 ⟨by omega, by omega⟩ hS rfl 2 (by decide) (hts (.fieldLink RX1 22 "HopMeet$Past" "count" "I") (List.mem_of_getElem? (i := 2) rfl)) rfl (by decide +kernel) rfl rfl (Nat.le_of_ble_eq_true rfl) rfl dX1_forget_7 (fun H locs h0 hz9 hq hS => ?_)
  have h1 := at_kept h1 (hq _ (by omega))
  have h2 := fun i hi => Sc_kept (h2 i hi) (fun q h8 h9 => hq q (by omega))
  exact r_retV hx hb hr hlocks hS (fun bk2 => ⟨0, zs, by decide, h0, h1, h2, fun j hj => absurd hj (Nat.not_lt_zero _)⟩) dX1_forget_10

set_option maxRecDepth 20000 in
theorem iiX1_remember_1 : ∀ w ∈ wsX10, w ∈ wsX1_remember := by decide +kernel
set_option maxRecDepth 20000 in
theorem iiX1_remember_2 : ∀ w ∈ wsX20, w ∈ wsX1_remember := by decide +kernel
set_option maxHeartbeats 4000000 in
set_option maxRecDepth 100000 in
/-- a scene is kept, to be brought back -/
theorem c_X1_remember (l : Launch) (G : va_G) (t : gT) (a bc : Nat) (bk : Nat → Nat → Int32) (o : Nat) (z : Nat → Int32) (hz : WF z) (hbc : bc ≤ 12) (hsep : o + 16 ≤ a ∨ a + 194 ≤ o) : Met l yX1_remember wsX1_remember ({ frames := 2, cells := 0, slots := 0, locals := 52 } : Room) (pc_ [.ref a, .ref o] (fun U H => KK G t U ∧ (Pa G t a bc bk H ∧ Sc G t o z H))) (qv_ (fun H => Pa G t a (inc12 bc) (push bk z) H) (iv a (a + 194))) 0 0 (iv a (a + 194)) := by
  refine Met.ofW (cc := cX1_remember) (maxL := 2) (ret := none) (by decide) rfl ?_
  intro p e s m args below meth c s₁ B hml hv
  obtain ⟨rfl, hB⟩ := hv
  have hx := B.exec
  have hb := B.bytes
  have hr := B.returns
  have hts := atoms_spec (ws := wsX1_remember) B.pre
  have hown : s.vm.findClass RX1 = some m.cls := findClass_of_methodNamed B.named
  have hlocks := B.notSynchronized
  have hK := hB.1
  have hSc := hB.2.2
  obtain ⟨nx, zs, hnx, h0, h1, h2, h3⟩ := hB.2.1
  have hS : va_S (iv a (a + 194)) s.heap s.heap [] := va_S.rf
  have hl := lv_entry ([.ref a, .ref o]) (n := 2) (Nat.le_of_ble_eq_true rfl)
  rw [lg_entry_eq]
  generalize (lg_sl ([.ref a, .ref o]) ++ List.replicate (2 - (lg_sl ([.ref a, .ref o])).length) Slot.unset).toArray = ls at hl ⊢
  have hl : lv_has ls 2 [(0, .ref a), (1, .ref o)] := hl
  refine lv_aload_n hx hb dX1_remember_0 rfl (lv_at hl 0 rfl) ?_
  refine r_get (C := RX1) (T := TX1) (N := 3) hx hb hts iiX1_remember_1 hown hK h0 rfl 0 (by decide) (hts (.fieldLink RX1 11 "HopMeet$Past" "scenes" "[LHopMeet$Scene;") (List.mem_of_getElem? (i := 1) rfl)) rfl dX1_remember_1 ?_
  refine lv_aload_n hx hb dX1_remember_4 rfl (lv_at hl 0 rfl) ?_
  refine r_get (C := RX1) (T := TX1) (N := 3) hx hb hts iiX1_remember_1 hown hK h0 rfl 1 (by decide) (hts (.fieldLink RX1 18 "HopMeet$Past" "next" "I") (List.mem_of_getElem? (i := 2) rfl)) rfl dX1_remember_5 ?_
  refine r_rald hx hb hK h1 3 rfl rfl nx (by omega) (by decide) (b := a + 2 + 16 * nx) (rowsG_at (by omega)) dX1_remember_8 ?_
  refine lv_aload_n hx hb dX1_remember_9 rfl (lv_at hl 1 rfl) ?_
  refine r_mV (av := [.ref o]) (c_X2_become l G t (a + 2 + 16 * nx) o z hz (by omega)) ⟨hx, hb, hml, hown, hts⟩ (cwV 1 hts gX1_remember_X2_become rfl rfl rfl (by decide +kernel) ⟨Nat.le_of_ble_eq_true rfl, Nat.le_of_ble_eq_true rfl⟩) mv_K ⟨hK, Sc_Sy (h2 nx hnx), hSc⟩ (at_recv hK (Sc_obj (h2 nx hnx)) rfl) rfl hl (Nat.le_of_ble_eq_true rfl) ⟨Nat.le_of_ble_eq_true rfl, Nat.le_of_ble_eq_true rfl⟩ rfl dX1_remember_10 hS (iv_sub (by omega) (by omega)) (fun H locs hP hz9 hk hS => ?_)
  have h0 := at_keptA h0 hk (iv_no (by omega))
  have h1 := at_keptA h1 hk (iv_no (by omega))
  have h2 := scs_put hP (fun i hi hne => Sc_keptA (h2 i hi) hk (fun q h8 h9 => iv_no (by omega)))
  have hSc := Sc_keptA hSc hk (fun q h8 h9 => iv_no (by omega))
  refine lv_aload_n hx hb dX1_remember_13 rfl (lv_at hl 0 rfl) ?_
  refine lv_aload_n hx hb dX1_remember_14 rfl (lv_at hl 0 rfl) ?_
  refine r_get (C := RX1) (T := TX1) (N := 3) hx hb hts iiX1_remember_1 hown hK h0 rfl 1 (by decide) (hts (.fieldLink RX1 18 "HopMeet$Past" "next" "I") (List.mem_of_getElem? (i := 2) rfl)) rfl dX1_remember_15 ?_
  refine lv_iconst (v := nI 1) hx hb dX1_remember_18 (by decide) ?_
  refine r_iaddN hx hb dX1_remember_19 ?_
  refine lv_bipush (v := nI 12) hx hb dX1_remember_20 (by decide) ?_
  refine r_iremN hx hb (by omega) (by omega) (by omega) dX1_remember_22 ?_
  refine r_put (ty := .int) (ci := 1) (C := RX1) (T := TX1) (N := 3) (fs' := [.ref (a + 1), .int (nI ((nx + 1) % 12)), .int (nI bc)]) hx hb hts iiX1_remember_1 tyX1 tyX1_ok nmX1 hown hK h0 ⟨by omega, by omega⟩ hS rfl 1 (by decide) (hts (.fieldLink RX1 18 "HopMeet$Past" "next" "I") (List.mem_of_getElem? (i := 2) rfl)) rfl (by decide +kernel) rfl rfl (Nat.le_of_ble_eq_true rfl) rfl dX1_remember_23 (fun H locs h0 hz9 hq hS => ?_)
  have h1 := at_kept h1 (hq _ (by omega))
  have h2 := fun i hi => Sc_kept (h2 i hi) (fun q h8 h9 => hq q (by omega))
  have hSc := Sc_kept hSc (fun q h8 h9 => hq q (by omega))
  refine lv_aload_n hx hb dX1_remember_26 rfl (lv_at hl 0 rfl) ?_
  refine lv_aload_n hx hb dX1_remember_27 rfl (lv_at hl 0 rfl) ?_
  refine r_get (C := RX1) (T := TX1) (N := 3) hx hb hts iiX1_remember_1 hown hK h0 rfl 2 (by decide) (hts (.fieldLink RX1 22 "HopMeet$Past" "count" "I") (List.mem_of_getElem? (i := 3) rfl)) rfl dX1_remember_28 ?_
  refine lv_iconst (v := nI 1) hx hb dX1_remember_31 (by decide) ?_
  refine r_iaddN hx hb dX1_remember_32 ?_
  refine lv_bipush (v := nI 12) hx hb dX1_remember_33 (by decide) ?_
  refine va_mmin hx hb (by rw [hml]; exact hl.1.symm) hown (hts (.methodLink RX1 29 Lib.Math.min.name) (List.mem_of_getElem? (i := 4) rfl)) (hts (.static Lib.Math.min.name) (List.mem_of_getElem? (i := 5) rfl)) (hts (.initialized "java/lang/Math") (List.mem_of_getElem? (i := 6) rfl)) (hts (.code Lib.Math.min.name Lib.Math.min.code 2 (some .int)) (List.mem_of_getElem? (i := 7) rfl)) (Nat.le_of_ble_eq_true rfl) (Nat.le_of_ble_eq_true rfl) (Nat.le_of_ble_eq_true rfl) (Nat.le_of_ble_eq_true rfl) dX1_remember_35 ?_
  refine r_top (y := nI (inc12 bc)) (min_inc hbc) ?_
  refine r_put (ty := .int) (ci := 1) (C := RX1) (T := TX1) (N := 3) (fs' := [.ref (a + 1), .int (nI ((nx + 1) % 12)), .int (nI (inc12 bc))]) hx hb hts iiX1_remember_1 tyX1 tyX1_ok nmX1 hown hK h0 ⟨by omega, by omega⟩ hS rfl 2 (by decide) (hts (.fieldLink RX1 22 "HopMeet$Past" "count" "I") (List.mem_of_getElem? (i := 3) rfl)) rfl (by decide +kernel) rfl rfl (Nat.le_of_ble_eq_true rfl) rfl dX1_remember_38 (fun H locs h0 hz9 hq hS => ?_)
  have h1 := at_kept h1 (hq _ (by omega))
  have h2 := fun i hi => Sc_kept (h2 i hi) (fun q h8 h9 => hq q (by omega))
  have hSc := Sc_kept hSc (fun q h8 h9 => hq q (by omega))
  exact r_retV hx hb hr hlocks hS ⟨(nx + 1) % 12, va_up zs nx z, by omega, h0, h1, h2, ring_push hnx h3⟩ dX1_remember_41

set_option maxRecDepth 20000 in
theorem iiX1_restore_1 : ∀ w ∈ wsX10, w ∈ wsX1_restore := by decide +kernel
set_option maxRecDepth 20000 in
theorem iiX1_restore_2 : ∀ w ∈ wsX20, w ∈ wsX1_restore := by decide +kernel
set_option maxHeartbeats 4000000 in
set_option maxRecDepth 100000 in
/-- the latest scene is brought back -/
theorem c_X1_restore (l : Launch) (G : va_G) (t : gT) (a bc : Nat) (bk : Nat → Nat → Int32) (o : Nat) (hb0 : 0 < bc) (hbc : bc ≤ 12) (hw : WF (bk 0)) (hsep : o + 16 ≤ a) : Met l yX1_restore wsX1_restore ({ frames := 2, cells := 0, slots := 0, locals := 52 } : Room) (pc_ [.ref a, .ref o] (fun U H => KK G t U ∧ (Pa G t a bc bk H ∧ Sy G t o H))) (qv_ (fun H => Sc G t o (bk 0) H ∧ Pa G t a (bc - 1) (fun j => bk (j + 1)) H) (iv o (a + 194))) 0 0 (iv o (a + 194)) := by
  refine Met.ofW (cc := cX1_restore) (maxL := 2) (ret := none) (by decide) rfl ?_
  intro p e s m args below meth c s₁ B hml hv
  obtain ⟨rfl, hB⟩ := hv
  have hx := B.exec
  have hb := B.bytes
  have hr := B.returns
  have hts := atoms_spec (ws := wsX1_restore) B.pre
  have hown : s.vm.findClass RX1 = some m.cls := findClass_of_methodNamed B.named
  have hlocks := B.notSynchronized
  have hK := hB.1
  have hSy := hB.2.2
  obtain ⟨nx, zs, hnx, h0, h1, h2, h3⟩ := hB.2.1
  obtain ⟨q0, q1, q2, q3, hs0⟩ := Sy_obj hSy
  have hz0 : zs ((nx + 11) % 12) = bk 0 := h3 0 hb0
  have hzw : WF (zs ((nx + 11) % 12)) := by rw [hz0]; exact hw
  have hS : va_S (iv o (a + 194)) s.heap s.heap [] := va_S.rf
  have hl := lv_entry ([.ref a, .ref o]) (n := 2) (Nat.le_of_ble_eq_true rfl)
  rw [lg_entry_eq]
  generalize (lg_sl ([.ref a, .ref o]) ++ List.replicate (2 - (lg_sl ([.ref a, .ref o])).length) Slot.unset).toArray = ls at hl ⊢
  have hl : lv_has ls 2 [(0, .ref a), (1, .ref o)] := hl
  refine lv_aload_n hx hb dX1_restore_0 rfl (lv_at hl 0 rfl) ?_
  refine lv_aload_n hx hb dX1_restore_1 rfl (lv_at hl 0 rfl) ?_
  refine r_get (C := RX1) (T := TX1) (N := 3) hx hb hts iiX1_restore_1 hown hK h0 rfl 1 (by decide) (hts (.fieldLink RX1 18 "HopMeet$Past" "next" "I") (List.mem_of_getElem? (i := 1) rfl)) rfl dX1_restore_2 ?_
  refine lv_bipush (v := nI 12) hx hb dX1_restore_5 (by decide) ?_
  refine r_iaddN hx hb dX1_restore_7 ?_
  refine lv_iconst (v := nI 1) hx hb dX1_restore_8 (by decide) ?_
  refine r_isubN hx hb (by omega) dX1_restore_9 ?_
  refine lv_bipush (v := nI 12) hx hb dX1_restore_10 (by decide) ?_
  refine r_iremN hx hb (by omega) (by omega) (by omega) dX1_restore_12 ?_
  refine r_top (y := nI ((nx + 11) % 12)) (congrArg nI (by omega)) ?_
  refine r_put (ty := .int) (ci := 1) (C := RX1) (T := TX1) (N := 3) (fs' := [.ref (a + 1), .int (nI ((nx + 11) % 12)), .int (nI bc)]) hx hb hts iiX1_restore_1 tyX1 tyX1_ok nmX1 hown hK h0 ⟨by omega, by omega⟩ hS rfl 1 (by decide) (hts (.fieldLink RX1 18 "HopMeet$Past" "next" "I") (List.mem_of_getElem? (i := 1) rfl)) rfl (by decide +kernel) rfl rfl (Nat.le_of_ble_eq_true rfl) rfl dX1_restore_13 (fun H locs h0 hz9 hq hS => ?_)
  have h1 := at_kept h1 (hq _ (by omega))
  have hs0 := at_kept hs0 (hq _ (by omega))
  have h2 := fun i hi => Sc_kept (h2 i hi) (fun q h8 h9 => hq q (by omega))
  have hSy := Sy_kept hSy (fun q h8 h9 => hq q (by omega))
  refine lv_aload_n hx hb dX1_restore_16 rfl (lv_at hl 1 rfl) ?_
  refine lv_aload_n hx hb dX1_restore_17 rfl (lv_at hl 0 rfl) ?_
  refine r_get (C := RX1) (T := TX1) (N := 3) hx hb hts iiX1_restore_1 hown hK h0 rfl 0 (by decide) (hts (.fieldLink RX1 11 "HopMeet$Past" "scenes" "[LHopMeet$Scene;") (List.mem_of_getElem? (i := 2) rfl)) rfl dX1_restore_18 ?_
  refine lv_aload_n hx hb dX1_restore_21 rfl (lv_at hl 0 rfl) ?_
  refine r_get (C := RX1) (T := TX1) (N := 3) hx hb hts iiX1_restore_1 hown hK h0 rfl 1 (by decide) (hts (.fieldLink RX1 18 "HopMeet$Past" "next" "I") (List.mem_of_getElem? (i := 1) rfl)) rfl dX1_restore_22 ?_
  refine r_rald hx hb hK h1 3 rfl rfl ((nx + 11) % 12) (by omega) (by decide) (b := a + 2 + 16 * ((nx + 11) % 12)) (rowsG_at (by omega)) dX1_restore_25 ?_
  refine r_mV (av := [.ref (a + 2 + 16 * ((nx + 11) % 12))]) (c_X2_become l G t o (a + 2 + 16 * ((nx + 11) % 12)) (zs ((nx + 11) % 12)) hzw (by omega)) ⟨hx, hb, hml, hown, hts⟩ (cwV 1 hts gX1_restore_X2_become rfl rfl rfl (by decide +kernel) ⟨Nat.le_of_ble_eq_true rfl, Nat.le_of_ble_eq_true rfl⟩) mv_K ⟨hK, hSy, h2 _ (by omega)⟩ (at_recv hK hs0 rfl) rfl hl (Nat.le_of_ble_eq_true rfl) ⟨Nat.le_of_ble_eq_true rfl, Nat.le_of_ble_eq_true rfl⟩ rfl dX1_restore_26 hS (iv_sub (by omega) (by omega)) (fun H locs hP hz9 hk hS => ?_)
  have h0 := at_keptA h0 hk (iv_no (by omega))
  have h1 := at_keptA h1 hk (iv_no (by omega))
  have h2 := fun i hi => Sc_keptA (h2 i hi) hk (fun q h8 h9 => iv_no (by omega))
  refine lv_aload_n hx hb dX1_restore_29 rfl (lv_at hl 0 rfl) ?_
  refine lv_dup hx hb dX1_restore_30 rfl ?_
  refine r_get (C := RX1) (T := TX1) (N := 3) hx hb hts iiX1_restore_1 hown hK h0 rfl 2 (by decide) (hts (.fieldLink RX1 22 "HopMeet$Past" "count" "I") (List.mem_of_getElem? (i := 3) rfl)) rfl dX1_restore_31 ?_
  refine lv_iconst (v := nI 1) hx hb dX1_restore_34 (by decide) ?_
  refine r_isubN hx hb hb0 dX1_restore_35 ?_
  refine r_put (ty := .int) (ci := 1) (C := RX1) (T := TX1) (N := 3) (fs' := [.ref (a + 1), .int (nI ((nx + 11) % 12)), .int (nI (bc - 1))]) hx hb hts iiX1_restore_1 tyX1 tyX1_ok nmX1 hown hK h0 ⟨by omega, by omega⟩ hS rfl 2 (by decide) (hts (.fieldLink RX1 22 "HopMeet$Past" "count" "I") (List.mem_of_getElem? (i := 3) rfl)) rfl (by decide +kernel) rfl rfl (Nat.le_of_ble_eq_true rfl) rfl dX1_restore_36 (fun H locs h0 hz9 hq hS => ?_)
  have h1 := at_kept h1 (hq _ (by omega))
  have h2 := fun i hi => Sc_kept (h2 i hi) (fun q h8 h9 => hq q (by omega))
  have hP := Sc_kept hP (fun q h8 h9 => hq q (by omega))
  exact r_retV hx hb hr hlocks hS ⟨by rw [← hz0]; exact hP, (nx + 11) % 12, zs, by omega, h0, h1, h2, ring_pop hnx hbc h3⟩ dX1_restore_39
