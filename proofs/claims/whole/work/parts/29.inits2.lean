/-! what is made at the start, on (printed by wip/whole/m14.py) -/
set_option maxRecDepth 20000 in
theorem iiX4_init_4 : ∀ w ∈ wsX40, w ∈ wsX4_init := by decide +kernel
set_option maxHeartbeats 4000000 in
set_option maxRecDepth 100000 in
/-- the reference is made -/
theorem c_X4_init (l : Launch) (G : va_G) (t : gT) (d : Nat) (bk im : Nat → Nat → Int32) : Met l yX4_init wsX4_init ({ frames := 2, cells := 6, slots := 917, locals := 42 } : Room) (pc_ [.ref d] (fun U H => KK G t U ∧ (AO2 U ∧ (at_ G d (.inr (4, [.null, .int (nI 0), .null, .null, .null, .int (nI 0), .int (nI 0), .null, .null, .long (lN 0)])) H ∧ H.size = d + 1)))) (qv_ (fun H => PM G t d (z00, idN, 0, 0, bk, fun _ => false, im) H) (fun q => d ≤ q)) 6 917 (fun q => d ≤ q) := by
  refine Met.ofW (cc := cX4_init) (maxL := 1) (ret := none) (by decide) rfl ?_
  intro p e s m args below meth c s₁ B hml hv
  obtain ⟨rfl, hB⟩ := hv
  have hx := B.exec
  have hb := B.bytes
  have hr := B.returns
  have hts := atoms_spec (ws := wsX4_init) B.pre
  have hown : s.vm.findClass RX4 = some m.cls := findClass_of_methodNamed B.named
  have hlocks := B.notSynchronized
  have hin : meth.name = "<init>" := (name_of_methodNamed B.named B.method).1
  have hK := hB.1
  have hAO := hB.2.1
  obtain ⟨h0, hz⟩ := hB.2.2
  have hS : va_S (fun q => d ≤ q) s.heap s.heap [] := va_S.rf
  have hl := lv_entry ([.ref d]) (n := 1) (Nat.le_of_ble_eq_true rfl)
  rw [lg_entry_eq]
  generalize (lg_sl ([.ref d]) ++ List.replicate (1 - (lg_sl ([.ref d])).length) Slot.unset).toArray = ls at hl ⊢
  have hl : lv_has ls 1 [(0, .ref d)] := hl
  refine lv_aload_n hx hb dX4_init_0 rfl (lv_at hl 0 rfl) ?_
  refine W.objInit hx hb hown (hts (.methodLink RX4 1 objectInit) (List.mem_of_getElem? (i := 1) rfl)) (hts (.instanceMethod objectInit) (List.mem_of_getElem? (i := 2) rfl)) (hts _ (List.mem_of_getElem? (i := 3) rfl)) rfl (by rw [hml]; exact hl.1) rfl dX4_init_1 (Nat.le_of_ble_eq_true rfl) (Nat.le_of_ble_eq_true rfl) ?_
  refine W.eq (g2 := F0 m 4 ls []) rfl ?_
  refine lv_aload_n hx hb dX4_init_4 rfl (lv_at hl 0 rfl) ?_
  refine lv_bipush (v := nI 60) hx hb dX4_init_5 (by decide) ?_
  refine r_newI hx hb (hts (.arrayClass .int) (List.mem_of_getElem? (i := 4) rfl)) hK rfl hS 60 (by decide) (by decide) (Nat.le_of_ble_eq_true rfl) (Nat.le_of_ble_eq_true rfl) dX4_init_7 (h := d + 1) hz (fun H h1 z1 o1 hS => ?_)
  have h0 := at_kept h0 (o1 _ (by omega))
  have hz : H.size = d + 2 := by omega
  refine r_putF (ty := (.array .int)) (ci := 4) (C := RX4) (T := TX4) (N := 10) (fs' := [.ref (d + 1), .int (nI 0), .null, .null, .null, .int (nI 0), .int (nI 0), .null, .null, .long (lN 0)]) hx hb hts iiX4_init_4 tyX4 tyX4_ok nmX4 hown hK h0 (by show d ≤ _; omega) hS rfl 0 (by decide) (hts (.fieldLink RX4 7 "HopMeetModel" "now" "[I") (List.mem_of_getElem? (i := 5) rfl)) rfl hin rfl (by decide +kernel) rfl rfl (Nat.le_of_ble_eq_true rfl) rfl dX4_init_9 (fun H locs h0 hz9 hq hS => ?_)
  have h1 := at_kept h1 (hq _ (by omega))
  have hz := hz9.trans hz
  refine lv_aload_n hx hb dX4_init_12 rfl (lv_at hl 0 rfl) ?_
  refine lv_sipush (v := nI 720) hx hb dX4_init_13 (by decide) ?_
  refine r_newI hx hb (hts (.arrayClass .int) (List.mem_of_getElem? (i := 4) rfl)) hK rfl hS 720 (by decide) (by decide) (Nat.le_of_ble_eq_true rfl) (Nat.le_of_ble_eq_true rfl) dX4_init_16 (h := d + 2) hz (fun H h2 z1 o1 hS => ?_)
  have h0 := at_kept h0 (o1 _ (by omega))
  have h1 := at_kept h1 (o1 _ (by omega))
  have hz : H.size = d + 3 := by omega
  refine r_putF (ty := (.array .int)) (ci := 4) (C := RX4) (T := TX4) (N := 10) (fs' := [.ref (d + 1), .int (nI 0), .ref (d + 2), .null, .null, .int (nI 0), .int (nI 0), .null, .null, .long (lN 0)]) hx hb hts iiX4_init_4 tyX4 tyX4_ok nmX4 hown hK h0 (by show d ≤ _; omega) hS rfl 2 (by decide) (hts (.fieldLink RX4 13 "HopMeetModel" "back" "[I") (List.mem_of_getElem? (i := 6) rfl)) rfl hin rfl (by decide +kernel) rfl rfl (Nat.le_of_ble_eq_true rfl) rfl dX4_init_18 (fun H locs h0 hz9 hq hS => ?_)
  have h1 := at_kept h1 (hq _ (by omega))
  have h2 := at_kept h2 (hq _ (by omega))
  have hz := hz9.trans hz
  refine lv_aload_n hx hb dX4_init_21 rfl (lv_at hl 0 rfl) ?_
  refine lv_bipush (v := nI 120) hx hb dX4_init_22 (by decide) ?_
  refine r_newI hx hb (hts (.arrayClass .int) (List.mem_of_getElem? (i := 4) rfl)) hK rfl hS 120 (by decide) (by decide) (Nat.le_of_ble_eq_true rfl) (Nat.le_of_ble_eq_true rfl) dX4_init_24 (h := d + 3) hz (fun H h3 z1 o1 hS => ?_)
  have h0 := at_kept h0 (o1 _ (by omega))
  have h1 := at_kept h1 (o1 _ (by omega))
  have h2 := at_kept h2 (o1 _ (by omega))
  have hz : H.size = d + 4 := by omega
  refine r_putF (ty := (.array .int)) (ci := 4) (C := RX4) (T := TX4) (N := 10) (fs' := [.ref (d + 1), .int (nI 0), .ref (d + 2), .ref (d + 3), .null, .int (nI 0), .int (nI 0), .null, .null, .long (lN 0)]) hx hb hts iiX4_init_4 tyX4 tyX4_ok nmX4 hown hK h0 (by show d ≤ _; omega) hS rfl 3 (by decide) (hts (.fieldLink RX4 16 "HopMeetModel" "image" "[I") (List.mem_of_getElem? (i := 7) rfl)) rfl hin rfl (by decide +kernel) rfl rfl (Nat.le_of_ble_eq_true rfl) rfl dX4_init_26 (fun H locs h0 hz9 hq hS => ?_)
  have h1 := at_kept h1 (hq _ (by omega))
  have h2 := at_kept h2 (hq _ (by omega))
  have h3 := at_kept h3 (hq _ (by omega))
  have hz := hz9.trans hz
  refine lv_aload_n hx hb dX4_init_29 rfl (lv_at hl 0 rfl) ?_
  refine lv_iconst (v := nI 2) hx hb dX4_init_30 (by decide) ?_
  refine r_newZ hx hb (hts (.arrayClass .boolean) (List.mem_of_getElem? (i := 8) rfl)) hK rfl hS 2 (by decide) (by decide) (Nat.le_of_ble_eq_true rfl) (Nat.le_of_ble_eq_true rfl) dX4_init_31 (h := d + 4) hz (fun H h4 z1 o1 hS => ?_)
  have h0 := at_kept h0 (o1 _ (by omega))
  have h1 := at_kept h1 (o1 _ (by omega))
  have h2 := at_kept h2 (o1 _ (by omega))
  have h3 := at_kept h3 (o1 _ (by omega))
  have hz : H.size = d + 5 := by omega
  refine r_putF (ty := (.array .boolean)) (ci := 4) (C := RX4) (T := TX4) (N := 10) (fs' := [.ref (d + 1), .int (nI 0), .ref (d + 2), .ref (d + 3), .ref (d + 4), .int (nI 0), .int (nI 0), .null, .null, .long (lN 0)]) hx hb hts iiX4_init_4 tyX4 tyX4_ok nmX4 hown hK h0 (by show d ≤ _; omega) hS rfl 4 (by decide) (hts (.fieldLink RX4 19 "HopMeetModel" "isKept" "[Z") (List.mem_of_getElem? (i := 9) rfl)) rfl hin rfl (by decide +kernel) rfl rfl (Nat.le_of_ble_eq_true rfl) rfl dX4_init_33 (fun H locs h0 hz9 hq hS => ?_)
  have h1 := at_kept h1 (hq _ (by omega))
  have h2 := at_kept h2 (hq _ (by omega))
  have h3 := at_kept h3 (hq _ (by omega))
  have h4 := at_kept h4 (hq _ (by omega))
  have hz := hz9.trans hz
  refine lv_aload_n hx hb dX4_init_36 rfl (lv_at hl 0 rfl) ?_
  refine lv_iconst (v := nI 5) hx hb dX4_init_37 (by decide) ?_
  refine r_newI hx hb (hts (.arrayClass .int) (List.mem_of_getElem? (i := 4) rfl)) hK rfl hS 5 (by decide) (by decide) (Nat.le_of_ble_eq_true rfl) (Nat.le_of_ble_eq_true rfl) dX4_init_38 (h := d + 5) hz (fun H h5 z1 o1 hS => ?_)
  have h0 := at_kept h0 (o1 _ (by omega))
  have h1 := at_kept h1 (o1 _ (by omega))
  have h2 := at_kept h2 (o1 _ (by omega))
  have h3 := at_kept h3 (o1 _ (by omega))
  have h4 := at_kept h4 (o1 _ (by omega))
  have hz : H.size = d + 6 := by omega
  refine r_putF (ty := (.array .int)) (ci := 4) (C := RX4) (T := TX4) (N := 10) (fs' := [.ref (d + 1), .int (nI 0), .ref (d + 2), .ref (d + 3), .ref (d + 4), .int (nI 0), .int (nI 0), .ref (d + 5), .null, .long (lN 0)]) hx hb hts iiX4_init_4 tyX4 tyX4_ok nmX4 hown hK h0 (by show d ≤ _; omega) hS rfl 7 (by decide) (hts (.fieldLink RX4 23 "HopMeetModel" "group" "[I") (List.mem_of_getElem? (i := 10) rfl)) rfl hin rfl (by decide +kernel) rfl rfl (Nat.le_of_ble_eq_true rfl) rfl dX4_init_40 (fun H locs h0 hz9 hq hS => ?_)
  have h1 := at_kept h1 (hq _ (by omega))
  have h2 := at_kept h2 (hq _ (by omega))
  have h3 := at_kept h3 (hq _ (by omega))
  have h4 := at_kept h4 (hq _ (by omega))
  have h5 := at_kept h5 (hq _ (by omega))
  have hz := hz9.trans hz
  refine lv_aload_n hx hb dX4_init_43 rfl (lv_at hl 0 rfl) ?_
  refine lv_bipush (v := nI 10) hx hb dX4_init_44 (by decide) ?_
  refine r_newI hx hb (hts (.arrayClass .int) (List.mem_of_getElem? (i := 4) rfl)) hK rfl hS 10 (by decide) (by decide) (Nat.le_of_ble_eq_true rfl) (Nat.le_of_ble_eq_true rfl) dX4_init_46 (h := d + 6) hz (fun H h6 z1 o1 hS => ?_)
  have h0 := at_kept h0 (o1 _ (by omega))
  have h1 := at_kept h1 (o1 _ (by omega))
  have h2 := at_kept h2 (o1 _ (by omega))
  have h3 := at_kept h3 (o1 _ (by omega))
  have h4 := at_kept h4 (o1 _ (by omega))
  have h5 := at_kept h5 (o1 _ (by omega))
  have hz : H.size = d + 7 := by omega
  refine r_putF (ty := (.array .int)) (ci := 4) (C := RX4) (T := TX4) (N := 10) (fs' := [.ref (d + 1), .int (nI 0), .ref (d + 2), .ref (d + 3), .ref (d + 4), .int (nI 0), .int (nI 0), .ref (d + 5), .ref (d + 6), .long (lN 0)]) hx hb hts iiX4_init_4 tyX4 tyX4_ok nmX4 hown hK h0 (by show d ≤ _; omega) hS rfl 8 (by decide) (hts (.fieldLink RX4 26 "HopMeetModel" "many" "[I") (List.mem_of_getElem? (i := 11) rfl)) rfl hin rfl (by decide +kernel) rfl rfl (Nat.le_of_ble_eq_true rfl) rfl dX4_init_48 (fun H locs h0 hz9 hq hS => ?_)
  have h1 := at_kept h1 (hq _ (by omega))
  have h2 := at_kept h2 (hq _ (by omega))
  have h3 := at_kept h3 (hq _ (by omega))
  have h4 := at_kept h4 (hq _ (by omega))
  have h5 := at_kept h5 (hq _ (by omega))
  have h6 := at_kept h6 (hq _ (by omega))
  have hz := hz9.trans hz
  refine lv_aload_n hx hb dX4_init_51 rfl (lv_at hl 0 rfl) ?_
  refine r_get (C := RX4) (T := TX4) (N := 10) hx hb hts iiX4_init_4 hown hK h0 rfl 0 (by decide) (hts (.fieldLink RX4 7 "HopMeetModel" "now" "[I") (List.mem_of_getElem? (i := 5) rfl)) rfl dX4_init_52 ?_
  refine lv_iconst (v := nI 0) hx hb dX4_init_55 (by decide) ?_
  refine lv_iconst (v := nI 4) hx hb dX4_init_56 (by decide) ?_
  refine r_iast hx hb hK h1 (by show d ≤ _; omega) hS rfl 0 (by omega) (by decide) dX4_init_57 (fun H locs h1 hz9 hq hS => ?_)
  have h0 := at_kept h0 (hq _ (by omega))
  have h2 := at_kept h2 (hq _ (by omega))
  have h3 := at_kept h3 (hq _ (by omega))
  have h4 := at_kept h4 (hq _ (by omega))
  have h5 := at_kept h5 (hq _ (by omega))
  have h6 := at_kept h6 (hq _ (by omega))
  have hz := hz9.trans hz
  have h1 : at_ G (d + 1) (aI t 60 z00) H := h1
  refine lv_aload_n hx hb dX4_init_58 rfl (lv_at hl 0 rfl) ?_
  refine r_mV (av := []) (c_X4_layPrime l G t d 4 z00 (nI 0) (nI 0) (nI 0) (lN 0) (by decide) (by decide) rfl) ⟨hx, hb, hml, hown, hts⟩ (cwV 0 hts gX4_init_X4_layPrime rfl rfl rfl (by decide +kernel) ⟨Nat.le_of_ble_eq_true rfl, Nat.le_of_ble_eq_true rfl⟩) mv_K ⟨hK, h0, h1⟩ (at_recv hK h0 rfl) rfl hl (Nat.le_of_ble_eq_true rfl) ⟨Nat.le_of_ble_eq_true rfl, Nat.le_of_ble_eq_true rfl⟩ rfl dX4_init_59 hS (fun q h => h.1) (fun H locs hP hz9 hk hS => ?_)
  have h1 := at_keptA h1 hk (iv_no (by omega))
  have h2 := at_keptA h2 hk (iv_no (by omega))
  have h3 := at_keptA h3 hk (iv_no (by omega))
  have h4 := at_keptA h4 hk (iv_no (by omega))
  have h5 := at_keptA h5 hk (iv_no (by omega))
  have h6 := at_keptA h6 hk (iv_no (by omega))
  have h0 := hP
  refine lv_aload_n hx hb dX4_init_62 rfl (lv_at hl 0 rfl) ?_
  refine r_mV (av := []) (c_X4_anew l G t d (nI 0) (nI 0) (nI (prN 4)) (lN 0) (fun _ => 0)) ⟨hx, hb, hml, hown, hts⟩ (cwV 0 hts gX4_init_X4_anew rfl rfl rfl (by decide +kernel) ⟨Nat.le_of_ble_eq_true rfl, Nat.le_of_ble_eq_true rfl⟩) mv_K ⟨hK, h0, h5⟩ (at_recv hK h0 rfl) rfl hl (Nat.le_of_ble_eq_true rfl) ⟨Nat.le_of_ble_eq_true rfl, Nat.le_of_ble_eq_true rfl⟩ rfl dX4_init_63 hS (fun q h => by show d ≤ q; rcases h with h | h <;> omega) (fun H locs hP hz9 hk hS => ?_)
  have h1 := at_keptA h1 hk (iv2_no (by omega) (by omega))
  have h2 := at_keptA h2 hk (iv2_no (by omega) (by omega))
  have h3 := at_keptA h3 hk (iv2_no (by omega) (by omega))
  have h4 := at_keptA h4 hk (iv2_no (by omega) (by omega))
  have h6 := at_keptA h6 hk (iv2_no (by omega) (by omega))
  obtain ⟨h0, fG, h5, e3⟩ := hP
  exact r_retV hx hb hr hlocks hS (PM_mk (bc := 0) (sl := 0) (by rw [z00_n]; exact h0) h1 h2 h3 h4 h5 h6 (fun j hj => absurd hj (Nat.not_lt_zero _)) (fun i hi hk => absurd hk (by decide)) (fun u hu => e3 u (by rw [z00_u] at hu; omega))) dX4_init_66
