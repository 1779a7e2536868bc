/-! what is made at the start (printed by wip/whole/m13.py) -/
set_option maxRecDepth 20000 in
theorem iiX0_init_0 : ∀ w ∈ wsX00, w ∈ wsX0_init := by decide +kernel
set_option maxHeartbeats 4000000 in
set_option maxRecDepth 100000 in
/-- groups are made -/
theorem c_X0_init (l : Launch) (G : va_G) (t : gT) (gr : Nat → Nat) (o : Nat) : Met l yX0_init wsX0_init ({ frames := 1, cells := 2, slots := 15, locals := 12 } : Room) (pc_ [.ref o] (fun U H => KK G t U ∧ (AO2 U ∧ (at_ G o (.inr (0, [.int (nI 0), .int (nI 0), .null, .null])) H ∧ H.size = o + 1)))) (qv_ (fun H => Gp G t o gr 0 0 H ∧ H.size = o + 3) (fun q => o ≤ q)) 2 15 (fun q => o ≤ q) := by
  refine Met.ofW (cc := cX0_init) (maxL := 1) (ret := none) (by decide) rfl ?_
  intro p e s m args below meth c s₁ B hml hv
  obtain ⟨rfl, hB⟩ := hv
  have hx := B.exec
  have hb := B.bytes
  have hr := B.returns
  have hts := atoms_spec (ws := wsX0_init) B.pre
  have hown : s.vm.findClass RX0 = some m.cls := findClass_of_methodNamed B.named
  have hlocks := B.notSynchronized
  have hin : meth.name = "<init>" := (name_of_methodNamed B.named B.method).1
  have hK := hB.1
  have hAO := hB.2.1
  obtain ⟨h0, hz⟩ := hB.2.2
  have hS : va_S (fun q => o ≤ q) s.heap s.heap [] := va_S.rf
  have hl := lv_entry ([.ref o]) (n := 1) (Nat.le_of_ble_eq_true rfl)
  rw [lg_entry_eq]
  generalize (lg_sl ([.ref o]) ++ List.replicate (1 - (lg_sl ([.ref o])).length) Slot.unset).toArray = ls at hl ⊢
  have hl : lv_has ls 1 [(0, .ref o)] := hl
  refine lv_aload_n hx hb dX0_init_0 rfl (lv_at hl 0 rfl) ?_
  refine W.objInit hx hb hown (hts (.methodLink RX0 3 objectInit) (List.mem_of_getElem? (i := 1) rfl)) (hts (.instanceMethod objectInit) (List.mem_of_getElem? (i := 2) rfl)) (hts _ (List.mem_of_getElem? (i := 3) rfl)) rfl (by rw [hml]; exact hl.1) rfl dX0_init_1 (Nat.le_of_ble_eq_true rfl) (Nat.le_of_ble_eq_true rfl) ?_
  refine W.eq (g2 := F0 m 4 ls []) rfl ?_
  refine lv_aload_n hx hb dX0_init_4 rfl (lv_at hl 0 rfl) ?_
  refine lv_iconst (v := nI 5) hx hb dX0_init_5 (by decide) ?_
  refine r_newI hx hb (hts (.arrayClass .int) (List.mem_of_getElem? (i := 4) rfl)) hK rfl hS 5 (by decide) (by decide) (Nat.le_of_ble_eq_true rfl) (Nat.le_of_ble_eq_true rfl) dX0_init_6 (h := o + 1) hz (fun H h1 z1 o1 hS => ?_)
  have h0 := at_kept h0 (o1 _ (by omega))
  have hz : H.size = o + 2 := by omega
  refine r_putF (ty := (.array .int)) (ci := 0) (C := RX0) (T := TX0) (N := 4) (fs' := [.int (nI 0), .int (nI 0), .ref (o + 1), .null]) hx hb hts iiX0_init_0 tyX0 tyX0_ok nmX0 hown hK h0 (by show o ≤ _; omega) hS rfl 2 (by decide) (hts (.fieldLink RX0 9 "HopMeet$Groups" "least" "[I") (List.mem_of_getElem? (i := 5) rfl)) rfl hin rfl (by decide +kernel) rfl rfl (Nat.le_of_ble_eq_true rfl) rfl dX0_init_8 (fun H locs h0 hz9 hq hS => ?_)
  have h1 := at_kept h1 (hq _ (by omega))
  have hz := hz9.trans hz
  refine lv_aload_n hx hb dX0_init_11 rfl (lv_at hl 0 rfl) ?_
  refine lv_bipush (v := nI 10) hx hb dX0_init_12 (by decide) ?_
  refine r_newI hx hb (hts (.arrayClass .int) (List.mem_of_getElem? (i := 4) rfl)) hK rfl hS 10 (by decide) (by decide) (Nat.le_of_ble_eq_true rfl) (Nat.le_of_ble_eq_true rfl) dX0_init_14 (h := o + 2) hz (fun H h2 z1 o1 hS => ?_)
  have h0 := at_kept h0 (o1 _ (by omega))
  have h1 := at_kept h1 (o1 _ (by omega))
  have hz : H.size = o + 3 := by omega
  refine r_putF (ty := (.array .int)) (ci := 0) (C := RX0) (T := TX0) (N := 4) (fs' := [.int (nI 0), .int (nI 0), .ref (o + 1), .ref (o + 2)]) hx hb hts iiX0_init_0 tyX0 tyX0_ok nmX0 hown hK h0 (by show o ≤ _; omega) hS rfl 3 (by decide) (hts (.fieldLink RX0 15 "HopMeet$Groups" "leaderOn" "[I") (List.mem_of_getElem? (i := 6) rfl)) rfl hin rfl (by decide +kernel) rfl rfl (Nat.le_of_ble_eq_true rfl) rfl dX0_init_16 (fun H locs h0 hz9 hq hS => ?_)
  have h1 := at_kept h1 (hq _ (by omega))
  have h2 := at_kept h2 (hq _ (by omega))
  have hz := hz9.trans hz
  exact r_retV hx hb hr hlocks hS ⟨⟨fun _ => 0, fun _ => 0, fun _ => 0, h0, h1, h2, fun u hu => absurd hu (Nat.not_lt_zero _), fun c hc => rfl⟩, hz⟩ dX0_init_19

set_option maxHeartbeats 4000000 in
set_option maxRecDepth 100000 in
/-- no users, no spells -/
theorem c_X2_clear2 (l : Launch) (G : va_G) (t : gT) (o n k : Nat) (z : Nat → Int32) (hn : 2 ≤ n) (hn2 : n ≤ 10) (e0 : cn z = n) (e1 : cu z = 0) (e2 : cs z = 0) : Met l yX2_clear wsX2_clear ({ frames := 2, cells := 0, slots := 0, locals := 42 } : Room) (pc_ [.ref o, .int (nI n)] (fun U H => KK G t U ∧ (Sy G t o H ∧ H.size = k))) (qv_ (fun H => Sc G t o z H ∧ H.size = k) (iv o (o + 16))) 0 0 (iv o (o + 16)) := by
  refine Met.ofW (cc := cX2_clear) (maxL := 2) (ret := none) (by decide) rfl ?_
  intro p e s m args below meth c s₁ B hml hv
  obtain ⟨rfl, hB⟩ := hv
  have hx := B.exec
  have hb := B.bytes
  have hr := B.returns
  have hts := atoms_spec (ws := wsX2_clear) B.pre
  have hown : s.vm.findClass RX2 = some m.cls := findClass_of_methodNamed B.named
  have hlocks := B.notSynchronized
  have hK := hB.1
  obtain ⟨a0, a1, a2, a3, fU, fS, h0, h1, h2, h4, h5⟩ := hB.2.1
  have hz := hB.2.2
  have hS : va_S (iv o (o + 16)) s.heap s.heap [] := va_S.rf
  have hl := lv_entry ([.ref o, .int (nI n)]) (n := 2) (Nat.le_of_ble_eq_true rfl)
  rw [lg_entry_eq]
  generalize (lg_sl ([.ref o, .int (nI n)]) ++ List.replicate (2 - (lg_sl ([.ref o, .int (nI n)])).length) Slot.unset).toArray = ls at hl ⊢
  have hl : lv_has ls 2 [(0, .ref o), (1, .int (nI n))] := hl
  refine lv_aload_n hx hb dX2_clear_0 rfl (lv_at hl 0 rfl) ?_
  refine lv_iload_n hx hb dX2_clear_1 rfl (lv_at hl 1 rfl) ?_
  refine r_put (ty := .int) (ci := 2) (C := RX2) (T := TX2) (N := 6) (fs' := [.int (nI n), .int a1, .int a2, .int a3, .ref (o + 1), .ref (o + 7)]) hx hb hts iiX2_clear_2 tyX2 tyX2_ok nmX2 hown hK h0 ⟨by omega, by omega⟩ hS rfl 0 (by decide) (hts (.fieldLink RX2 23 "HopMeet$Scene" "channelCount" "I") (List.mem_of_getElem? (i := 1) rfl)) rfl (by decide +kernel) rfl rfl (Nat.le_of_ble_eq_true rfl) rfl dX2_clear_2 (fun H locs h0 hz9 hq hS => ?_)
  have h1 := at_kept h1 (hq _ (by omega))
  have h4 := at_kept h4 (hq _ (by omega))
  have h2 := fun i hi => at_kept (h2 i hi) (hq _ (by omega))
  have h5 := fun i hi => at_kept (h5 i hi) (hq _ (by omega))
  have hz := hz9.trans hz
  refine lv_aload_n hx hb dX2_clear_5 rfl (lv_at hl 0 rfl) ?_
  refine lv_iload_n hx hb dX2_clear_6 rfl (lv_at hl 1 rfl) ?_
  refine r_cS (av := [.int (nI n)]) (c_X2_primeAbove l G t n hn hn2) ⟨hx, hb, hml, hown, hts⟩ (va_cwS 1 hts gX2_clear_X2_primeAbove rfl rfl rfl (by decide +kernel) ⟨Nat.le_of_ble_eq_true rfl, Nat.le_of_ble_eq_true rfl⟩) mv_T trivial rfl hl (Nat.le_of_ble_eq_true rfl) ⟨Nat.le_of_ble_eq_true rfl, Nat.le_of_ble_eq_true rfl⟩ rfl dX2_clear_7 (fun r1 hr1 => ?_)
  subst hr1
  refine r_put (ty := .int) (ci := 2) (C := RX2) (T := TX2) (N := 6) (fs' := [.int (nI n), .int (nI (prN n)), .int a2, .int a3, .ref (o + 1), .ref (o + 7)]) hx hb hts iiX2_clear_2 tyX2 tyX2_ok nmX2 hown hK h0 ⟨by omega, by omega⟩ hS rfl 1 (by decide) (hts (.fieldLink RX2 31 "HopMeet$Scene" "prime" "I") (List.mem_of_getElem? (i := 2) rfl)) rfl (by decide +kernel) rfl rfl (Nat.le_of_ble_eq_true rfl) rfl dX2_clear_10 (fun H locs h0 hz9 hq hS => ?_)
  have h1 := at_kept h1 (hq _ (by omega))
  have h4 := at_kept h4 (hq _ (by omega))
  have h2 := fun i hi => at_kept (h2 i hi) (hq _ (by omega))
  have h5 := fun i hi => at_kept (h5 i hi) (hq _ (by omega))
  have hz := hz9.trans hz
  refine lv_aload_n hx hb dX2_clear_13 rfl (lv_at hl 0 rfl) ?_
  refine lv_iconst (v := nI 0) hx hb dX2_clear_14 (by decide) ?_
  refine r_put (ty := .int) (ci := 2) (C := RX2) (T := TX2) (N := 6) (fs' := [.int (nI n), .int (nI (prN n)), .int (nI 0), .int a3, .ref (o + 1), .ref (o + 7)]) hx hb hts iiX2_clear_2 tyX2 tyX2_ok nmX2 hown hK h0 ⟨by omega, by omega⟩ hS rfl 2 (by decide) (hts (.fieldLink RX2 34 "HopMeet$Scene" "userCount" "I") (List.mem_of_getElem? (i := 3) rfl)) rfl (by decide +kernel) rfl rfl (Nat.le_of_ble_eq_true rfl) rfl dX2_clear_15 (fun H locs h0 hz9 hq hS => ?_)
  have h1 := at_kept h1 (hq _ (by omega))
  have h4 := at_kept h4 (hq _ (by omega))
  have h2 := fun i hi => at_kept (h2 i hi) (hq _ (by omega))
  have h5 := fun i hi => at_kept (h5 i hi) (hq _ (by omega))
  have hz := hz9.trans hz
  refine lv_aload_n hx hb dX2_clear_18 rfl (lv_at hl 0 rfl) ?_
  refine lv_iconst (v := nI 0) hx hb dX2_clear_19 (by decide) ?_
  refine r_put (ty := .int) (ci := 2) (C := RX2) (T := TX2) (N := 6) (fs' := [.int (nI n), .int (nI (prN n)), .int (nI 0), .int (nI 0), .ref (o + 1), .ref (o + 7)]) hx hb hts iiX2_clear_2 tyX2 tyX2_ok nmX2 hown hK h0 ⟨by omega, by omega⟩ hS rfl 3 (by decide) (hts (.fieldLink RX2 37 "HopMeet$Scene" "spellCount" "I") (List.mem_of_getElem? (i := 4) rfl)) rfl (by decide +kernel) rfl rfl (Nat.le_of_ble_eq_true rfl) rfl dX2_clear_20 (fun H locs h0 hz9 hq hS => ?_)
  have h1 := at_kept h1 (hq _ (by omega))
  have h4 := at_kept h4 (hq _ (by omega))
  have h2 := fun i hi => at_kept (h2 i hi) (hq _ (by omega))
  have h5 := fun i hi => at_kept (h5 i hi) (hq _ (by omega))
  have hz := hz9.trans hz
  exact r_retV hx hb hr hlocks hS ⟨Sc_mk e0 e1 e2 h0 h1 h2 h4 h5 (fun i hi => absurd hi (Nat.not_lt_zero _)) (fun i hi => absurd hi (Nat.not_lt_zero _)), hz⟩ dX2_clear_23

set_option maxRecDepth 20000 in
theorem iiX2_init_2 : ∀ w ∈ wsX20, w ∈ wsX2_init := by decide +kernel
set_option maxHeartbeats 4000000 in
set_option maxRecDepth 100000 in
/-- a scene is made -/
theorem c_X2_init (l : Launch) (G : va_G) (t : gT) (o : Nat) : Met l yX2_init wsX2_init ({ frames := 3, cells := 15, slots := 70, locals := 63 } : Room) (pc_ [.ref o] (fun U H => KK G t U ∧ (AO2 U ∧ (at_ G o (.inr (2, [.int (nI 0), .int (nI 0), .int (nI 0), .int (nI 0), .null, .null])) H ∧ H.size = o + 1)))) (qv_ (fun H => Sc G t o z00 H ∧ H.size = o + 16) (fun q => o ≤ q)) 15 70 (fun q => o ≤ q) := by
  refine Met.ofW (cc := cX2_init) (maxL := 1) (ret := none) (by decide) rfl ?_
  intro p e s m args below meth c s₁ B hml hv
  obtain ⟨rfl, hB⟩ := hv
  have hx := B.exec
  have hb := B.bytes
  have hr := B.returns
  have hts := atoms_spec (ws := wsX2_init) B.pre
  have hown : s.vm.findClass RX2 = some m.cls := findClass_of_methodNamed B.named
  have hlocks := B.notSynchronized
  have hin : meth.name = "<init>" := (name_of_methodNamed B.named B.method).1
  have hK := hB.1
  have hAO := hB.2.1
  obtain ⟨h0, hz⟩ := hB.2.2
  have hS : va_S (fun q => o ≤ q) s.heap s.heap [] := va_S.rf
  have hl := lv_entry ([.ref o]) (n := 1) (Nat.le_of_ble_eq_true rfl)
  rw [lg_entry_eq]
  generalize (lg_sl ([.ref o]) ++ List.replicate (1 - (lg_sl ([.ref o])).length) Slot.unset).toArray = ls at hl ⊢
  have hl : lv_has ls 1 [(0, .ref o)] := hl
  refine lv_aload_n hx hb dX2_init_0 rfl (lv_at hl 0 rfl) ?_
  refine W.objInit hx hb hown (hts (.methodLink RX2 3 objectInit) (List.mem_of_getElem? (i := 1) rfl)) (hts (.instanceMethod objectInit) (List.mem_of_getElem? (i := 2) rfl)) (hts _ (List.mem_of_getElem? (i := 3) rfl)) rfl (by rw [hml]; exact hl.1) rfl dX2_init_1 (Nat.le_of_ble_eq_true rfl) (Nat.le_of_ble_eq_true rfl) ?_
  refine W.eq (g2 := F0 m 4 ls []) rfl ?_
  refine lv_aload_n hx hb dX2_init_4 rfl (lv_at hl 0 rfl) ?_
  refine lv_iconst (v := nI 5) hx hb dX2_init_5 (by decide) ?_
  refine lv_iconst (v := nI 5) hx hb dX2_init_6 (by decide) ?_
  refine r_mna hx hb hown (hts (.classLink RX2 9 "[[I") (List.mem_of_getElem? (i := 4) rfl)) hAO.i (hts (.arrayClass .int) (List.mem_of_getElem? (i := 5) rfl)) hK rfl rfl hS 5 5 (by decide) (by decide) (Nat.le_of_ble_eq_true rfl) (Nat.le_of_ble_eq_true rfl) dX2_init_7 (h := o + 1) hz (fun H h1 h2 z1 o1 hS => ?_)
  have h0 := at_kept h0 (o1 _ (by omega))
  have hz : H.size = o + 7 := by omega
  have h1 : at_ G (o + 1) (aR t 5 (rowsF 5 (o + 2))) H := h1
  have h2 : ∀ i, i < 5 → at_ G (o + 2 + i) (aI t 5 (fun _ => 0)) H := h2
  refine r_putF (ty := (.array (.array .int))) (ci := 2) (C := RX2) (T := TX2) (N := 6) (fs' := [.int (nI 0), .int (nI 0), .int (nI 0), .int (nI 0), .ref (o + 1), .null]) hx hb hts iiX2_init_2 tyX2 tyX2_ok nmX2 hown hK h0 (by show o ≤ _; omega) hS rfl 4 (by decide) (hts (.fieldLink RX2 11 "HopMeet$Scene" "users" "[[I") (List.mem_of_getElem? (i := 6) rfl)) rfl hin rfl (by decide +kernel) rfl rfl (Nat.le_of_ble_eq_true rfl) rfl dX2_init_11 (fun H locs h0 hz9 hq hS => ?_)
  have h1 := at_kept h1 (hq _ (by omega))
  have hz := hz9.trans hz
  have h2 := fun i hi => at_kept (h2 i hi) (hq _ (by omega))
  refine lv_aload_n hx hb dX2_init_14 rfl (lv_at hl 0 rfl) ?_
  refine lv_bipush (v := nI 8) hx hb dX2_init_15 (by decide) ?_
  refine lv_iconst (v := nI 4) hx hb dX2_init_17 (by decide) ?_
  refine r_mna hx hb hown (hts (.classLink RX2 9 "[[I") (List.mem_of_getElem? (i := 4) rfl)) hAO.i (hts (.arrayClass .int) (List.mem_of_getElem? (i := 5) rfl)) hK rfl rfl hS 8 4 (by decide) (by decide) (Nat.le_of_ble_eq_true rfl) (Nat.le_of_ble_eq_true rfl) dX2_init_18 (h := o + 7) hz (fun H h4 h5 z1 o1 hS => ?_)
  have h0 := at_kept h0 (o1 _ (by omega))
  have h1 := at_kept h1 (o1 _ (by omega))
  have h2 := fun i hi => at_kept (h2 i hi) (o1 _ (by omega))
  have hz : H.size = o + 16 := by omega
  have h4 : at_ G (o + 7) (aR t 8 (rowsF 8 (o + 8))) H := h4
  have h5 : ∀ i, i < 8 → at_ G (o + 8 + i) (aI t 4 (fun _ => 0)) H := h5
  refine r_putF (ty := (.array (.array .int))) (ci := 2) (C := RX2) (T := TX2) (N := 6) (fs' := [.int (nI 0), .int (nI 0), .int (nI 0), .int (nI 0), .ref (o + 1), .ref (o + 7)]) hx hb hts iiX2_init_2 tyX2 tyX2_ok nmX2 hown hK h0 (by show o ≤ _; omega) hS rfl 5 (by decide) (hts (.fieldLink RX2 16 "HopMeet$Scene" "spells" "[[I") (List.mem_of_getElem? (i := 7) rfl)) rfl hin rfl (by decide +kernel) rfl rfl (Nat.le_of_ble_eq_true rfl) rfl dX2_init_22 (fun H locs h0 hz9 hq hS => ?_)
  have h1 := at_kept h1 (hq _ (by omega))
  have h4 := at_kept h4 (hq _ (by omega))
  have h2 := fun i hi => at_kept (h2 i hi) (hq _ (by omega))
  have hz := hz9.trans hz
  have h5 := fun i hi => at_kept (h5 i hi) (hq _ (by omega))
  refine lv_aload_n hx hb dX2_init_25 rfl (lv_at hl 0 rfl) ?_
  refine lv_iconst (v := nI 4) hx hb dX2_init_26 (by decide) ?_
  refine r_mV (av := [.int (nI 4)]) (c_X2_clear2 l G t o 4 (o + 16) z00 (by decide) (by decide) z00_n z00_u z00_s) ⟨hx, hb, hml, hown, hts⟩ (cwV 1 hts gX2_init_X2_clear rfl rfl rfl (by decide +kernel) ⟨Nat.le_of_ble_eq_true rfl, Nat.le_of_ble_eq_true rfl⟩) mv_K ⟨hK, ⟨nI 0, nI 0, nI 0, nI 0, fun _ _ => 0, fun _ _ => 0, h0, h1, h2, h4, h5⟩, hz⟩ (at_recv hK h0 rfl) rfl hl (Nat.le_of_ble_eq_true rfl) ⟨Nat.le_of_ble_eq_true rfl, Nat.le_of_ble_eq_true rfl⟩ rfl dX2_init_27 hS (fun q h => h.1) (fun H locs hP hz9 hk hS => ?_)
  have hz := hP.2
  exact r_retV hx hb hr hlocks hS hP dX2_init_30

set_option maxRecDepth 20000 in
theorem iiX1_init_1 : ∀ w ∈ wsX10, w ∈ wsX1_init := by decide +kernel
set_option maxRecDepth 20000 in
theorem iiX1_init_2 : ∀ w ∈ wsX20, w ∈ wsX1_init := by decide +kernel
set_option maxHeartbeats 4000000 in
set_option maxRecDepth 100000 in
/-- a past is made -/
theorem c_X1_init (l : Launch) (G : va_G) (t : gT) (o : Nat) (bk : Nat → Nat → Int32) : Met l yX1_init wsX1_init ({ frames := 4, cells := 193, slots := 924, locals := 83 } : Room) (pc_ [.ref o] (fun U H => KK G t U ∧ (AO2 U ∧ (at_ G o (.inr (1, [.null, .int (nI 0), .int (nI 0)])) H ∧ H.size = o + 1)))) (qv_ (fun H => Pa G t o 0 bk H ∧ H.size = o + 194) (fun q => o ≤ q)) 193 924 (fun q => o ≤ q) := by
  refine Met.ofW (cc := cX1_init) (maxL := 2) (ret := none) (by decide) rfl ?_
  intro p e s m args below meth c s₁ B hml hv
  obtain ⟨rfl, hB⟩ := hv
  have hx := B.exec
  have hb := B.bytes
  have hr := B.returns
  have hts := atoms_spec (ws := wsX1_init) B.pre
  have hown : s.vm.findClass RX1 = some m.cls := findClass_of_methodNamed B.named
  have hlocks := B.notSynchronized
  have hin : meth.name = "<init>" := (name_of_methodNamed B.named B.method).1
  have hK := hB.1
  have hAO := hB.2.1
  obtain ⟨h0, hz⟩ := hB.2.2
  have hS : va_S (fun q => o ≤ q) s.heap s.heap [] := va_S.rf
  have hl := lv_entry ([.ref o]) (n := 2) (Nat.le_of_ble_eq_true rfl)
  rw [lg_entry_eq]
  generalize (lg_sl ([.ref o]) ++ List.replicate (2 - (lg_sl ([.ref o])).length) Slot.unset).toArray = ls at hl ⊢
  have hl : lv_has ls 2 [(0, .ref o)] := hl
  refine lv_aload_n hx hb dX1_init_0 rfl (lv_at hl 0 rfl) ?_
  refine W.objInit hx hb hown (hts (.methodLink RX1 3 objectInit) (List.mem_of_getElem? (i := 1) rfl)) (hts (.instanceMethod objectInit) (List.mem_of_getElem? (i := 2) rfl)) (hts _ (List.mem_of_getElem? (i := 3) rfl)) rfl (by rw [hml]; exact hl.1) rfl dX1_init_1 (Nat.le_of_ble_eq_true rfl) (Nat.le_of_ble_eq_true rfl) ?_
  refine W.eq (g2 := F0 m 4 ls []) rfl ?_
  refine lv_aload_n hx hb dX1_init_4 rfl (lv_at hl 0 rfl) ?_
  refine lv_bipush (v := nI 12) hx hb dX1_init_5 (by decide) ?_
  refine r_newQ hx hb hown (hts (.classLink RX1 9 RX2) (List.mem_of_getElem? (i := 4) rfl)) hAO.q hK rfl hS 12 (by decide) (by decide) (Nat.le_of_ble_eq_true rfl) (Nat.le_of_ble_eq_true rfl) dX1_init_7 (h := o + 1) hz (fun H h1 z1 o1 hS => ?_)
  have h0 := at_kept h0 (o1 _ (by omega))
  have hz : H.size = o + 2 := by omega
  have h1 : at_ G (o + 1) (aQ t 12 (rowsH (o + 2) 0)) H := by rw [rowsH_0]; exact h1
  refine r_putF (ty := (.array (.object "HopMeet$Scene"))) (ci := 1) (C := RX1) (T := TX1) (N := 3) (fs' := [.ref (o + 1), .int (nI 0), .int (nI 0)]) hx hb hts iiX1_init_1 tyX1 tyX1_ok nmX1 hown hK h0 (by show o ≤ _; omega) hS rfl 0 (by decide) (hts (.fieldLink RX1 11 "HopMeet$Past" "scenes" "[LHopMeet$Scene;") (List.mem_of_getElem? (i := 5) rfl)) rfl hin rfl (by decide +kernel) rfl rfl (Nat.le_of_ble_eq_true rfl) rfl dX1_init_10 (fun H locs h0 hz9 hq hS => ?_)
  have h1 := at_kept h1 (hq _ (by omega))
  have hz := hz9.trans hz
  refine lv_iconst (v := nI 0) hx hb dX1_init_13 (by decide) ?_
  refine lv_istore_n (lv' := [(1, .int (nI 0)), (0, .ref o)]) hx hb dX1_init_14 rfl hl (by decide) rfl (fun ls hl => ?_)
  have loop15 : ∀ (fu : Nat) (i : Nat) (hi : i ≤ 12) (hfu : 12 - i < fu) (H : Heap) (locs : List Loc) (h0 : at_ G o (.inr (1, [.ref (o + 1), .int (nI 0), .int (nI 0)])) H) (h1 : at_ G (o + 1) (aQ t 12 (rowsH (o + 2) i)) H) (hs : ∀ j, j < i → Sc G t (o + 2 + 16 * j) z00 H) (hz : H.size = o + 2 + 16 * i) (hS : va_S (fun q => o ≤ q) s.heap H locs) (ls : Array Slot) (hl : lv_has ls 2 [(0, .ref o), (1, .int (nI i))]), W p l e (headSpec wsX1_init ({ frames := 4, cells := 193, slots := 924, locals := 83 } : Room)).room s m ([.ref o] : List Value).toArray below meth c H locs (1 + 16 * i) (12 + 76 * i) (MQ below (qv_ (fun H => Pa G t o 0 bk H ∧ H.size = o + 194) (fun q => o ≤ q)) ([.ref o] : List Value).toArray s 193 924 (fun q => o ≤ q)) (F0 m 15 ls []) := by
    intro fu
    induction fu with
    | zero => intro i hi hfu; exact absurd hfu (Nat.not_lt_zero _)
    | succ fu15 ih15 =>
      intro i hi hfu H locs h0 h1 hs hz hS ls hl
      refine lv_iload_n hx hb dX1_init_15 rfl (lv_at hl 1 rfl) ?_
      refine lv_bipush (v := nI 12) hx hb dX1_init_16 (by decide) ?_
      refine r_geN hx hb (by omega) (by omega) dX1_init_18 (tgt := 40) (by decide) (fun c1 => ?_) (fun c1 => ?_)
      · have ei : i = 12 := by omega
        subst ei
        exact r_retV hx hb hr hlocks hS ⟨⟨0, fun _ => z00, by decide, h0, h1, fun i hi => hs i hi, fun j hj => absurd hj (Nat.not_lt_zero _)⟩, hz⟩ dX1_init_40
      · refine lv_aload_n hx hb dX1_init_21 rfl (lv_at hl 0 rfl) ?_
        refine r_get (C := RX1) (T := TX1) (N := 3) hx hb hts iiX1_init_1 hown hK h0 rfl 0 (by decide) (hts (.fieldLink RX1 11 "HopMeet$Past" "scenes" "[LHopMeet$Scene;") (List.mem_of_getElem? (i := 5) rfl)) rfl dX1_init_22 ?_
        refine lv_iload_n hx hb dX1_init_25 rfl (lv_at hl 1 rfl) ?_
        refine r_new (C := RX2) (T := TX2) (N := 6) (ci := 2) (fs := [.int (nI 0), .int (nI 0), .int (nI 0), .int (nI 0), .null, .null]) hx hb hts iiX1_init_2 tyX2 tyX2_ok hown (hts (.classLink RX1 9 RX2) (List.mem_of_getElem? (i := 4) rfl)) (hts (.instantiable RX2 6) (List.mem_of_getElem? (i := 6) rfl)) (hts (.initialized RX2) (List.mem_of_getElem? (i := 7) rfl)) hK hS rfl (dfX2) (by show _ ≤ (_ : Nat); first | (show 1 + 16 * i + 1 ≤ 193; omega) | (show 12 + 76 * i + 6 ≤ 924; omega)) (by show _ ≤ (_ : Nat); first | (show 1 + 16 * i + 1 ≤ 193; omega) | (show 12 + 76 * i + 6 ≤ 924; omega)) dX1_init_26 (h := o + 2 + 16 * i) hz (fun H h3 z1 o1 hS => ?_)
        have h0 := at_kept h0 (o1 _ (by omega))
        have h1 := at_kept h1 (o1 _ (by omega))
        have hs := fun j hj => Sc_kt (hs j hj) o1 (by omega)
        have hz : H.size = o + 2 + 16 * i + 1 := by omega
        refine lv_dup hx hb dX1_init_29 rfl ?_
        refine r_mI (av := []) (c_X2_init l G t (o + 2 + 16 * i)) ⟨hx, hb, hml, hown, hts⟩ (cwI 0 hts gX1_init_X2_init rfl rfl rfl (hts (.initialized RX2) (List.mem_of_getElem? (i := 7) rfl)) (hts (.methodLink RX1 17 yX2_init) (List.mem_of_getElem? (i := 8) rfl)) (hts (.instanceMethod yX2_init) (List.mem_of_getElem? (i := 9) rfl)) rfl (by decide +kernel) ⟨Nat.le_of_ble_eq_true rfl, Nat.le_of_ble_eq_true rfl⟩) mv_KA ⟨hK, hAO, h3, hz⟩ rfl hl (Nat.le_of_ble_eq_true rfl) ⟨by show 1 + 16 * i + 1 + 15 ≤ 193; omega, by show 12 + 76 * i + 6 + 70 ≤ 924; omega⟩ rfl dX1_init_30 hS (fun q h => Nat.le_trans (by omega) h) (fun H locs hP hz9 hk hS => ?_)
        have h0 := at_keptA h0 hk (Nat.not_le.mpr (by omega))
        have h1 := at_keptA h1 hk (Nat.not_le.mpr (by omega))
        have hs := fun j hj => Sc_keptA (hs j hj) hk (fun q h8 h9 => Nat.not_le.mpr (by omega))
        have hz : H.size = o + 2 + 16 * i + 16 := hP.2
        refine r_qast hx hb hK h1 ((by show o ≤ _; omega)) hS rfl (Sc_obj hP.1) rfl i (by omega) (by decide) dX1_init_33 (fun H locs h1 hz9 hq hS => ?_)
        have hnew := Sc_kept hP.1 (fun q h8 h9 => hq q (by omega))
        have h0 := at_kept h0 (hq _ (by omega))
        have hs := fun j hj => Sc_kept (hs j hj) (fun q h8 h9 => hq q (by omega))
        have hz := hz9.trans hz
        rw [rowsH_s] at h1
        refine lv_iinc (v := nI (i + 1)) (lv' := [(1, .int (nI (i + 1))), (0, .ref o)]) hx hb dX1_init_34 hl (k := 1) rfl (nI_1 _) (by decide) rfl (fun ls hl => ?_)
        refine lv_goto (tgt := 15) hx hb dX1_init_37 (by decide) ?_
        rw [show 1 + 16 * i + 1 + 15 = 1 + 16 * (i + 1) by omega, show 12 + 76 * i + 6 + 70 = 12 + 76 * (i + 1) by omega]
        exact ih15 (i + 1) (by omega) (by omega) _ _ h0 h1 (fun j hj => by rcases Nat.lt_succ_iff_lt_or_eq.mp hj with q | q; exact hs j q; exact q ▸ hnew) (hz.trans (by omega)) hS ls (lv_sub hl [1, 0] rfl)
  exact loop15 _ 0 (Nat.zero_le _) (Nat.lt_succ_self _) _ _ h0 h1 (fun j hj => absurd hj (Nat.not_lt_zero _)) hz hS ls (lv_sub hl [1, 0] rfl)
