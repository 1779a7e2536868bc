/-! Scene: what changes it (printed by wip/whole/m4.py) -/
set_option maxRecDepth 20000 in
theorem iiX2_clear_2 : ∀ w ∈ wsX20, w ∈ wsX2_clear := by decide +kernel
set_option maxHeartbeats 4000000 in
set_option maxRecDepth 100000 in
/-- no users, no spells -/
theorem c_X2_clear (l : Launch) (G : va_G) (t : gT) (o n : Nat) (z : Nat → Int32) (hn : 2 ≤ n) (hn2 : n ≤ 10) (e0 : cn z = n) (e1 : cu z = 0) (e2 : cs z = 0) : Met l yX2_clear wsX2_clear ({ frames := 2, cells := 0, slots := 0, locals := 42 } : Room) (pc_ [.ref o, .int (nI n)] (fun U H => KK G t U ∧ Sy G t o H)) (qv_ (fun H => Sc G t o z H) (iv o (o + 16))) 0 0 (iv o (o + 16)) := by
  refine Met.ofW (cc := cX2_clear) (maxL := 2) (ret := none) (by decide) rfl ?_
  intro p e s m args below meth c s₁ B hml hv
  obtain ⟨rfl, hB⟩ := hv
  have hx := B.exec
  have hb := B.bytes
  have hr := B.returns
  have hts := atoms_spec (ws := wsX2_clear) B.pre
  have hown : s.vm.findClass RX2 = some m.cls := findClass_of_methodNamed B.named
  have hlocks := B.notSynchronized
  have hK := hB.1
  obtain ⟨a0, a1, a2, a3, fU, fS, h0, h1, h2, h4, h5⟩ := hB.2
  have hS : va_S (iv o (o + 16)) s.heap s.heap [] := va_S.rf
  have hl := lv_entry ([.ref o, .int (nI n)]) (n := 2) (Nat.le_of_ble_eq_true rfl)
  rw [lg_entry_eq]
  generalize (lg_sl ([.ref o, .int (nI n)]) ++ List.replicate (2 - (lg_sl ([.ref o, .int (nI n)])).length) Slot.unset).toArray = ls at hl ⊢
  have hl : lv_has ls 2 [(0, .ref o), (1, .int (nI n))] := hl
  refine lv_aload_n hx hb dX2_clear_0 rfl (lv_at hl 0 rfl) ?_
  refine lv_iload_n hx hb dX2_clear_1 rfl (lv_at hl 1 rfl) ?_
  refine r_put (ty := .int) (ci := 2) (C := RX2) (T := TX2) (N := 6) (fs' := [.int (nI n), .int a1, .int a2, .int a3, .ref (o + 1), .ref (o + 7)]) hx hb hts iiX2_clear_2 tyX2 tyX2_ok nmX2 hown hK h0 ⟨by omega, by omega⟩ hS rfl 0 (by decide) (hts (.fieldLink RX2 23 "HopMeet$Scene" "channelCount" "I") (List.mem_of_getElem? (i := 1) rfl)) rfl (by decide +kernel) rfl rfl (Nat.le_of_ble_eq_true rfl) rfl dX2_clear_2 (fun H locs h0 hz9 hq hS => ?_)
  have h1 := at_kept h1 (hq _ (by omega))
  have h4 := at_kept h4 (hq _ (by omega))
  have h2 := fun i hi => at_kept (h2 i hi) (hq _ (by omega))
  have h5 := fun i hi => at_kept (h5 i hi) (hq _ (by omega))
  refine lv_aload_n hx hb dX2_clear_5 rfl (lv_at hl 0 rfl) ?_
  refine lv_iload_n hx hb dX2_clear_6 rfl (lv_at hl 1 rfl) ?_
  refine r_cS (av := [.int (nI n)]) (c_X2_primeAbove l G t n hn hn2) ⟨hx, hb, hml, hown, hts⟩ (va_cwS 1 hts gX2_clear_X2_primeAbove rfl rfl rfl (by decide +kernel) ⟨Nat.le_of_ble_eq_true rfl, Nat.le_of_ble_eq_true rfl⟩) mv_T trivial rfl hl (Nat.le_of_ble_eq_true rfl) ⟨Nat.le_of_ble_eq_true rfl, Nat.le_of_ble_eq_true rfl⟩ rfl dX2_clear_7 (fun r1 hr1 => ?_)
  subst hr1
  refine r_put (ty := .int) (ci := 2) (C := RX2) (T := TX2) (N := 6) (fs' := [.int (nI n), .int (nI (prN n)), .int a2, .int a3, .ref (o + 1), .ref (o + 7)]) hx hb hts iiX2_clear_2 tyX2 tyX2_ok nmX2 hown hK h0 ⟨by omega, by omega⟩ hS rfl 1 (by decide) (hts (.fieldLink RX2 31 "HopMeet$Scene" "prime" "I") (List.mem_of_getElem? (i := 2) rfl)) rfl (by decide +kernel) rfl rfl (Nat.le_of_ble_eq_true rfl) rfl dX2_clear_10 (fun H locs h0 hz9 hq hS => ?_)
  have h1 := at_kept h1 (hq _ (by omega))
  have h4 := at_kept h4 (hq _ (by omega))
  have h2 := fun i hi => at_kept (h2 i hi) (hq _ (by omega))
  have h5 := fun i hi => at_kept (h5 i hi) (hq _ (by omega))
  refine lv_aload_n hx hb dX2_clear_13 rfl (lv_at hl 0 rfl) ?_
  refine lv_iconst (v := nI 0) hx hb dX2_clear_14 (by decide) ?_
  refine r_put (ty := .int) (ci := 2) (C := RX2) (T := TX2) (N := 6) (fs' := [.int (nI n), .int (nI (prN n)), .int (nI 0), .int a3, .ref (o + 1), .ref (o + 7)]) hx hb hts iiX2_clear_2 tyX2 tyX2_ok nmX2 hown hK h0 ⟨by omega, by omega⟩ hS rfl 2 (by decide) (hts (.fieldLink RX2 34 "HopMeet$Scene" "userCount" "I") (List.mem_of_getElem? (i := 3) rfl)) rfl (by decide +kernel) rfl rfl (Nat.le_of_ble_eq_true rfl) rfl dX2_clear_15 (fun H locs h0 hz9 hq hS => ?_)
  have h1 := at_kept h1 (hq _ (by omega))
  have h4 := at_kept h4 (hq _ (by omega))
  have h2 := fun i hi => at_kept (h2 i hi) (hq _ (by omega))
  have h5 := fun i hi => at_kept (h5 i hi) (hq _ (by omega))
  refine lv_aload_n hx hb dX2_clear_18 rfl (lv_at hl 0 rfl) ?_
  refine lv_iconst (v := nI 0) hx hb dX2_clear_19 (by decide) ?_
  refine r_put (ty := .int) (ci := 2) (C := RX2) (T := TX2) (N := 6) (fs' := [.int (nI n), .int (nI (prN n)), .int (nI 0), .int (nI 0), .ref (o + 1), .ref (o + 7)]) hx hb hts iiX2_clear_2 tyX2 tyX2_ok nmX2 hown hK h0 ⟨by omega, by omega⟩ hS rfl 3 (by decide) (hts (.fieldLink RX2 37 "HopMeet$Scene" "spellCount" "I") (List.mem_of_getElem? (i := 4) rfl)) rfl (by decide +kernel) rfl rfl (Nat.le_of_ble_eq_true rfl) rfl dX2_clear_20 (fun H locs h0 hz9 hq hS => ?_)
  have h1 := at_kept h1 (hq _ (by omega))
  have h4 := at_kept h4 (hq _ (by omega))
  have h2 := fun i hi => at_kept (h2 i hi) (hq _ (by omega))
  have h5 := fun i hi => at_kept (h5 i hi) (hq _ (by omega))
  exact r_retV hx hb hr hlocks hS (Sc_mk e0 e1 e2 h0 h1 h2 h4 h5 (fun i hi => absurd hi (Nat.not_lt_zero _)) (fun i hi => absurd hi (Nat.not_lt_zero _))) dX2_clear_23

set_option maxRecDepth 20000 in
theorem iiX2_become_2 : ∀ w ∈ wsX20, w ∈ wsX2_become := by decide +kernel
set_option maxHeartbeats 4000000 in
set_option maxRecDepth 100000 in
/-- a scene becomes another -/
theorem c_X2_become (l : Launch) (G : va_G) (t : gT) (o o2 : Nat) (z : Nat → Int32) (hz : WF z) (hsep : o + 16 ≤ o2 ∨ o2 + 16 ≤ o) : Met l yX2_become wsX2_become ({ frames := 1, cells := 0, slots := 0, locals := 30 } : Room) (pc_ [.ref o, .ref o2] (fun U H => KK G t U ∧ (Sy G t o H ∧ Sc G t o2 z H))) (qv_ (fun H => Sc G t o z H) (iv o (o + 16))) 0 0 (iv o (o + 16)) := by
  refine Met.ofW (cc := cX2_become) (maxL := 3) (ret := none) (by decide) rfl ?_
  intro p e s m args below meth c s₁ B hml hv
  obtain ⟨rfl, hB⟩ := hv
  have hx := B.exec
  have hb := B.bytes
  have hr := B.returns
  have hts := atoms_spec (ws := wsX2_become) B.pre
  have hown : s.vm.findClass RX2 = some m.cls := findClass_of_methodNamed B.named
  have hlocks := B.notSynchronized
  have hK := hB.1
  have hSc := hB.2.2
  obtain ⟨a0, a1, a2, a3, fU, fS, h0, h1, h2, h4, h5⟩ := hB.2.1
  have g0 := Sc_obj hSc
  have g1 := (Sc_rows hSc).1
  have g4 := (Sc_rows hSc).2
  have hu5 := hz.u5
  have hs8 := hz.s8
  have hS : va_S (iv o (o + 16)) s.heap s.heap [] := va_S.rf
  have hl := lv_entry ([.ref o, .ref o2]) (n := 3) (Nat.le_of_ble_eq_true rfl)
  rw [lg_entry_eq]
  generalize (lg_sl ([.ref o, .ref o2]) ++ List.replicate (3 - (lg_sl ([.ref o, .ref o2])).length) Slot.unset).toArray = ls at hl ⊢
  have hl : lv_has ls 3 [(0, .ref o), (1, .ref o2)] := hl
  refine lv_aload_n hx hb dX2_become_0 rfl (lv_at hl 0 rfl) ?_
  refine lv_aload_n hx hb dX2_become_1 rfl (lv_at hl 1 rfl) ?_
  refine r_get (C := RX2) (T := TX2) (N := 6) hx hb hts iiX2_become_2 hown hK g0 rfl 0 (by decide) (hts (.fieldLink RX2 23 "HopMeet$Scene" "channelCount" "I") (List.mem_of_getElem? (i := 1) rfl)) rfl dX2_become_2 ?_
  refine r_put (ty := .int) (ci := 2) (C := RX2) (T := TX2) (N := 6) (fs' := [.int (nI (cn z)), .int a1, .int a2, .int a3, .ref (o + 1), .ref (o + 7)]) hx hb hts iiX2_become_2 tyX2 tyX2_ok nmX2 hown hK h0 ⟨by omega, by omega⟩ hS rfl 0 (by decide) (hts (.fieldLink RX2 23 "HopMeet$Scene" "channelCount" "I") (List.mem_of_getElem? (i := 1) rfl)) rfl (by decide +kernel) rfl rfl (Nat.le_of_ble_eq_true rfl) rfl dX2_become_5 (fun H locs h0 hz9 hq hS => ?_)
  have h1 := at_kept h1 (hq _ (by omega))
  have h4 := at_kept h4 (hq _ (by omega))
  have g0 := at_kept g0 (hq _ (by omega))
  have g1 := at_kept g1 (hq _ (by omega))
  have g4 := at_kept g4 (hq _ (by omega))
  have h2 := fun i hi => at_kept (h2 i hi) (hq _ (by omega))
  have h5 := fun i hi => at_kept (h5 i hi) (hq _ (by omega))
  have hSc := Sc_kept hSc (fun q h8 h9 => hq q (by omega))
  refine lv_aload_n hx hb dX2_become_8 rfl (lv_at hl 0 rfl) ?_
  refine lv_aload_n hx hb dX2_become_9 rfl (lv_at hl 1 rfl) ?_
  refine r_get (C := RX2) (T := TX2) (N := 6) hx hb hts iiX2_become_2 hown hK g0 rfl 1 (by decide) (hts (.fieldLink RX2 31 "HopMeet$Scene" "prime" "I") (List.mem_of_getElem? (i := 2) rfl)) rfl dX2_become_10 ?_
  refine r_put (ty := .int) (ci := 2) (C := RX2) (T := TX2) (N := 6) (fs' := [.int (nI (cn z)), .int (nI (prN (cn z))), .int a2, .int a3, .ref (o + 1), .ref (o + 7)]) hx hb hts iiX2_become_2 tyX2 tyX2_ok nmX2 hown hK h0 ⟨by omega, by omega⟩ hS rfl 1 (by decide) (hts (.fieldLink RX2 31 "HopMeet$Scene" "prime" "I") (List.mem_of_getElem? (i := 2) rfl)) rfl (by decide +kernel) rfl rfl (Nat.le_of_ble_eq_true rfl) rfl dX2_become_13 (fun H locs h0 hz9 hq hS => ?_)
  have h1 := at_kept h1 (hq _ (by omega))
  have h4 := at_kept h4 (hq _ (by omega))
  have g0 := at_kept g0 (hq _ (by omega))
  have g1 := at_kept g1 (hq _ (by omega))
  have g4 := at_kept g4 (hq _ (by omega))
  have h2 := fun i hi => at_kept (h2 i hi) (hq _ (by omega))
  have h5 := fun i hi => at_kept (h5 i hi) (hq _ (by omega))
  have hSc := Sc_kept hSc (fun q h8 h9 => hq q (by omega))
  refine lv_aload_n hx hb dX2_become_16 rfl (lv_at hl 0 rfl) ?_
  refine lv_aload_n hx hb dX2_become_17 rfl (lv_at hl 1 rfl) ?_
  refine r_get (C := RX2) (T := TX2) (N := 6) hx hb hts iiX2_become_2 hown hK g0 rfl 2 (by decide) (hts (.fieldLink RX2 34 "HopMeet$Scene" "userCount" "I") (List.mem_of_getElem? (i := 3) rfl)) rfl dX2_become_18 ?_
  refine r_put (ty := .int) (ci := 2) (C := RX2) (T := TX2) (N := 6) (fs' := [.int (nI (cn z)), .int (nI (prN (cn z))), .int (nI (cu z)), .int a3, .ref (o + 1), .ref (o + 7)]) hx hb hts iiX2_become_2 tyX2 tyX2_ok nmX2 hown hK h0 ⟨by omega, by omega⟩ hS rfl 2 (by decide) (hts (.fieldLink RX2 34 "HopMeet$Scene" "userCount" "I") (List.mem_of_getElem? (i := 3) rfl)) rfl (by decide +kernel) rfl rfl (Nat.le_of_ble_eq_true rfl) rfl dX2_become_21 (fun H locs h0 hz9 hq hS => ?_)
  have h1 := at_kept h1 (hq _ (by omega))
  have h4 := at_kept h4 (hq _ (by omega))
  have g0 := at_kept g0 (hq _ (by omega))
  have g1 := at_kept g1 (hq _ (by omega))
  have g4 := at_kept g4 (hq _ (by omega))
  have h2 := fun i hi => at_kept (h2 i hi) (hq _ (by omega))
  have h5 := fun i hi => at_kept (h5 i hi) (hq _ (by omega))
  have hSc := Sc_kept hSc (fun q h8 h9 => hq q (by omega))
  refine lv_aload_n hx hb dX2_become_24 rfl (lv_at hl 0 rfl) ?_
  refine lv_aload_n hx hb dX2_become_25 rfl (lv_at hl 1 rfl) ?_
  refine r_get (C := RX2) (T := TX2) (N := 6) hx hb hts iiX2_become_2 hown hK g0 rfl 3 (by decide) (hts (.fieldLink RX2 37 "HopMeet$Scene" "spellCount" "I") (List.mem_of_getElem? (i := 4) rfl)) rfl dX2_become_26 ?_
  refine r_put (ty := .int) (ci := 2) (C := RX2) (T := TX2) (N := 6) (fs' := [.int (nI (cn z)), .int (nI (prN (cn z))), .int (nI (cu z)), .int (nI (cs z)), .ref (o + 1), .ref (o + 7)]) hx hb hts iiX2_become_2 tyX2 tyX2_ok nmX2 hown hK h0 ⟨by omega, by omega⟩ hS rfl 3 (by decide) (hts (.fieldLink RX2 37 "HopMeet$Scene" "spellCount" "I") (List.mem_of_getElem? (i := 4) rfl)) rfl (by decide +kernel) rfl rfl (Nat.le_of_ble_eq_true rfl) rfl dX2_become_29 (fun H locs h0 hz9 hq hS => ?_)
  have h1 := at_kept h1 (hq _ (by omega))
  have h4 := at_kept h4 (hq _ (by omega))
  have g0 := at_kept g0 (hq _ (by omega))
  have g1 := at_kept g1 (hq _ (by omega))
  have g4 := at_kept g4 (hq _ (by omega))
  have h2 := fun i hi => at_kept (h2 i hi) (hq _ (by omega))
  have h5 := fun i hi => at_kept (h5 i hi) (hq _ (by omega))
  have hSc := Sc_kept hSc (fun q h8 h9 => hq q (by omega))
  refine lv_iconst (v := nI 0) hx hb dX2_become_32 (by decide) ?_
  refine lv_istore_n (lv' := [(2, .int (nI 0)), (0, .ref o), (1, .ref o2)]) hx hb dX2_become_33 rfl hl (by decide) rfl (fun ls hl => ?_)
  have loop34 : ∀ (fu : Nat) (i : Nat) (F : Nat → Nat → Int32) (hi : i ≤ cu z) (hF : ∀ j, j < i → ∀ w, w < 5 → F j w = z (3 + 5 * j + w)) (hfu : cu z - i < fu) (H : Heap) (locs : List Loc) (h0 : at_ G o (.inr (2, [.int (nI (cn z)), .int (nI (prN (cn z))), .int (nI (cu z)), .int (nI (cs z)), .ref (o + 1), .ref (o + 7)])) H) (h1 : at_ G (o + 1) (aR t 5 (rowsF 5 (o + 2))) H) (h4 : at_ G (o + 7) (aR t 8 (rowsF 8 (o + 8))) H) (g0 : at_ G o2 (.inr (2, [.int (nI (cn z)), .int (nI (prN (cn z))), .int (nI (cu z)), .int (nI (cs z)), .ref (o2 + 1), .ref (o2 + 7)])) H) (g1 : at_ G (o2 + 1) (aR t 5 (rowsF 5 (o2 + 2))) H) (g4 : at_ G (o2 + 7) (aR t 8 (rowsF 8 (o2 + 8))) H) (h2 : ∀ i, i < 5 → at_ G (o + 2 + i) (aI t 5 (F i)) H) (h5 : ∀ i, i < 8 → at_ G (o + 8 + i) (aI t 4 (fS i)) H) (hSc : Sc G t o2 z H) (hS : va_S (iv o (o + 16)) s.heap H locs) (ls : Array Slot) (hl : lv_has ls 3 [(0, .ref o), (1, .ref o2), (2, .int (nI i))]), W p l e (headSpec wsX2_become ({ frames := 1, cells := 0, slots := 0, locals := 30 } : Room)).room s m ([.ref o, .ref o2] : List Value).toArray below meth c H locs 0 0 (MQ below (qv_ (fun H => Sc G t o z H) (iv o (o + 16))) ([.ref o, .ref o2] : List Value).toArray s 0 0 (iv o (o + 16))) (F0 m 34 ls []) := by
    intro fu
    induction fu with
    | zero => intro i F hi hF hfu; exact absurd hfu (Nat.not_lt_zero _)
    | succ fu34 ih34 =>
      intro i F hi hF hfu H locs h0 h1 h4 g0 g1 g4 h2 h5 hSc hS ls hl
      refine lv_iload_n hx hb dX2_become_34 rfl (lv_at hl 2 rfl) ?_
      refine lv_aload_n hx hb dX2_become_35 rfl (lv_at hl 0 rfl) ?_
      refine r_get (C := RX2) (T := TX2) (N := 6) hx hb hts iiX2_become_2 hown hK h0 rfl 2 (by decide) (hts (.fieldLink RX2 34 "HopMeet$Scene" "userCount" "I") (List.mem_of_getElem? (i := 3) rfl)) rfl dX2_become_36 ?_
      refine r_geN hx hb (by omega) (by omega) dX2_become_39 (tgt := 66) (by decide) (fun c1 => ?_) (fun c1 => ?_)
      · have hF5 : ∀ j, j < cu z → ∀ w, w < 5 → F j w = z (3 + 5 * j + w) := fun j hj => hF j (by omega)
        refine lv_iconst (v := nI 0) hx hb dX2_become_66 (by decide) ?_
        refine lv_istore_n (lv' := [(2, .int (nI 0)), (0, .ref o), (1, .ref o2)]) hx hb dX2_become_67 rfl hl (by decide) rfl (fun ls hl => ?_)
        have loop68 : ∀ (fu : Nat) (i : Nat) (E : Nat → Nat → Int32) (hi : i ≤ cs z) (hE : ∀ j, j < i → ∀ w, w < 4 → E j w = z (28 + 4 * j + w)) (hfu : cs z - i < fu) (H : Heap) (locs : List Loc) (h0 : at_ G o (.inr (2, [.int (nI (cn z)), .int (nI (prN (cn z))), .int (nI (cu z)), .int (nI (cs z)), .ref (o + 1), .ref (o + 7)])) H) (h1 : at_ G (o + 1) (aR t 5 (rowsF 5 (o + 2))) H) (h4 : at_ G (o + 7) (aR t 8 (rowsF 8 (o + 8))) H) (g0 : at_ G o2 (.inr (2, [.int (nI (cn z)), .int (nI (prN (cn z))), .int (nI (cu z)), .int (nI (cs z)), .ref (o2 + 1), .ref (o2 + 7)])) H) (g1 : at_ G (o2 + 1) (aR t 5 (rowsF 5 (o2 + 2))) H) (g4 : at_ G (o2 + 7) (aR t 8 (rowsF 8 (o2 + 8))) H) (h2 : ∀ i, i < 5 → at_ G (o + 2 + i) (aI t 5 (F i)) H) (h5 : ∀ i, i < 8 → at_ G (o + 8 + i) (aI t 4 (E i)) H) (hSc : Sc G t o2 z H) (hS : va_S (iv o (o + 16)) s.heap H locs) (ls : Array Slot) (hl : lv_has ls 3 [(0, .ref o), (1, .ref o2), (2, .int (nI i))]), W p l e (headSpec wsX2_become ({ frames := 1, cells := 0, slots := 0, locals := 30 } : Room)).room s m ([.ref o, .ref o2] : List Value).toArray below meth c H locs 0 0 (MQ below (qv_ (fun H => Sc G t o z H) (iv o (o + 16))) ([.ref o, .ref o2] : List Value).toArray s 0 0 (iv o (o + 16))) (F0 m 68 ls []) := by
          intro fu
          induction fu with
          | zero => intro i E hi hE hfu; exact absurd hfu (Nat.not_lt_zero _)
          | succ fu68 ih68 =>
            intro i E hi hE hfu H locs h0 h1 h4 g0 g1 g4 h2 h5 hSc hS ls hl
            refine lv_iload_n hx hb dX2_become_68 rfl (lv_at hl 2 rfl) ?_
            refine lv_aload_n hx hb dX2_become_69 rfl (lv_at hl 0 rfl) ?_
            refine r_get (C := RX2) (T := TX2) (N := 6) hx hb hts iiX2_become_2 hown hK h0 rfl 3 (by decide) (hts (.fieldLink RX2 37 "HopMeet$Scene" "spellCount" "I") (List.mem_of_getElem? (i := 4) rfl)) rfl dX2_become_70 ?_
            refine r_geN hx hb (by omega) (by omega) dX2_become_73 (tgt := 100) (by decide) (fun c1 => ?_) (fun c1 => ?_)
            · exact r_retV hx hb hr hlocks hS (Sc_mk rfl rfl rfl h0 h1 h2 h4 h5 hF5 (fun j hj => hE j (by omega))) dX2_become_100
            · obtain ⟨fv, hv, hv2⟩ := Sc_rowS hSc c1 (by omega)
              refine lv_aload_n hx hb dX2_become_76 rfl (lv_at hl 1 rfl) ?_
              refine r_get (C := RX2) (T := TX2) (N := 6) hx hb hts iiX2_become_2 hown hK g0 rfl 5 (by decide) (hts (.fieldLink RX2 16 "HopMeet$Scene" "spells" "[[I") (List.mem_of_getElem? (i := 10) rfl)) rfl dX2_become_77 ?_
              refine lv_iload_n hx hb dX2_become_80 rfl (lv_at hl 2 rfl) ?_
              refine r_rald hx hb hK g4 1 rfl rfl i (by omega) (by decide) (b := o2 + 8 + i) (rowsF_at (by omega)) dX2_become_81 ?_
              refine lv_iconst (v := nI 0) hx hb dX2_become_82 (by decide) ?_
              refine lv_aload_n hx hb dX2_become_83 rfl (lv_at hl 0 rfl) ?_
              refine r_get (C := RX2) (T := TX2) (N := 6) hx hb hts iiX2_become_2 hown hK h0 rfl 5 (by decide) (hts (.fieldLink RX2 16 "HopMeet$Scene" "spells" "[[I") (List.mem_of_getElem? (i := 10) rfl)) rfl dX2_become_84 ?_
              refine lv_iload_n hx hb dX2_become_87 rfl (lv_at hl 2 rfl) ?_
              refine r_rald hx hb hK h4 1 rfl rfl i (by omega) (by decide) (b := o + 8 + i) (rowsF_at (by omega)) dX2_become_88 ?_
              refine lv_iconst (v := nI 0) hx hb dX2_become_89 (by decide) ?_
              refine lv_iconst (v := nI 4) hx hb dX2_become_90 (by decide) ?_
              refine r_copyi hx hb (by rw [hml]; exact hl.1.symm) hown (hts (.methodLink RX2 40 arraycopyName) (List.mem_of_getElem? (i := 6) rfl)) (hts (.native arraycopyName) (List.mem_of_getElem? (i := 7) rfl)) (hts (.static arraycopyName) (List.mem_of_getElem? (i := 8) rfl)) (hts (.initialized "java/lang/System") (List.mem_of_getElem? (i := 9) rfl)) hK hv (h5 i (by omega)) ⟨by omega, by omega⟩ hS rfl 4 (by decide) (by decide) (by decide) (Nat.le_of_ble_eq_true rfl) (by decide +kernel) dX2_become_91 (fun H locs hrw hz9 hq hS => ?_)
              have h5 := rows_put hrw (fun j hj hne => at_kept (h5 j hj) (hq _ (by omega)))
              have h0 := at_kept h0 (hq _ (by omega))
              have h1 := at_kept h1 (hq _ (by omega))
              have h4 := at_kept h4 (hq _ (by omega))
              have g0 := at_kept g0 (hq _ (by omega))
              have g1 := at_kept g1 (hq _ (by omega))
              have g4 := at_kept g4 (hq _ (by omega))
              have h2 := fun i hi => at_kept (h2 i hi) (hq _ (by omega))
              have hSc := Sc_kept hSc (fun q h8 h9 => hq q (by omega))
              refine lv_iinc (v := nI (i + 1)) (lv' := [(2, .int (nI (i + 1))), (0, .ref o), (1, .ref o2)]) hx hb dX2_become_94 hl (k := 2) rfl (nI_1 _) (by decide) rfl (fun ls hl => ?_)
              refine lv_goto (tgt := 68) hx hb dX2_become_97 (by decide) ?_
              exact ih68 (i + 1) (va_up E i (fun j => if j < 4 then fv j else E i j)) (by omega) (cp_ext hE hv2) (by omega) _ _ h0 h1 h4 g0 g1 g4 h2 h5 hSc hS ls (lv_sub hl [1, 2, 0] rfl)
        exact loop68 _ 0 fS (Nat.zero_le _) (fun j h => absurd h (Nat.not_lt_zero _)) (Nat.lt_succ_self _) _ _ h0 h1 h4 g0 g1 g4 h2 h5 hSc hS ls (lv_sub hl [1, 2, 0] rfl)
      · obtain ⟨fv, hv, hv2⟩ := Sc_rowU hSc c1 (by omega)
        refine lv_aload_n hx hb dX2_become_42 rfl (lv_at hl 1 rfl) ?_
        refine r_get (C := RX2) (T := TX2) (N := 6) hx hb hts iiX2_become_2 hown hK g0 rfl 4 (by decide) (hts (.fieldLink RX2 11 "HopMeet$Scene" "users" "[[I") (List.mem_of_getElem? (i := 5) rfl)) rfl dX2_become_43 ?_
        refine lv_iload_n hx hb dX2_become_46 rfl (lv_at hl 2 rfl) ?_
        refine r_rald hx hb hK g1 1 rfl rfl i (by omega) (by decide) (b := o2 + 2 + i) (rowsF_at (by omega)) dX2_become_47 ?_
        refine lv_iconst (v := nI 0) hx hb dX2_become_48 (by decide) ?_
        refine lv_aload_n hx hb dX2_become_49 rfl (lv_at hl 0 rfl) ?_
        refine r_get (C := RX2) (T := TX2) (N := 6) hx hb hts iiX2_become_2 hown hK h0 rfl 4 (by decide) (hts (.fieldLink RX2 11 "HopMeet$Scene" "users" "[[I") (List.mem_of_getElem? (i := 5) rfl)) rfl dX2_become_50 ?_
        refine lv_iload_n hx hb dX2_become_53 rfl (lv_at hl 2 rfl) ?_
        refine r_rald hx hb hK h1 1 rfl rfl i (by omega) (by decide) (b := o + 2 + i) (rowsF_at (by omega)) dX2_become_54 ?_
        refine lv_iconst (v := nI 0) hx hb dX2_become_55 (by decide) ?_
        refine lv_iconst (v := nI 5) hx hb dX2_become_56 (by decide) ?_
        refine r_copyi hx hb (by rw [hml]; exact hl.1.symm) hown (hts (.methodLink RX2 40 arraycopyName) (List.mem_of_getElem? (i := 6) rfl)) (hts (.native arraycopyName) (List.mem_of_getElem? (i := 7) rfl)) (hts (.static arraycopyName) (List.mem_of_getElem? (i := 8) rfl)) (hts (.initialized "java/lang/System") (List.mem_of_getElem? (i := 9) rfl)) hK hv (h2 i (by omega)) ⟨by omega, by omega⟩ hS rfl 5 (by decide) (by decide) (by decide) (Nat.le_of_ble_eq_true rfl) (by decide +kernel) dX2_become_57 (fun H locs hrw hz9 hq hS => ?_)
        have h2 := rows_put hrw (fun j hj hne => at_kept (h2 j hj) (hq _ (by omega)))
        have h0 := at_kept h0 (hq _ (by omega))
        have h1 := at_kept h1 (hq _ (by omega))
        have h4 := at_kept h4 (hq _ (by omega))
        have g0 := at_kept g0 (hq _ (by omega))
        have g1 := at_kept g1 (hq _ (by omega))
        have g4 := at_kept g4 (hq _ (by omega))
        have h5 := fun i hi => at_kept (h5 i hi) (hq _ (by omega))
        have hSc := Sc_kept hSc (fun q h8 h9 => hq q (by omega))
        refine lv_iinc (v := nI (i + 1)) (lv' := [(2, .int (nI (i + 1))), (0, .ref o), (1, .ref o2)]) hx hb dX2_become_60 hl (k := 2) rfl (nI_1 _) (by decide) rfl (fun ls hl => ?_)
        refine lv_goto (tgt := 34) hx hb dX2_become_63 (by decide) ?_
        exact ih34 (i + 1) (va_up F i (fun j => if j < 5 then fv j else F i j)) (by omega) (cp_ext hF hv2) (by omega) _ _ h0 h1 h4 g0 g1 g4 h2 h5 hSc hS ls (lv_sub hl [1, 2, 0] rfl)
  exact loop34 _ 0 fU (Nat.zero_le _) (fun j h => absurd h (Nat.not_lt_zero _)) (Nat.lt_succ_self _) _ _ h0 h1 h4 g0 g1 g4 h2 h5 hSc hS ls (lv_sub hl [1, 2, 0] rfl)

set_option maxRecDepth 20000 in
theorem iiX2_addUser_2 : ∀ w ∈ wsX20, w ∈ wsX2_addUser := by decide +kernel
set_option maxHeartbeats 4000000 in
set_option maxRecDepth 100000 in
/-- a user more -/
theorem c_X2_addUser (l : Launch) (G : va_G) (t : gT) (o : Nat) (z : Nat → Int32) (hz : WF z) (hlt : cu z < 5) (r x y w : Int32) : Met l yX2_addUser wsX2_addUser ({ frames := 1, cells := 0, slots := 0, locals := 20 } : Room) (pc_ [.ref o, .int r, .int x, .int y, .int w] (fun U H => KK G t U ∧ Sc G t o z H)) (qv_ (fun H => Sc G t o (zUser z r x y w) H) (iv o (o + 16))) 0 0 (iv o (o + 16)) := by
  refine Met.ofW (cc := cX2_addUser) (maxL := 6) (ret := none) (by decide) rfl ?_
  intro p e s m args below meth c s₁ B hml hv
  obtain ⟨rfl, hB⟩ := hv
  have hx := B.exec
  have hb := B.bytes
  have hr := B.returns
  have hts := atoms_spec (ws := wsX2_addUser) B.pre
  have hown : s.vm.findClass RX2 = some m.cls := findClass_of_methodNamed B.named
  have hlocks := B.notSynchronized
  have hK := hB.1
  obtain ⟨fU, fS, h0, h1, h2, h4, h5, h6, h7⟩ := hB.2
  have hn := hz.n
  have hu5 := hz.u5
  have hs8 := hz.s8
  have hrw := h2 (cu z) hlt
  have h2 : ∀ i, i < 5 → i ≠ cu z → at_ G (o + 2 + i) (aI t 5 (fU i)) s.heap := fun i hi _ => h2 i hi
  have hS : va_S (iv o (o + 16)) s.heap s.heap [] := va_S.rf
  have hl := lv_entry ([.ref o, .int r, .int x, .int y, .int w]) (n := 6) (Nat.le_of_ble_eq_true rfl)
  rw [lg_entry_eq]
  generalize (lg_sl ([.ref o, .int r, .int x, .int y, .int w]) ++ List.replicate (6 - (lg_sl ([.ref o, .int r, .int x, .int y, .int w])).length) Slot.unset).toArray = ls at hl ⊢
  have hl : lv_has ls 6 [(0, .ref o), (1, .int r), (2, .int x), (3, .int y), (4, .int w)] := hl
  refine lv_aload_n hx hb dX2_addUser_0 rfl (lv_at hl 0 rfl) ?_
  refine r_get (C := RX2) (T := TX2) (N := 6) hx hb hts iiX2_addUser_2 hown hK h0 rfl 4 (by decide) (hts (.fieldLink RX2 11 "HopMeet$Scene" "users" "[[I") (List.mem_of_getElem? (i := 1) rfl)) rfl dX2_addUser_1 ?_
  refine lv_aload_n hx hb dX2_addUser_4 rfl (lv_at hl 0 rfl) ?_
  refine r_get (C := RX2) (T := TX2) (N := 6) hx hb hts iiX2_addUser_2 hown hK h0 rfl 2 (by decide) (hts (.fieldLink RX2 34 "HopMeet$Scene" "userCount" "I") (List.mem_of_getElem? (i := 2) rfl)) rfl dX2_addUser_5 ?_
  refine r_rald hx hb hK h1 1 rfl rfl (cu z) (by omega) (by decide) (b := o + 2 + (cu z)) (rowsF_at (by omega)) dX2_addUser_8 ?_
  refine lv_astore (lv' := [(5, .ref (o + 2 + (cu z))), (0, .ref o), (1, .int r), (2, .int x), (3, .int y), (4, .int w)]) hx hb dX2_addUser_9 hl (by decide) rfl (fun ls hl => ?_)
  refine lv_aload hx hb dX2_addUser_11 (lv_at hl 0 rfl) ?_
  refine lv_iconst (v := nI 0) hx hb dX2_addUser_13 (by decide) ?_
  refine lv_iload_n hx hb dX2_addUser_14 rfl (lv_at hl 2 rfl) ?_
  refine r_iast hx hb hK hrw ⟨by omega, by omega⟩ hS rfl 0 (by omega) (by decide) dX2_addUser_15 (fun H locs hrw hz9 hq hS => ?_)
  have h0 := at_kept h0 (hq _ (by omega))
  have h1 := at_kept h1 (hq _ (by omega))
  have h4 := at_kept h4 (hq _ (by omega))
  have h2 := fun i hi hne => at_kept (h2 i hi hne) (hq _ (by omega))
  have h5 := fun i hi => at_kept (h5 i hi) (hq _ (by omega))
  refine lv_aload hx hb dX2_addUser_16 (lv_at hl 0 rfl) ?_
  refine lv_iconst (v := nI 1) hx hb dX2_addUser_18 (by decide) ?_
  refine lv_iload_n hx hb dX2_addUser_19 rfl (lv_at hl 3 rfl) ?_
  refine r_iast hx hb hK hrw ⟨by omega, by omega⟩ hS rfl 1 (by omega) (by decide) dX2_addUser_20 (fun H locs hrw hz9 hq hS => ?_)
  have h0 := at_kept h0 (hq _ (by omega))
  have h1 := at_kept h1 (hq _ (by omega))
  have h4 := at_kept h4 (hq _ (by omega))
  have h2 := fun i hi hne => at_kept (h2 i hi hne) (hq _ (by omega))
  have h5 := fun i hi => at_kept (h5 i hi) (hq _ (by omega))
  refine lv_aload hx hb dX2_addUser_21 (lv_at hl 0 rfl) ?_
  refine lv_iconst (v := nI 2) hx hb dX2_addUser_23 (by decide) ?_
  refine lv_iload_n hx hb dX2_addUser_24 rfl (lv_at hl 4 rfl) ?_
  refine r_iast hx hb hK hrw ⟨by omega, by omega⟩ hS rfl 2 (by omega) (by decide) dX2_addUser_25 (fun H locs hrw hz9 hq hS => ?_)
  have h0 := at_kept h0 (hq _ (by omega))
  have h1 := at_kept h1 (hq _ (by omega))
  have h4 := at_kept h4 (hq _ (by omega))
  have h2 := fun i hi hne => at_kept (h2 i hi hne) (hq _ (by omega))
  have h5 := fun i hi => at_kept (h5 i hi) (hq _ (by omega))
  refine lv_aload hx hb dX2_addUser_26 (lv_at hl 0 rfl) ?_
  refine lv_iconst (v := nI 3) hx hb dX2_addUser_28 (by decide) ?_
  refine lv_iload hx hb dX2_addUser_29 (lv_at hl 5 rfl) ?_
  refine r_iast hx hb hK hrw ⟨by omega, by omega⟩ hS rfl 3 (by omega) (by decide) dX2_addUser_31 (fun H locs hrw hz9 hq hS => ?_)
  have h0 := at_kept h0 (hq _ (by omega))
  have h1 := at_kept h1 (hq _ (by omega))
  have h4 := at_kept h4 (hq _ (by omega))
  have h2 := fun i hi hne => at_kept (h2 i hi hne) (hq _ (by omega))
  have h5 := fun i hi => at_kept (h5 i hi) (hq _ (by omega))
  refine lv_aload hx hb dX2_addUser_32 (lv_at hl 0 rfl) ?_
  refine lv_iconst (v := nI 4) hx hb dX2_addUser_34 (by decide) ?_
  refine lv_aload_n hx hb dX2_addUser_35 rfl (lv_at hl 1 rfl) ?_
  refine r_cV (av := []) (c_X2_allChannels l G t o z hz) ⟨hx, hb, hml, hown, hts⟩ (cwV 0 hts gX2_addUser_X2_allChannels rfl rfl rfl (by decide +kernel) ⟨Nat.le_of_ble_eq_true rfl, Nat.le_of_ble_eq_true rfl⟩) mv_K ⟨hK, (Sc_mk rfl rfl rfl h0 h1 (rows_put hrw h2) h4 h5 (fun i hi v hv => by rw [va_up_ne _ _ (by omega)]; exact h6 i hi v hv) h7)⟩ (at_recv hK h0 rfl) rfl hl (Nat.le_of_ble_eq_true rfl) ⟨Nat.le_of_ble_eq_true rfl, Nat.le_of_ble_eq_true rfl⟩ rfl dX2_addUser_36 (fun r1 hr1 => ?_)
  subst hr1
  refine r_iast hx hb hK hrw ⟨by omega, by omega⟩ hS rfl 4 (by omega) (by decide) dX2_addUser_39 (fun H locs hrw hz9 hq hS => ?_)
  have h0 := at_kept h0 (hq _ (by omega))
  have h1 := at_kept h1 (hq _ (by omega))
  have h4 := at_kept h4 (hq _ (by omega))
  have h2 := fun i hi hne => at_kept (h2 i hi hne) (hq _ (by omega))
  have h5 := fun i hi => at_kept (h5 i hi) (hq _ (by omega))
  refine lv_aload_n hx hb dX2_addUser_40 rfl (lv_at hl 1 rfl) ?_
  refine lv_dup hx hb dX2_addUser_41 rfl ?_
  refine r_get (C := RX2) (T := TX2) (N := 6) hx hb hts iiX2_addUser_2 hown hK h0 rfl 2 (by decide) (hts (.fieldLink RX2 34 "HopMeet$Scene" "userCount" "I") (List.mem_of_getElem? (i := 2) rfl)) rfl dX2_addUser_42 ?_
  refine lv_iconst (v := nI 1) hx hb dX2_addUser_45 (by decide) ?_
  refine r_iaddN hx hb dX2_addUser_46 ?_
  refine r_put (ty := .int) (ci := 2) (C := RX2) (T := TX2) (N := 6) (fs' := [.int (nI (cn z)), .int (nI (prN (cn z))), .int (nI ((cu z) + 1)), .int (nI (cs z)), .ref (o + 1), .ref (o + 7)]) hx hb hts iiX2_addUser_2 tyX2 tyX2_ok nmX2 hown hK h0 ⟨by omega, by omega⟩ hS rfl 2 (by decide) (hts (.fieldLink RX2 34 "HopMeet$Scene" "userCount" "I") (List.mem_of_getElem? (i := 2) rfl)) rfl (by decide +kernel) rfl rfl (Nat.le_of_ble_eq_true rfl) rfl dX2_addUser_47 (fun H locs h0 hz9 hq hS => ?_)
  have h1 := at_kept h1 (hq _ (by omega))
  have h4 := at_kept h4 (hq _ (by omega))
  have hrw := at_kept hrw (hq _ (by omega))
  have h2 := fun i hi hne => at_kept (h2 i hi hne) (hq _ (by omega))
  have h5 := fun i hi => at_kept (h5 i hi) (hq _ (by omega))
  exact r_retV hx hb hr hlocks hS (Sc_mk zUser_n (zUser_u hlt) zUser_s h0 h1 (rows_put hrw h2) h4 h5 (us_ext h6) (fun i hi v hv => by rw [zUser_old (by omega) (by omega)]; exact h7 i hi v hv)) dX2_addUser_50

set_option maxRecDepth 20000 in
theorem iiX2_addSpell_2 : ∀ w ∈ wsX20, w ∈ wsX2_addSpell := by decide +kernel
set_option maxHeartbeats 4000000 in
set_option maxRecDepth 100000 in
/-- a spell more -/
theorem c_X2_addSpell (l : Launch) (G : va_G) (t : gT) (o : Nat) (z : Nat → Int32) (hz : WF z) (hlt : cs z < 8) (u ch x y : Int32) : Met l yX2_addSpell wsX2_addSpell ({ frames := 0, cells := 0, slots := 0, locals := 0 } : Room) (pc_ [.ref o, .int u, .int ch, .int x, .int y] (fun U H => KK G t U ∧ Sc G t o z H)) (qv_ (fun H => Sc G t o (zSpell z u ch x y) H) (iv o (o + 16))) 0 0 (iv o (o + 16)) := by
  refine Met.ofW (cc := cX2_addSpell) (maxL := 6) (ret := none) (by decide) rfl ?_
  intro p e s m args below meth c s₁ B hml hv
  obtain ⟨rfl, hB⟩ := hv
  have hx := B.exec
  have hb := B.bytes
  have hr := B.returns
  have hts := atoms_spec (ws := wsX2_addSpell) B.pre
  have hown : s.vm.findClass RX2 = some m.cls := findClass_of_methodNamed B.named
  have hlocks := B.notSynchronized
  have hK := hB.1
  obtain ⟨fU, fS, h0, h1, h2, h4, h5, h6, h7⟩ := hB.2
  have hn := hz.n
  have hu5 := hz.u5
  have hs8 := hz.s8
  have hg := h5 (cs z) hlt
  have h5 : ∀ i, i < 8 → i ≠ cs z → at_ G (o + 8 + i) (aI t 4 (fS i)) s.heap := fun i hi _ => h5 i hi
  have hS : va_S (iv o (o + 16)) s.heap s.heap [] := va_S.rf
  have hl := lv_entry ([.ref o, .int u, .int ch, .int x, .int y]) (n := 6) (Nat.le_of_ble_eq_true rfl)
  rw [lg_entry_eq]
  generalize (lg_sl ([.ref o, .int u, .int ch, .int x, .int y]) ++ List.replicate (6 - (lg_sl ([.ref o, .int u, .int ch, .int x, .int y])).length) Slot.unset).toArray = ls at hl ⊢
  have hl : lv_has ls 6 [(0, .ref o), (1, .int u), (2, .int ch), (3, .int x), (4, .int y)] := hl
  refine lv_aload_n hx hb dX2_addSpell_0 rfl (lv_at hl 0 rfl) ?_
  refine r_get (C := RX2) (T := TX2) (N := 6) hx hb hts iiX2_addSpell_2 hown hK h0 rfl 5 (by decide) (hts (.fieldLink RX2 16 "HopMeet$Scene" "spells" "[[I") (List.mem_of_getElem? (i := 1) rfl)) rfl dX2_addSpell_1 ?_
  refine lv_aload_n hx hb dX2_addSpell_4 rfl (lv_at hl 0 rfl) ?_
  refine r_get (C := RX2) (T := TX2) (N := 6) hx hb hts iiX2_addSpell_2 hown hK h0 rfl 3 (by decide) (hts (.fieldLink RX2 37 "HopMeet$Scene" "spellCount" "I") (List.mem_of_getElem? (i := 2) rfl)) rfl dX2_addSpell_5 ?_
  refine r_rald hx hb hK h4 1 rfl rfl (cs z) (by omega) (by decide) (b := o + 8 + (cs z)) (rowsF_at (by omega)) dX2_addSpell_8 ?_
  refine lv_astore (lv' := [(5, .ref (o + 8 + (cs z))), (0, .ref o), (1, .int u), (2, .int ch), (3, .int x), (4, .int y)]) hx hb dX2_addSpell_9 hl (by decide) rfl (fun ls hl => ?_)
  refine lv_aload hx hb dX2_addSpell_11 (lv_at hl 0 rfl) ?_
  refine lv_iconst (v := nI 0) hx hb dX2_addSpell_13 (by decide) ?_
  refine lv_iload_n hx hb dX2_addSpell_14 rfl (lv_at hl 2 rfl) ?_
  refine r_iast hx hb hK hg ⟨by omega, by omega⟩ hS rfl 0 (by omega) (by decide) dX2_addSpell_15 (fun H locs hg hz9 hq hS => ?_)
  have h0 := at_kept h0 (hq _ (by omega))
  have h1 := at_kept h1 (hq _ (by omega))
  have h4 := at_kept h4 (hq _ (by omega))
  have h2 := fun i hi => at_kept (h2 i hi) (hq _ (by omega))
  have h5 := fun i hi hne => at_kept (h5 i hi hne) (hq _ (by omega))
  refine lv_aload hx hb dX2_addSpell_16 (lv_at hl 0 rfl) ?_
  refine lv_iconst (v := nI 1) hx hb dX2_addSpell_18 (by decide) ?_
  refine lv_iload_n hx hb dX2_addSpell_19 rfl (lv_at hl 3 rfl) ?_
  refine r_iast hx hb hK hg ⟨by omega, by omega⟩ hS rfl 1 (by omega) (by decide) dX2_addSpell_20 (fun H locs hg hz9 hq hS => ?_)
  have h0 := at_kept h0 (hq _ (by omega))
  have h1 := at_kept h1 (hq _ (by omega))
  have h4 := at_kept h4 (hq _ (by omega))
  have h2 := fun i hi => at_kept (h2 i hi) (hq _ (by omega))
  have h5 := fun i hi hne => at_kept (h5 i hi hne) (hq _ (by omega))
  refine lv_aload hx hb dX2_addSpell_21 (lv_at hl 0 rfl) ?_
  refine lv_iconst (v := nI 2) hx hb dX2_addSpell_23 (by decide) ?_
  refine lv_iload_n hx hb dX2_addSpell_24 rfl (lv_at hl 4 rfl) ?_
  refine r_iast hx hb hK hg ⟨by omega, by omega⟩ hS rfl 2 (by omega) (by decide) dX2_addSpell_25 (fun H locs hg hz9 hq hS => ?_)
  have h0 := at_kept h0 (hq _ (by omega))
  have h1 := at_kept h1 (hq _ (by omega))
  have h4 := at_kept h4 (hq _ (by omega))
  have h2 := fun i hi => at_kept (h2 i hi) (hq _ (by omega))
  have h5 := fun i hi hne => at_kept (h5 i hi hne) (hq _ (by omega))
  refine lv_aload hx hb dX2_addSpell_26 (lv_at hl 0 rfl) ?_
  refine lv_iconst (v := nI 3) hx hb dX2_addSpell_28 (by decide) ?_
  refine lv_iload hx hb dX2_addSpell_29 (lv_at hl 5 rfl) ?_
  refine r_iast hx hb hK hg ⟨by omega, by omega⟩ hS rfl 3 (by omega) (by decide) dX2_addSpell_31 (fun H locs hg hz9 hq hS => ?_)
  have h0 := at_kept h0 (hq _ (by omega))
  have h1 := at_kept h1 (hq _ (by omega))
  have h4 := at_kept h4 (hq _ (by omega))
  have h2 := fun i hi => at_kept (h2 i hi) (hq _ (by omega))
  have h5 := fun i hi hne => at_kept (h5 i hi hne) (hq _ (by omega))
  refine lv_aload_n hx hb dX2_addSpell_32 rfl (lv_at hl 1 rfl) ?_
  refine lv_dup hx hb dX2_addSpell_33 rfl ?_
  refine r_get (C := RX2) (T := TX2) (N := 6) hx hb hts iiX2_addSpell_2 hown hK h0 rfl 3 (by decide) (hts (.fieldLink RX2 37 "HopMeet$Scene" "spellCount" "I") (List.mem_of_getElem? (i := 2) rfl)) rfl dX2_addSpell_34 ?_
  refine lv_iconst (v := nI 1) hx hb dX2_addSpell_37 (by decide) ?_
  refine r_iaddN hx hb dX2_addSpell_38 ?_
  refine r_put (ty := .int) (ci := 2) (C := RX2) (T := TX2) (N := 6) (fs' := [.int (nI (cn z)), .int (nI (prN (cn z))), .int (nI (cu z)), .int (nI ((cs z) + 1)), .ref (o + 1), .ref (o + 7)]) hx hb hts iiX2_addSpell_2 tyX2 tyX2_ok nmX2 hown hK h0 ⟨by omega, by omega⟩ hS rfl 3 (by decide) (hts (.fieldLink RX2 37 "HopMeet$Scene" "spellCount" "I") (List.mem_of_getElem? (i := 2) rfl)) rfl (by decide +kernel) rfl rfl (Nat.le_of_ble_eq_true rfl) rfl dX2_addSpell_39 (fun H locs h0 hz9 hq hS => ?_)
  have h1 := at_kept h1 (hq _ (by omega))
  have h4 := at_kept h4 (hq _ (by omega))
  have hg := at_kept hg (hq _ (by omega))
  have h2 := fun i hi => at_kept (h2 i hi) (hq _ (by omega))
  have h5 := fun i hi hne => at_kept (h5 i hi hne) (hq _ (by omega))
  exact r_retV hx hb hr hlocks hS (Sc_mk zSpell_n zSpell_u (zSpell_s hlt) h0 h1 h2 h4 (rows_put hg h5) (fun i hi v hv => by rw [zSpell_old (by omega) (by omega)]; exact h6 i hi v hv) (ss_ext h7)) dX2_addSpell_42

set_option maxRecDepth 20000 in
theorem iiX2_drawLots_2 : ∀ w ∈ wsX20, w ∈ wsX2_drawLots := by decide +kernel
set_option maxHeartbeats 4000000 in
set_option maxRecDepth 100000 in
/-- users by lots -/
theorem c_X2_drawLots (l : Launch) (G : va_G) (t : gT) (o : Nat) (z : Nat → Int32) (hz : WF z) (x : Nat) (hx0 : x < 2147483647) : Met l yX2_drawLots wsX2_drawLots ({ frames := 1, cells := 0, slots := 0, locals := 21 } : Room) (pc_ [.ref o, .int (nI x)] (fun U H => KK G t U ∧ Sc G t o z H)) (qv_ (fun H => Sc G t o (zDrift z x (cu z)) H) (iv o (o + 16))) 0 0 (iv o (o + 16)) := by
  refine Met.ofW (cc := cX2_drawLots) (maxL := 7) (ret := none) (by decide) rfl ?_
  intro p e s m args below meth c s₁ B hml hv
  obtain ⟨rfl, hB⟩ := hv
  have hx := B.exec
  have hb := B.bytes
  have hr := B.returns
  have hts := atoms_spec (ws := wsX2_drawLots) B.pre
  have hown : s.vm.findClass RX2 = some m.cls := findClass_of_methodNamed B.named
  have hlocks := B.notSynchronized
  have hK := hB.1
  obtain ⟨fU, fS, h0, h1, h2, h4, h5, h6, h7⟩ := hB.2
  have hn := hz.n
  have hu5 := hz.u5
  have hs8 := hz.s8
  have hpw := pow_le10 hn.2
  have hS : va_S (iv o (o + 16)) s.heap s.heap [] := va_S.rf
  have hl := lv_entry ([.ref o, .int (nI x)]) (n := 7) (Nat.le_of_ble_eq_true rfl)
  rw [lg_entry_eq]
  generalize (lg_sl ([.ref o, .int (nI x)]) ++ List.replicate (7 - (lg_sl ([.ref o, .int (nI x)])).length) Slot.unset).toArray = ls at hl ⊢
  have hl : lv_has ls 7 [(0, .ref o), (1, .int (nI x))] := hl
  refine lv_iload_n hx hb dX2_drawLots_0 rfl (lv_at hl 1 rfl) ?_
  refine lv_i2l (v := lN x) hx hb dX2_drawLots_1 (nI_l (by omega)) ?_
  refine lv_lstore_n (lv' := [(2, .long (lN x)), (0, .ref o), (1, .int (nI x))]) hx hb dX2_drawLots_2 rfl hl (by decide) rfl (fun ls hl => ?_)
  refine lv_aload_n hx hb dX2_drawLots_3 rfl (lv_at hl 1 rfl) ?_
  refine r_cV (av := []) (c_X2_allChannels l G t o z hz) ⟨hx, hb, hml, hown, hts⟩ (cwV 0 hts gX2_drawLots_X2_allChannels rfl rfl rfl (by decide +kernel) ⟨Nat.le_of_ble_eq_true rfl, Nat.le_of_ble_eq_true rfl⟩) mv_K hB (at_recv hK h0 rfl) rfl hl (Nat.le_of_ble_eq_true rfl) ⟨Nat.le_of_ble_eq_true rfl, Nat.le_of_ble_eq_true rfl⟩ rfl dX2_drawLots_4 (fun r1 hr1 => ?_)
  subst hr1
  refine lv_iconst (v := nI 1) hx hb dX2_drawLots_7 (by decide) ?_
  refine r_iaddN hx hb dX2_drawLots_8 ?_
  refine r_top (y := nI (2 ^ cn z)) (congrArg nI (Nat.sub_add_cancel (Nat.two_pow_pos _))) ?_
  refine lv_istore (lv' := [(4, .int (nI (2 ^ cn z))), (2, .long (lN x)), (0, .ref o), (1, .int (nI x))]) hx hb dX2_drawLots_9 hl (by decide) rfl (fun ls hl => ?_)
  refine lv_iconst (v := nI 0) hx hb dX2_drawLots_11 (by decide) ?_
  refine lv_istore (lv' := [(5, .int (nI 0)), (4, .int (nI (2 ^ cn z))), (2, .long (lN x)), (0, .ref o), (1, .int (nI x))]) hx hb dX2_drawLots_12 hl (by decide) rfl (fun ls hl => ?_)
  have loop14 : ∀ (fu : Nat) (j : Nat) (F : Nat → Nat → Int32) (hj : j ≤ cu z) (hF : ∀ i, i < cu z → ∀ w, w < 5 → F i w = zDrift z x j (3 + 5 * i + w)) (hfu : cu z - j < fu) (H : Heap) (locs : List Loc) (h0 : at_ G o (.inr (2, [.int (nI (cn z)), .int (nI (prN (cn z))), .int (nI (cu z)), .int (nI (cs z)), .ref (o + 1), .ref (o + 7)])) H) (h1 : at_ G (o + 1) (aR t 5 (rowsF 5 (o + 2))) H) (h4 : at_ G (o + 7) (aR t 8 (rowsF 8 (o + 8))) H) (h2 : ∀ i, i < 5 → at_ G (o + 2 + i) (aI t 5 (F i)) H) (h5 : ∀ i, i < 8 → at_ G (o + 8 + i) (aI t 4 (fS i)) H) (hS : va_S (iv o (o + 16)) s.heap H locs) (ls : Array Slot) (hl : lv_has ls 7 [(0, .ref o), (2, .long (lN (drX x j))), (4, .int (nI (2 ^ cn z))), (5, .int (nI j))]), W p l e (headSpec wsX2_drawLots ({ frames := 1, cells := 0, slots := 0, locals := 21 } : Room)).room s m ([.ref o, .int (nI x)] : List Value).toArray below meth c H locs 0 0 (MQ below (qv_ (fun H => Sc G t o (zDrift z x (cu z)) H) (iv o (o + 16))) ([.ref o, .int (nI x)] : List Value).toArray s 0 0 (iv o (o + 16))) (F0 m 14 ls []) := by
    intro fu
    induction fu with
    | zero => intro j F hj hF hfu; exact absurd hfu (Nat.not_lt_zero _)
    | succ fu14 ih14 =>
      intro j F hj hF hfu H locs h0 h1 h4 h2 h5 hS ls hl
      refine lv_iload hx hb dX2_drawLots_14 (lv_at hl 3 rfl) ?_
      refine lv_aload_n hx hb dX2_drawLots_16 rfl (lv_at hl 0 rfl) ?_
      refine r_get (C := RX2) (T := TX2) (N := 6) hx hb hts iiX2_drawLots_2 hown hK h0 rfl 2 (by decide) (hts (.fieldLink RX2 34 "HopMeet$Scene" "userCount" "I") (List.mem_of_getElem? (i := 1) rfl)) rfl dX2_drawLots_17 ?_
      refine r_geN hx hb (by omega) (by omega) dX2_drawLots_20 (tgt := 102) (by decide) (fun c1 => ?_) (fun c1 => ?_)
      · exact r_retV hx hb hr hlocks hS (Sc_mk (zDrift_n z x _) (zDrift_u z x _) (zDrift_s z x _) h0 h1 h2 h4 h5 (fun i hi w hw => by rw [show cu z = j by omega] at hi ⊢; exact hF i (by omega) w hw) (fun i hi w hw => by rw [zDrift_hi _ (by omega)]; exact h7 i hi w hw)) dX2_drawLots_102
      · have hrw := h2 j (by omega)
        have h2 : ∀ i, i < 5 → i ≠ j → at_ G (o + 2 + i) (aI t 5 (F i)) H := fun i hi _ => h2 i hi
        have hx1 := drX_lt hx0 j
        refine lv_aload_n hx hb dX2_drawLots_23 rfl (lv_at hl 0 rfl) ?_
        refine r_get (C := RX2) (T := TX2) (N := 6) hx hb hts iiX2_drawLots_2 hown hK h0 rfl 4 (by decide) (hts (.fieldLink RX2 11 "HopMeet$Scene" "users" "[[I") (List.mem_of_getElem? (i := 2) rfl)) rfl dX2_drawLots_24 ?_
        refine lv_iload hx hb dX2_drawLots_27 (lv_at hl 3 rfl) ?_
        refine r_rald hx hb hK h1 1 rfl rfl j (by omega) (by decide) (b := o + 2 + j) (rowsF_at (by omega)) dX2_drawLots_29 ?_
        refine lv_astore (lv' := [(6, .ref (o + 2 + j)), (0, .ref o), (2, .long (lN (drX x j))), (4, .int (nI (2 ^ cn z))), (5, .int (nI j))]) hx hb dX2_drawLots_30 hl (by decide) rfl (fun ls hl => ?_)
        refine lv_lload_n hx hb dX2_drawLots_32 rfl (lv_at hl 2 rfl) ?_
        refine r_cSl (av := [.long (lN (drX x j))]) (c_X2_nextLot l G t (drX x j) hx1) ⟨hx, hb, hml, hown, hts⟩ (va_cwS 1 hts gX2_drawLots_X2_nextLot rfl rfl rfl (by decide +kernel) ⟨Nat.le_of_ble_eq_true rfl, Nat.le_of_ble_eq_true rfl⟩) mv_T trivial rfl hl (Nat.le_of_ble_eq_true rfl) ⟨Nat.le_of_ble_eq_true rfl, Nat.le_of_ble_eq_true rfl⟩ rfl dX2_drawLots_33 (fun r2 hr2 => ?_)
        subst hr2
        refine lv_lstore_n (lv' := [(2, .long (lN (lotN (drX x j)))), (6, .ref (o + 2 + j)), (0, .ref o), (4, .int (nI (2 ^ cn z))), (5, .int (nI j))]) hx hb dX2_drawLots_36 rfl hl (by decide) rfl (fun ls hl => ?_)
        refine lv_aload hx hb dX2_drawLots_37 (lv_at hl 1 rfl) ?_
        refine lv_iconst (v := nI 4) hx hb dX2_drawLots_39 (by decide) ?_
        refine lv_lload_n hx hb dX2_drawLots_40 rfl (lv_at hl 0 rfl) ?_
        refine lv_l2i (v := nI (lotN (drX x j))) hx hb dX2_drawLots_41 (lN_i _) ?_
        refine lv_iload hx hb dX2_drawLots_42 (lv_at hl 3 rfl) ?_
        refine r_cS (av := [.int (nI (lotN (drX x j))), .int (nI (2 ^ cn z))]) (c_X2_remainder l G t (lotN (drX x j)) (2 ^ cn z) (Nat.lt_trans (lotN_lt _) (by decide)) (Nat.two_pow_pos _) (by omega)) ⟨hx, hb, hml, hown, hts⟩ (va_cwS 2 hts gX2_drawLots_X2_remainder rfl rfl rfl (by decide +kernel) ⟨Nat.le_of_ble_eq_true rfl, Nat.le_of_ble_eq_true rfl⟩) mv_T trivial rfl hl (Nat.le_of_ble_eq_true rfl) ⟨Nat.le_of_ble_eq_true rfl, Nat.le_of_ble_eq_true rfl⟩ rfl dX2_drawLots_44 (fun r3 hr3 => ?_)
        subst hr3
        refine r_iast hx hb hK hrw ⟨by omega, by omega⟩ hS rfl 4 (by omega) (by decide) dX2_drawLots_47 (fun H locs hrw hz9 hq hS => ?_)
        have h0 := at_kept h0 (hq _ (by omega))
        have h1 := at_kept h1 (hq _ (by omega))
        have h4 := at_kept h4 (hq _ (by omega))
        have h2 := fun i hi hne => at_kept (h2 i hi hne) (hq _ (by omega))
        have h5 := fun i hi => at_kept (h5 i hi) (hq _ (by omega))
        refine lv_lload_n hx hb dX2_drawLots_48 rfl (lv_at hl 0 rfl) ?_
        refine r_cSl (av := [.long (lN (lotN (drX x j)))]) (c_X2_nextLot l G t (lotN (drX x j)) (lotN_lt _)) ⟨hx, hb, hml, hown, hts⟩ (va_cwS 1 hts gX2_drawLots_X2_nextLot rfl rfl rfl (by decide +kernel) ⟨Nat.le_of_ble_eq_true rfl, Nat.le_of_ble_eq_true rfl⟩) mv_T trivial rfl hl (Nat.le_of_ble_eq_true rfl) ⟨Nat.le_of_ble_eq_true rfl, Nat.le_of_ble_eq_true rfl⟩ rfl dX2_drawLots_49 (fun r4 hr4 => ?_)
        subst hr4
        refine lv_lstore_n (lv' := [(2, .long (lN (lotN (lotN (drX x j))))), (6, .ref (o + 2 + j)), (0, .ref o), (4, .int (nI (2 ^ cn z))), (5, .int (nI j))]) hx hb dX2_drawLots_52 rfl hl (by decide) rfl (fun ls hl => ?_)
        refine lv_aload hx hb dX2_drawLots_53 (lv_at hl 1 rfl) ?_
        refine lv_iconst (v := nI 1) hx hb dX2_drawLots_55 (by decide) ?_
        refine lv_lload_n hx hb dX2_drawLots_56 rfl (lv_at hl 0 rfl) ?_
        refine lv_l2i (v := nI (lotN (lotN (drX x j)))) hx hb dX2_drawLots_57 (lN_i _) ?_
        refine lv_bipush (v := nI 100) hx hb dX2_drawLots_58 (by decide) ?_
        refine r_cS (av := [.int (nI (lotN (lotN (drX x j)))), .int (nI 100)]) (c_X2_remainder l G t (lotN (lotN (drX x j))) (100) (Nat.lt_trans (lotN_lt _) (by decide)) (by decide) (by decide)) ⟨hx, hb, hml, hown, hts⟩ (va_cwS 2 hts gX2_drawLots_X2_remainder rfl rfl rfl (by decide +kernel) ⟨Nat.le_of_ble_eq_true rfl, Nat.le_of_ble_eq_true rfl⟩) mv_T trivial rfl hl (Nat.le_of_ble_eq_true rfl) ⟨Nat.le_of_ble_eq_true rfl, Nat.le_of_ble_eq_true rfl⟩ rfl dX2_drawLots_60 (fun r5 hr5 => ?_)
        subst hr5
        refine r_iast hx hb hK hrw ⟨by omega, by omega⟩ hS rfl 1 (by omega) (by decide) dX2_drawLots_63 (fun H locs hrw hz9 hq hS => ?_)
        have h0 := at_kept h0 (hq _ (by omega))
        have h1 := at_kept h1 (hq _ (by omega))
        have h4 := at_kept h4 (hq _ (by omega))
        have h2 := fun i hi hne => at_kept (h2 i hi hne) (hq _ (by omega))
        have h5 := fun i hi => at_kept (h5 i hi) (hq _ (by omega))
        refine lv_lload_n hx hb dX2_drawLots_64 rfl (lv_at hl 0 rfl) ?_
        refine r_cSl (av := [.long (lN (lotN (lotN (drX x j))))]) (c_X2_nextLot l G t (lotN (lotN (drX x j))) (lotN_lt _)) ⟨hx, hb, hml, hown, hts⟩ (va_cwS 1 hts gX2_drawLots_X2_nextLot rfl rfl rfl (by decide +kernel) ⟨Nat.le_of_ble_eq_true rfl, Nat.le_of_ble_eq_true rfl⟩) mv_T trivial rfl hl (Nat.le_of_ble_eq_true rfl) ⟨Nat.le_of_ble_eq_true rfl, Nat.le_of_ble_eq_true rfl⟩ rfl dX2_drawLots_65 (fun r6 hr6 => ?_)
        subst hr6
        refine lv_lstore_n (lv' := [(2, .long (lN (lotN (lotN (lotN (drX x j)))))), (6, .ref (o + 2 + j)), (0, .ref o), (4, .int (nI (2 ^ cn z))), (5, .int (nI j))]) hx hb dX2_drawLots_68 rfl hl (by decide) rfl (fun ls hl => ?_)
        refine lv_aload hx hb dX2_drawLots_69 (lv_at hl 1 rfl) ?_
        refine lv_iconst (v := nI 2) hx hb dX2_drawLots_71 (by decide) ?_
        refine lv_lload_n hx hb dX2_drawLots_72 rfl (lv_at hl 0 rfl) ?_
        refine lv_l2i (v := nI (lotN (lotN (lotN (drX x j))))) hx hb dX2_drawLots_73 (lN_i _) ?_
        refine lv_bipush (v := nI 100) hx hb dX2_drawLots_74 (by decide) ?_
        refine r_cS (av := [.int (nI (lotN (lotN (lotN (drX x j))))), .int (nI 100)]) (c_X2_remainder l G t (lotN (lotN (lotN (drX x j)))) (100) (Nat.lt_trans (lotN_lt _) (by decide)) (by decide) (by decide)) ⟨hx, hb, hml, hown, hts⟩ (va_cwS 2 hts gX2_drawLots_X2_remainder rfl rfl rfl (by decide +kernel) ⟨Nat.le_of_ble_eq_true rfl, Nat.le_of_ble_eq_true rfl⟩) mv_T trivial rfl hl (Nat.le_of_ble_eq_true rfl) ⟨Nat.le_of_ble_eq_true rfl, Nat.le_of_ble_eq_true rfl⟩ rfl dX2_drawLots_76 (fun r7 hr7 => ?_)
        subst hr7
        refine r_iast hx hb hK hrw ⟨by omega, by omega⟩ hS rfl 2 (by omega) (by decide) dX2_drawLots_79 (fun H locs hrw hz9 hq hS => ?_)
        have h0 := at_kept h0 (hq _ (by omega))
        have h1 := at_kept h1 (hq _ (by omega))
        have h4 := at_kept h4 (hq _ (by omega))
        have h2 := fun i hi hne => at_kept (h2 i hi hne) (hq _ (by omega))
        have h5 := fun i hi => at_kept (h5 i hi) (hq _ (by omega))
        refine lv_lload_n hx hb dX2_drawLots_80 rfl (lv_at hl 0 rfl) ?_
        refine r_cSl (av := [.long (lN (lotN (lotN (lotN (drX x j)))))]) (c_X2_nextLot l G t (lotN (lotN (lotN (drX x j)))) (lotN_lt _)) ⟨hx, hb, hml, hown, hts⟩ (va_cwS 1 hts gX2_drawLots_X2_nextLot rfl rfl rfl (by decide +kernel) ⟨Nat.le_of_ble_eq_true rfl, Nat.le_of_ble_eq_true rfl⟩) mv_T trivial rfl hl (Nat.le_of_ble_eq_true rfl) ⟨Nat.le_of_ble_eq_true rfl, Nat.le_of_ble_eq_true rfl⟩ rfl dX2_drawLots_81 (fun r8 hr8 => ?_)
        subst hr8
        refine lv_lstore_n (lv' := [(2, .long (lN (lotN (lotN (lotN (lotN (drX x j))))))), (6, .ref (o + 2 + j)), (0, .ref o), (4, .int (nI (2 ^ cn z))), (5, .int (nI j))]) hx hb dX2_drawLots_84 rfl hl (by decide) rfl (fun ls hl => ?_)
        refine lv_aload hx hb dX2_drawLots_85 (lv_at hl 1 rfl) ?_
        refine lv_iconst (v := nI 3) hx hb dX2_drawLots_87 (by decide) ?_
        refine lv_lload_n hx hb dX2_drawLots_88 rfl (lv_at hl 0 rfl) ?_
        refine lv_l2i (v := nI (lotN (lotN (lotN (lotN (drX x j)))))) hx hb dX2_drawLots_89 (lN_i _) ?_
        refine lv_bipush (v := nI 50) hx hb dX2_drawLots_90 (by decide) ?_
        refine r_cS (av := [.int (nI (lotN (lotN (lotN (lotN (drX x j)))))), .int (nI 50)]) (c_X2_remainder l G t (lotN (lotN (lotN (lotN (drX x j))))) (50) (Nat.lt_trans (lotN_lt _) (by decide)) (by decide) (by decide)) ⟨hx, hb, hml, hown, hts⟩ (va_cwS 2 hts gX2_drawLots_X2_remainder rfl rfl rfl (by decide +kernel) ⟨Nat.le_of_ble_eq_true rfl, Nat.le_of_ble_eq_true rfl⟩) mv_T trivial rfl hl (Nat.le_of_ble_eq_true rfl) ⟨Nat.le_of_ble_eq_true rfl, Nat.le_of_ble_eq_true rfl⟩ rfl dX2_drawLots_92 (fun r9 hr9 => ?_)
        subst hr9
        refine r_iast hx hb hK hrw ⟨by omega, by omega⟩ hS rfl 3 (by omega) (by decide) dX2_drawLots_95 (fun H locs hrw hz9 hq hS => ?_)
        have h0 := at_kept h0 (hq _ (by omega))
        have h1 := at_kept h1 (hq _ (by omega))
        have h4 := at_kept h4 (hq _ (by omega))
        have h2 := fun i hi hne => at_kept (h2 i hi hne) (hq _ (by omega))
        have h5 := fun i hi => at_kept (h5 i hi) (hq _ (by omega))
        refine lv_iinc (v := nI (j + 1)) (lv' := [(5, .int (nI (j + 1))), (2, .long (lN (lotN (lotN (lotN (lotN (drX x j))))))), (6, .ref (o + 2 + j)), (0, .ref o), (4, .int (nI (2 ^ cn z)))]) hx hb dX2_drawLots_96 hl (k := 4) rfl (nI_1 _) (by decide) rfl (fun ls hl => ?_)
        refine lv_goto (tgt := 14) hx hb dX2_drawLots_99 (by decide) ?_
        exact ih14 (j + 1) (va_up F j (upd (upd (upd (upd (F j) 4 (nI ((lotN (drX x j)) % (2 ^ cn z)))) 1 (nI ((lotN (lotN (drX x j))) % 100))) 2 (nI ((lotN (lotN (lotN (drX x j)))) % 100))) 3 (nI ((lotN (lotN (lotN (lotN (drX x j))))) % 50)))) (by omega) (dr_ext hF c1) (by omega) _ _ h0 h1 h4 (rows_put hrw h2) h5 hS ls (lv_sub hl [3, 1, 4, 0] rfl)
  exact loop14 _ 0 fU (Nat.zero_le _) h6 (Nat.lt_succ_self _) _ _ h0 h1 h4 h2 h5 hS ls (lv_sub hl [3, 2, 1, 0] rfl)
