/-! Groups (printed by wip/whole/m3.py) -/
set_option maxRecDepth 20000 in
theorem iiX0_begin_0 : ∀ w ∈ wsX00, w ∈ wsX0_begin := by decide +kernel
set_option maxHeartbeats 4000000 in
set_option maxRecDepth 100000 in
/-- each alone -/
theorem c_X0_begin (l : Launch) (G : va_G) (t : gT) (a : Nat) (gr : Nat → Nat) (sl k : Nat) (k2 : Nat) (hk : k2 ≤ 5) : Met l yX0_begin wsX0_begin ({ frames := 0, cells := 0, slots := 0, locals := 0 } : Room) (pc_ [.ref a, .int (nI k2)] (fun U H => KK G t U ∧ Gp G t a gr sl k H)) (qv_ (fun H => Gp G t a (fun u => u) 0 k2 H) (iv a (a + 3))) 0 0 (iv a (a + 3)) := by
  refine Met.ofW (cc := cX0_begin) (maxL := 3) (ret := none) (by decide) rfl ?_
  intro p e s m args below meth c s₁ B hml hv
  obtain ⟨rfl, hB⟩ := hv
  have hx := B.exec
  have hb := B.bytes
  have hr := B.returns
  have hts := atoms_spec (ws := wsX0_begin) B.pre
  have hown : s.vm.findClass RX0 = some m.cls := findClass_of_methodNamed B.named
  have hlocks := B.notSynchronized
  have hK := hB.1
  obtain ⟨fo, fl, f2, h0, h1, h2, h3, h4⟩ := hB.2
  have hS : va_S (iv a (a + 3)) s.heap s.heap [] := va_S.rf
  have hl := lv_entry ([.ref a, .int (nI k2)]) (n := 3) (Nat.le_of_ble_eq_true rfl)
  rw [lg_entry_eq]
  generalize (lg_sl ([.ref a, .int (nI k2)]) ++ List.replicate (3 - (lg_sl ([.ref a, .int (nI k2)])).length) Slot.unset).toArray = ls at hl ⊢
  have hl : lv_has ls 3 [(0, .ref a), (1, .int (nI k2))] := hl
  refine lv_aload_n hx hb dX0_begin_0 rfl (lv_at hl 0 rfl) ?_
  refine lv_iconst (v := nI 0) hx hb dX0_begin_1 (by decide) ?_
  refine r_put (ty := .int) (ci := 0) (C := RX0) (T := TX0) (N := 4) (fs' := [.int (nI 0), .int (nI k), .ref (a + 1), .ref (a + 2)]) hx hb hts iiX0_begin_0 tyX0 tyX0_ok nmX0 hown hK h0 ⟨by omega, by omega⟩ hS rfl 0 (by decide) (hts (.fieldLink RX0 18 "HopMeet$Groups" "slotsRun" "I") (List.mem_of_getElem? (i := 1) rfl)) rfl (by decide +kernel) rfl rfl (Nat.le_of_ble_eq_true rfl) rfl dX0_begin_2 (fun H locs h0 hz9 hq hS => ?_)
  have h1 := at_kept h1 (hq _ (by omega))
  have h2 := at_kept h2 (hq _ (by omega))
  refine lv_aload_n hx hb dX0_begin_5 rfl (lv_at hl 0 rfl) ?_
  refine lv_iload_n hx hb dX0_begin_6 rfl (lv_at hl 1 rfl) ?_
  refine r_put (ty := .int) (ci := 0) (C := RX0) (T := TX0) (N := 4) (fs' := [.int (nI 0), .int (nI k2), .ref (a + 1), .ref (a + 2)]) hx hb hts iiX0_begin_0 tyX0 tyX0_ok nmX0 hown hK h0 ⟨by omega, by omega⟩ hS rfl 1 (by decide) (hts (.fieldLink RX0 22 "HopMeet$Groups" "userCount" "I") (List.mem_of_getElem? (i := 2) rfl)) rfl (by decide +kernel) rfl rfl (Nat.le_of_ble_eq_true rfl) rfl dX0_begin_7 (fun H locs h0 hz9 hq hS => ?_)
  have h1 := at_kept h1 (hq _ (by omega))
  have h2 := at_kept h2 (hq _ (by omega))
  refine lv_iconst (v := nI 0) hx hb dX0_begin_10 (by decide) ?_
  refine lv_istore_n (lv' := [(2, .int (nI 0)), (0, .ref a), (1, .int (nI k2))]) hx hb dX0_begin_11 rfl hl (by decide) rfl (fun ls hl => ?_)
  have loop12 : ∀ (fu : Nat) (i : Nat) (f : Nat → Int32) (hi : i ≤ k2) (hf : ∀ u, u < i → f u = nI u) (hfu : k2 - i < fu) (H : Heap) (locs : List Loc) (h0 : at_ G a (.inr (0, [.int (nI 0), .int (nI k2), .ref (a + 1), .ref (a + 2)])) H) (h1 : at_ G (a + 1) (aI t 5 f) H) (h2 : at_ G (a + 2) (aI t 10 f2) H)  (hS : va_S (iv a (a + 3)) s.heap H locs) (ls : Array Slot) (hl : lv_has ls 3 [(0, .ref a), (1, .int (nI k2)), (2, .int (nI i))]), W p l e (headSpec wsX0_begin ({ frames := 0, cells := 0, slots := 0, locals := 0 } : Room)).room s m ([.ref a, .int (nI k2)] : List Value).toArray below meth c H locs 0 0 (MQ below (qv_ (fun H => Gp G t a (fun u => u) 0 k2 H) (iv a (a + 3))) ([.ref a, .int (nI k2)] : List Value).toArray s 0 0 (iv a (a + 3))) (F0 m 12 ls []) := by
    intro fu
    induction fu with
    | zero => intro i f hi hf hfu; exact absurd hfu (Nat.not_lt_zero _)
    | succ fu12 ih12 =>
      intro i f hi hf hfu H locs h0 h1 h2 hS ls hl
      refine lv_iload_n hx hb dX0_begin_12 rfl (lv_at hl 2 rfl) ?_
      refine lv_iload_n hx hb dX0_begin_13 rfl (lv_at hl 1 rfl) ?_
      refine r_geN hx hb (by omega) (by omega) dX0_begin_14 (tgt := 30) (by decide) (fun c1 => ?_) (fun c1 => ?_)
      · exact r_retV hx hb hr hlocks hS ⟨f2, f, f2, h0, h1, h2, fun u hu => hf u (by omega), fun _ _ => rfl⟩ dX0_begin_30
      · refine lv_aload_n hx hb dX0_begin_17 rfl (lv_at hl 0 rfl) ?_
        refine r_get (C := RX0) (T := TX0) (N := 4) hx hb hts iiX0_begin_0 hown hK h0 rfl 2 (by decide) (hts (.fieldLink RX0 9 "HopMeet$Groups" "least" "[I") (List.mem_of_getElem? (i := 3) rfl)) rfl dX0_begin_18 ?_
        refine lv_iload_n hx hb dX0_begin_21 rfl (lv_at hl 2 rfl) ?_
        refine lv_iload_n hx hb dX0_begin_22 rfl (lv_at hl 2 rfl) ?_
        refine r_iast hx hb hK h1 ⟨by omega, by omega⟩ hS rfl i (by omega) (by decide) dX0_begin_23 (fun H locs h1 hz9 hq hS => ?_)
        have h0 := at_kept h0 (hq _ (by omega))
        have h2 := at_kept h2 (hq _ (by omega))
        refine lv_iinc (v := nI (i + 1)) (lv' := [(2, .int (nI (i + 1))), (0, .ref a), (1, .int (nI k2))]) hx hb dX0_begin_24 hl (k := 2) rfl (nI_1 _) (by decide) rfl (fun ls hl => ?_)
        refine lv_goto (tgt := 12) hx hb dX0_begin_27 (by decide) ?_
        exact ih12 (i + 1) (upd f i (nI i)) (by omega) (up_ext hf rfl) (by omega) _ _ h0 h1 h2 hS ls (lv_sub hl [1, 2, 0] rfl)
  exact loop12 _ 0 fl (Nat.zero_le _) (fun u h => absurd h (Nat.not_lt_zero _)) (Nat.lt_succ_self _) _ _ h0 h1 h2 hS ls (lv_sub hl [1, 2, 0] rfl)

set_option maxRecDepth 20000 in
theorem iiX0_howMany_0 : ∀ w ∈ wsX00, w ∈ wsX0_howMany := by decide +kernel
set_option maxHeartbeats 4000000 in
set_option maxRecDepth 100000 in
/-- how many groups -/
theorem c_X0_howMany (l : Launch) (G : va_G) (t : gT) (a : Nat) (gr : Nat → Nat) (sl k : Nat) (hg : ∀ u, u < k → gr u ≤ u) (hk : k ≤ 5) : Met l yX0_howMany wsX0_howMany ({ frames := 0, cells := 0, slots := 0, locals := 0 } : Room) (pc_ [.ref a] (fun U H => KK G t U ∧ Gp G t a gr sl k H)) (vp_Si (fun r => r = nI (grN gr k))) 0 0 (fun _ => False) := by
  refine Met.ofW (cc := cX0_howMany) (maxL := 3) (ret := (some .int)) (by decide) rfl ?_
  intro p e s m args below meth c s₁ B hml hv
  obtain ⟨rfl, hB⟩ := hv
  have hx := B.exec
  have hb := B.bytes
  have hr := B.returns
  have hts := atoms_spec (ws := wsX0_howMany) B.pre
  have hown : s.vm.findClass RX0 = some m.cls := findClass_of_methodNamed B.named
  have hlocks := B.notSynchronized
  have hK := hB.1
  obtain ⟨fo, fl, f2, h0, h1, h2, h3, h4⟩ := hB.2
  have hl := lv_entry ([.ref a]) (n := 3) (Nat.le_of_ble_eq_true rfl)
  rw [lg_entry_eq]
  generalize (lg_sl ([.ref a]) ++ List.replicate (3 - (lg_sl ([.ref a])).length) Slot.unset).toArray = ls at hl ⊢
  have hl : lv_has ls 3 [(0, .ref a)] := hl
  refine lv_iconst (v := nI 0) hx hb dX0_howMany_0 (by decide) ?_
  refine lv_istore_n (lv' := [(1, .int (nI 0)), (0, .ref a)]) hx hb dX0_howMany_1 rfl hl (by decide) rfl (fun ls hl => ?_)
  refine lv_iconst (v := nI 0) hx hb dX0_howMany_2 (by decide) ?_
  refine lv_istore_n (lv' := [(2, .int (nI 0)), (1, .int (nI 0)), (0, .ref a)]) hx hb dX0_howMany_3 rfl hl (by decide) rfl (fun ls hl => ?_)
  have loop4 : ∀ (fu : Nat) (i : Nat) (w : Nat) (hi : i ≤ k) (hw : w = cntF (fun u => decide (gr u = u)) i) (hfu : k - i < fu) (ls : Array Slot) (hl : lv_has ls 3 [(0, .ref a), (1, .int (nI w)), (2, .int (nI i))]), W p l e (headSpec wsX0_howMany ({ frames := 0, cells := 0, slots := 0, locals := 0 } : Room)).room s m ([.ref a] : List Value).toArray below meth c s.heap [] 0 0 (MQ below (vp_Si (fun r => r = nI (grN gr k))) ([.ref a] : List Value).toArray s 0 0 (fun _ => False)) (F0 m 4 ls []) := by
    intro fu
    induction fu with
    | zero => intro i w hi hw hfu; exact absurd hfu (Nat.not_lt_zero _)
    | succ fu4 ih4 =>
      intro i w hi hw hfu ls hl
      refine lv_iload_n hx hb dX0_howMany_4 rfl (lv_at hl 2 rfl) ?_
      refine lv_aload_n hx hb dX0_howMany_5 rfl (lv_at hl 0 rfl) ?_
      refine r_get (C := RX0) (T := TX0) (N := 4) hx hb hts iiX0_howMany_0 hown hK h0 rfl 1 (by decide) (hts (.fieldLink RX0 22 "HopMeet$Groups" "userCount" "I") (List.mem_of_getElem? (i := 1) rfl)) rfl dX0_howMany_6 ?_
      refine r_geN hx hb (by omega) (by omega) dX0_howMany_9 (tgt := 31) (by decide) (fun c1 => ?_) (fun c1 => ?_)
      · refine lv_iload_n hx hb dX0_howMany_31 rfl (lv_at hl 1 rfl) ?_
        exact r_retS (v := nI w) hx hb hr hlocks (by rw [hw, show k = i by omega]; rfl) dX0_howMany_32
      · refine lv_aload_n hx hb dX0_howMany_12 rfl (lv_at hl 0 rfl) ?_
        refine r_get (C := RX0) (T := TX0) (N := 4) hx hb hts iiX0_howMany_0 hown hK h0 rfl 2 (by decide) (hts (.fieldLink RX0 9 "HopMeet$Groups" "least" "[I") (List.mem_of_getElem? (i := 2) rfl)) rfl dX0_howMany_13 ?_
        refine lv_iload_n hx hb dX0_howMany_16 rfl (lv_at hl 2 rfl) ?_
        refine r_iald hx hb hK h1 rfl i (by omega) (by decide) (v := nI (gr i)) (h3 i c1) dX0_howMany_17 ?_
        refine lv_iload_n hx hb dX0_howMany_18 rfl (lv_at hl 2 rfl) ?_
        refine r_neN hx hb (by have := hg i c1; omega) (by omega) dX0_howMany_19 (tgt := 25) (by decide) (fun c2 => ?_) (fun c2 => ?_)
        · refine lv_iinc (v := nI (i + 1)) (lv' := [(2, .int (nI (i + 1))), (0, .ref a), (1, .int (nI w))]) hx hb dX0_howMany_25 hl (k := 2) rfl (nI_1 _) (by decide) rfl (fun ls hl => ?_)
          refine lv_goto (tgt := 4) hx hb dX0_howMany_28 (by decide) ?_
          exact ih4 (i + 1) w (by omega) (cnt_n hw (decide_eq_false c2)) (by omega) ls (lv_sub hl [1, 2, 0] rfl)
        · refine lv_iinc (v := nI (w + 1)) (lv' := [(1, .int (nI (w + 1))), (0, .ref a), (2, .int (nI i))]) hx hb dX0_howMany_22 hl (k := 1) rfl (nI_1 _) (by decide) rfl (fun ls hl => ?_)
          refine lv_iinc (v := nI (i + 1)) (lv' := [(2, .int (nI (i + 1))), (1, .int (nI (w + 1))), (0, .ref a)]) hx hb dX0_howMany_25 hl (k := 2) rfl (nI_1 _) (by decide) rfl (fun ls hl => ?_)
          refine lv_goto (tgt := 4) hx hb dX0_howMany_28 (by decide) ?_
          exact ih4 (i + 1) (w + 1) (by omega) (cnt_y hw (decide_eq_true c2)) (by omega) ls (lv_sub hl [2, 1, 0] rfl)
  exact loop4 _ 0 0 (Nat.zero_le _) rfl (Nat.lt_succ_self _) ls (lv_sub hl [2, 1, 0] rfl)

set_option maxRecDepth 20000 in
theorem iiX0_sizeOfGroupOf_0 : ∀ w ∈ wsX00, w ∈ wsX0_sizeOfGroupOf := by decide +kernel
set_option maxHeartbeats 4000000 in
set_option maxRecDepth 100000 in
/-- how many go with u -/
theorem c_X0_sizeOfGroupOf (l : Launch) (G : va_G) (t : gT) (a : Nat) (gr : Nat → Nat) (sl k : Nat) (hg : ∀ u, u < k → gr u ≤ u) (hk : k ≤ 5) (u : Nat) (hu : u < k) : Met l yX0_sizeOfGroupOf wsX0_sizeOfGroupOf ({ frames := 0, cells := 0, slots := 0, locals := 0 } : Room) (pc_ [.ref a, .int (nI u)] (fun U H => KK G t U ∧ Gp G t a gr sl k H)) (vp_Si (fun r => r = nI (szN gr k u))) 0 0 (fun _ => False) := by
  refine Met.ofW (cc := cX0_sizeOfGroupOf) (maxL := 4) (ret := (some .int)) (by decide) rfl ?_
  intro p e s m args below meth c s₁ B hml hv
  obtain ⟨rfl, hB⟩ := hv
  have hx := B.exec
  have hb := B.bytes
  have hr := B.returns
  have hts := atoms_spec (ws := wsX0_sizeOfGroupOf) B.pre
  have hown : s.vm.findClass RX0 = some m.cls := findClass_of_methodNamed B.named
  have hlocks := B.notSynchronized
  have hK := hB.1
  obtain ⟨fo, fl, f2, h0, h1, h2, h3, h4⟩ := hB.2
  have hl := lv_entry ([.ref a, .int (nI u)]) (n := 4) (Nat.le_of_ble_eq_true rfl)
  rw [lg_entry_eq]
  generalize (lg_sl ([.ref a, .int (nI u)]) ++ List.replicate (4 - (lg_sl ([.ref a, .int (nI u)])).length) Slot.unset).toArray = ls at hl ⊢
  have hl : lv_has ls 4 [(0, .ref a), (1, .int (nI u))] := hl
  refine lv_iconst (v := nI 0) hx hb dX0_sizeOfGroupOf_0 (by decide) ?_
  refine lv_istore_n (lv' := [(2, .int (nI 0)), (0, .ref a), (1, .int (nI u))]) hx hb dX0_sizeOfGroupOf_1 rfl hl (by decide) rfl (fun ls hl => ?_)
  refine lv_iconst (v := nI 0) hx hb dX0_sizeOfGroupOf_2 (by decide) ?_
  refine lv_istore_n (lv' := [(3, .int (nI 0)), (2, .int (nI 0)), (0, .ref a), (1, .int (nI u))]) hx hb dX0_sizeOfGroupOf_3 rfl hl (by decide) rfl (fun ls hl => ?_)
  have loop4 : ∀ (fu : Nat) (i : Nat) (w : Nat) (hi : i ≤ k) (hw : w = cntF (fun v => decide (gr v = gr u)) i) (hfu : k - i < fu) (ls : Array Slot) (hl : lv_has ls 4 [(0, .ref a), (1, .int (nI u)), (2, .int (nI w)), (3, .int (nI i))]), W p l e (headSpec wsX0_sizeOfGroupOf ({ frames := 0, cells := 0, slots := 0, locals := 0 } : Room)).room s m ([.ref a, .int (nI u)] : List Value).toArray below meth c s.heap [] 0 0 (MQ below (vp_Si (fun r => r = nI (szN gr k u))) ([.ref a, .int (nI u)] : List Value).toArray s 0 0 (fun _ => False)) (F0 m 4 ls []) := by
    intro fu
    induction fu with
    | zero => intro i w hi hw hfu; exact absurd hfu (Nat.not_lt_zero _)
    | succ fu4 ih4 =>
      intro i w hi hw hfu ls hl
      refine lv_iload_n hx hb dX0_sizeOfGroupOf_4 rfl (lv_at hl 3 rfl) ?_
      refine lv_aload_n hx hb dX0_sizeOfGroupOf_5 rfl (lv_at hl 0 rfl) ?_
      refine r_get (C := RX0) (T := TX0) (N := 4) hx hb hts iiX0_sizeOfGroupOf_0 hown hK h0 rfl 1 (by decide) (hts (.fieldLink RX0 22 "HopMeet$Groups" "userCount" "I") (List.mem_of_getElem? (i := 1) rfl)) rfl dX0_sizeOfGroupOf_6 ?_
      refine r_geN hx hb (by omega) (by omega) dX0_sizeOfGroupOf_9 (tgt := 36) (by decide) (fun c1 => ?_) (fun c1 => ?_)
      · refine lv_iload_n hx hb dX0_sizeOfGroupOf_36 rfl (lv_at hl 2 rfl) ?_
        exact r_retS (v := nI w) hx hb hr hlocks (by rw [hw, show k = i by omega]; rfl) dX0_sizeOfGroupOf_37
      · refine lv_aload_n hx hb dX0_sizeOfGroupOf_12 rfl (lv_at hl 0 rfl) ?_
        refine r_get (C := RX0) (T := TX0) (N := 4) hx hb hts iiX0_sizeOfGroupOf_0 hown hK h0 rfl 2 (by decide) (hts (.fieldLink RX0 9 "HopMeet$Groups" "least" "[I") (List.mem_of_getElem? (i := 2) rfl)) rfl dX0_sizeOfGroupOf_13 ?_
        refine lv_iload_n hx hb dX0_sizeOfGroupOf_16 rfl (lv_at hl 3 rfl) ?_
        refine r_iald hx hb hK h1 rfl i (by omega) (by decide) (v := nI (gr i)) (h3 i c1) dX0_sizeOfGroupOf_17 ?_
        refine lv_aload_n hx hb dX0_sizeOfGroupOf_18 rfl (lv_at hl 0 rfl) ?_
        refine r_get (C := RX0) (T := TX0) (N := 4) hx hb hts iiX0_sizeOfGroupOf_0 hown hK h0 rfl 2 (by decide) (hts (.fieldLink RX0 9 "HopMeet$Groups" "least" "[I") (List.mem_of_getElem? (i := 2) rfl)) rfl dX0_sizeOfGroupOf_19 ?_
        refine lv_iload_n hx hb dX0_sizeOfGroupOf_22 rfl (lv_at hl 1 rfl) ?_
        refine r_iald hx hb hK h1 rfl u (by omega) (by decide) (v := nI (gr u)) (h3 u hu) dX0_sizeOfGroupOf_23 ?_
        refine r_neN hx hb (by have := hg i c1; omega) (by have := hg u hu; omega) dX0_sizeOfGroupOf_24 (tgt := 30) (by decide) (fun c2 => ?_) (fun c2 => ?_)
        · refine lv_iinc (v := nI (i + 1)) (lv' := [(3, .int (nI (i + 1))), (0, .ref a), (1, .int (nI u)), (2, .int (nI w))]) hx hb dX0_sizeOfGroupOf_30 hl (k := 3) rfl (nI_1 _) (by decide) rfl (fun ls hl => ?_)
          refine lv_goto (tgt := 4) hx hb dX0_sizeOfGroupOf_33 (by decide) ?_
          exact ih4 (i + 1) w (by omega) (cnt_n hw (decide_eq_false c2)) (by omega) ls (lv_sub hl [1, 2, 3, 0] rfl)
        · refine lv_iinc (v := nI (w + 1)) (lv' := [(2, .int (nI (w + 1))), (0, .ref a), (1, .int (nI u)), (3, .int (nI i))]) hx hb dX0_sizeOfGroupOf_27 hl (k := 2) rfl (nI_1 _) (by decide) rfl (fun ls hl => ?_)
          refine lv_iinc (v := nI (i + 1)) (lv' := [(3, .int (nI (i + 1))), (2, .int (nI (w + 1))), (0, .ref a), (1, .int (nI u))]) hx hb dX0_sizeOfGroupOf_30 hl (k := 3) rfl (nI_1 _) (by decide) rfl (fun ls hl => ?_)
          refine lv_goto (tgt := 4) hx hb dX0_sizeOfGroupOf_33 (by decide) ?_
          exact ih4 (i + 1) (w + 1) (by omega) (cnt_y hw (decide_eq_true c2)) (by omega) ls (lv_sub hl [2, 3, 1, 0] rfl)
  exact loop4 _ 0 0 (Nat.zero_le _) rfl (Nat.lt_succ_self _) ls (lv_sub hl [2, 3, 1, 0] rfl)

set_option maxRecDepth 20000 in
theorem iiX0_join_0 : ∀ w ∈ wsX00, w ∈ wsX0_join := by decide +kernel
set_option maxHeartbeats 4000000 in
set_option maxRecDepth 100000 in
/-- a group joins another -/
theorem c_X0_join (l : Launch) (G : va_G) (t : gT) (a : Nat) (gr : Nat → Nat) (sl k : Nat) (fo : Nat → Int32) (hg : ∀ u, u < k → gr u < 5) (hk : k ≤ 5) (ld le : Nat) (hld : ld < 5) (hle : le < 5) : Met l yX0_join wsX0_join ({ frames := 0, cells := 0, slots := 0, locals := 0 } : Room) (pc_ [.ref a, .int (nI ld), .int (nI le)] (fun U H => KK G t U ∧ Gq G t a gr sl k fo H)) (qv_ (fun H => Gq G t a (fun u => if gr u = ld then le else gr u) sl k fo H) (iv a (a + 3))) 0 0 (iv a (a + 3)) := by
  refine Met.ofW (cc := cX0_join) (maxL := 4) (ret := none) (by decide) rfl ?_
  intro p e s m args below meth c s₁ B hml hv
  obtain ⟨rfl, hB⟩ := hv
  have hx := B.exec
  have hb := B.bytes
  have hr := B.returns
  have hts := atoms_spec (ws := wsX0_join) B.pre
  have hown : s.vm.findClass RX0 = some m.cls := findClass_of_methodNamed B.named
  have hlocks := B.notSynchronized
  have hK := hB.1
  obtain ⟨fl, f2, h0, h1, h2, h3, h4⟩ := hB.2
  have hS : va_S (iv a (a + 3)) s.heap s.heap [] := va_S.rf
  have hl := lv_entry ([.ref a, .int (nI ld), .int (nI le)]) (n := 4) (Nat.le_of_ble_eq_true rfl)
  rw [lg_entry_eq]
  generalize (lg_sl ([.ref a, .int (nI ld), .int (nI le)]) ++ List.replicate (4 - (lg_sl ([.ref a, .int (nI ld), .int (nI le)])).length) Slot.unset).toArray = ls at hl ⊢
  have hl : lv_has ls 4 [(0, .ref a), (1, .int (nI ld)), (2, .int (nI le))] := hl
  refine lv_iconst (v := nI 0) hx hb dX0_join_0 (by decide) ?_
  refine lv_istore_n (lv' := [(3, .int (nI 0)), (0, .ref a), (1, .int (nI ld)), (2, .int (nI le))]) hx hb dX0_join_1 rfl hl (by decide) rfl (fun ls hl => ?_)
  have loop2 : ∀ (fu : Nat) (i : Nat) (f : Nat → Int32) (hi : i ≤ k) (hf : ∀ u, u < i → f u = nI (if gr u = ld then le else gr u)) (hf2 : ∀ u, i ≤ u → u < k → f u = nI (gr u)) (hfu : k - i < fu) (H : Heap) (locs : List Loc) (h0 : at_ G a (.inr (0, [.int (nI sl), .int (nI k), .ref (a + 1), .ref (a + 2)])) H) (h1 : at_ G (a + 1) (aI t 5 f) H) (h2 : at_ G (a + 2) (aI t 10 f2) H)  (hS : va_S (iv a (a + 3)) s.heap H locs) (ls : Array Slot) (hl : lv_has ls 4 [(0, .ref a), (1, .int (nI ld)), (2, .int (nI le)), (3, .int (nI i))]), W p l e (headSpec wsX0_join ({ frames := 0, cells := 0, slots := 0, locals := 0 } : Room)).room s m ([.ref a, .int (nI ld), .int (nI le)] : List Value).toArray below meth c H locs 0 0 (MQ below (qv_ (fun H => Gq G t a (fun u => if gr u = ld then le else gr u) sl k fo H) (iv a (a + 3))) ([.ref a, .int (nI ld), .int (nI le)] : List Value).toArray s 0 0 (iv a (a + 3))) (F0 m 2 ls []) := by
    intro fu
    induction fu with
    | zero => intro i f hi hf hf2 hfu; exact absurd hfu (Nat.not_lt_zero _)
    | succ fu2 ih2 =>
      intro i f hi hf hf2 hfu H locs h0 h1 h2 hS ls hl
      refine lv_iload_n hx hb dX0_join_2 rfl (lv_at hl 3 rfl) ?_
      refine lv_aload_n hx hb dX0_join_3 rfl (lv_at hl 0 rfl) ?_
      refine r_get (C := RX0) (T := TX0) (N := 4) hx hb hts iiX0_join_0 hown hK h0 rfl 1 (by decide) (hts (.fieldLink RX0 22 "HopMeet$Groups" "userCount" "I") (List.mem_of_getElem? (i := 1) rfl)) rfl dX0_join_4 ?_
      refine r_geN hx hb (by omega) (by omega) dX0_join_7 (tgt := 33) (by decide) (fun c1 => ?_) (fun c1 => ?_)
      · exact r_retV hx hb hr hlocks hS ⟨f, f2, h0, h1, h2, fun u hu => hf u (by omega), h4⟩ dX0_join_33
      · refine lv_aload_n hx hb dX0_join_10 rfl (lv_at hl 0 rfl) ?_
        refine r_get (C := RX0) (T := TX0) (N := 4) hx hb hts iiX0_join_0 hown hK h0 rfl 2 (by decide) (hts (.fieldLink RX0 9 "HopMeet$Groups" "least" "[I") (List.mem_of_getElem? (i := 2) rfl)) rfl dX0_join_11 ?_
        refine lv_iload_n hx hb dX0_join_14 rfl (lv_at hl 3 rfl) ?_
        refine r_iald hx hb hK h1 rfl i (by omega) (by decide) (v := nI (gr i)) (hf2 i (Nat.le_refl _) c1) dX0_join_15 ?_
        refine lv_iload_n hx hb dX0_join_16 rfl (lv_at hl 1 rfl) ?_
        refine r_neN hx hb (by have := hg i c1; omega) (by omega) dX0_join_17 (tgt := 27) (by decide) (fun c2 => ?_) (fun c2 => ?_)
        · refine lv_iinc (v := nI (i + 1)) (lv' := [(3, .int (nI (i + 1))), (0, .ref a), (1, .int (nI ld)), (2, .int (nI le))]) hx hb dX0_join_27 hl (k := 3) rfl (nI_1 _) (by decide) rfl (fun ls hl => ?_)
          refine lv_goto (tgt := 2) hx hb dX0_join_30 (by decide) ?_
          exact ih2 (i + 1) f (by omega) (jo_ext hf (by rw [hf2 i (Nat.le_refl _) c1, if_neg c2])) (fun u h1 h2 => hf2 u (by omega) h2) (by omega) _ _ h0 h1 h2 hS ls (lv_sub hl [1, 2, 3, 0] rfl)
        · refine lv_aload_n hx hb dX0_join_20 rfl (lv_at hl 0 rfl) ?_
          refine r_get (C := RX0) (T := TX0) (N := 4) hx hb hts iiX0_join_0 hown hK h0 rfl 2 (by decide) (hts (.fieldLink RX0 9 "HopMeet$Groups" "least" "[I") (List.mem_of_getElem? (i := 2) rfl)) rfl dX0_join_21 ?_
          refine lv_iload_n hx hb dX0_join_24 rfl (lv_at hl 3 rfl) ?_
          refine lv_iload_n hx hb dX0_join_25 rfl (lv_at hl 2 rfl) ?_
          refine r_iast hx hb hK h1 ⟨by omega, by omega⟩ hS rfl i (by omega) (by decide) dX0_join_26 (fun H locs h1 hz9 hq hS => ?_)
          have h0 := at_kept h0 (hq _ (by omega))
          have h2 := at_kept h2 (hq _ (by omega))
          refine lv_iinc (v := nI (i + 1)) (lv' := [(3, .int (nI (i + 1))), (0, .ref a), (1, .int (nI ld)), (2, .int (nI le))]) hx hb dX0_join_27 hl (k := 3) rfl (nI_1 _) (by decide) rfl (fun ls hl => ?_)
          refine lv_goto (tgt := 2) hx hb dX0_join_30 (by decide) ?_
          exact ih2 (i + 1) (upd f i (nI le)) (by omega) (up_ext hf (by rw [if_pos c2])) (fun u h1 h2 => by rw [pk_un (by omega)]; exact hf2 u (by omega) h2) (by omega) _ _ h0 h1 h2 hS ls (lv_sub hl [1, 2, 3, 0] rfl)
  exact loop2 _ 0 fl (Nat.zero_le _) (fun u h => absurd h (Nat.not_lt_zero _)) (fun u _ h => h3 u h) (Nat.lt_succ_self _) _ _ h0 h1 h2 hS ls (lv_sub hl [1, 2, 3, 0] rfl)

set_option maxRecDepth 20000 in
theorem iiX0_settle_0 : ∀ w ∈ wsX00, w ∈ wsX0_settle := by decide +kernel
set_option maxHeartbeats 4000000 in
set_option maxRecDepth 100000 in
/-- a leader comes to a channel -/
theorem c_X0_settle (l : Launch) (G : va_G) (t : gT) (a : Nat) (gr : Nat → Nat) (sl k : Nat) (fo fo2 : Nat → Int32) (gr2 : Nat → Nat) (hg : ∀ u, u < k → gr u < 5) (hk : k ≤ 5) (u : Nat) (hu : u < 5) (ch : Int32) (hcase : (ch = -1 ∧ (∀ w, w < k → gr2 w = gr w) ∧ (∀ c, c < 10 → fo2 c = fo c)) ∨ (∃ c0, c0 < 10 ∧ ch = nI c0 ∧ fo c0 = -1 ∧ (∀ w, w < k → gr2 w = gr w) ∧ (∀ c, c < 10 → fo2 c = upd fo c0 (nI u) c)) ∨ (∃ c0 L, c0 < 10 ∧ L < 5 ∧ ch = nI c0 ∧ fo c0 = nI L ∧ (∀ w, w < k → gr2 w = if gr w = u then L else gr w) ∧ (∀ c, c < 10 → fo2 c = fo c))) : Met l yX0_settle wsX0_settle ({ frames := 1, cells := 0, slots := 0, locals := 23 } : Room) (pc_ [.ref a, .int (nI u), .int ch] (fun U H => KK G t U ∧ Gq G t a gr sl k fo H)) (qv_ (fun H => Gq G t a gr2 sl k fo2 H) (iv a (a + 3))) 0 0 (iv a (a + 3)) := by
  refine Met.ofW (cc := cX0_settle) (maxL := 3) (ret := none) (by decide) rfl ?_
  intro p e s m args below meth c s₁ B hml hv
  obtain ⟨rfl, hB⟩ := hv
  have hx := B.exec
  have hb := B.bytes
  have hr := B.returns
  have hts := atoms_spec (ws := wsX0_settle) B.pre
  have hown : s.vm.findClass RX0 = some m.cls := findClass_of_methodNamed B.named
  have hlocks := B.notSynchronized
  have hK := hB.1
  obtain ⟨fl, f2, h0, h1, h2, h3, h4⟩ := hB.2
  have hS : va_S (iv a (a + 3)) s.heap s.heap [] := va_S.rf
  have hl := lv_entry ([.ref a, .int (nI u), .int ch]) (n := 3) (Nat.le_of_ble_eq_true rfl)
  rw [lg_entry_eq]
  generalize (lg_sl ([.ref a, .int (nI u), .int ch]) ++ List.replicate (3 - (lg_sl ([.ref a, .int (nI u), .int ch])).length) Slot.unset).toArray = ls at hl ⊢
  have hl : lv_has ls 3 [(0, .ref a), (1, .int (nI u)), (2, .int ch)] := hl
  rcases hcase with ⟨rfl, e1, e2⟩ | ⟨cc0, hc0, rfl, hfo, e1, e2⟩ | ⟨cc0, L0, hc0, hL0, rfl, hfo, e1, e2⟩
  · refine lv_iload_n hx hb dX0_settle_0 rfl (lv_at hl 2 rfl) ?_
    refine lv_if_lt (tgt := 10) hx hb dX0_settle_1 (by decide) (fun _ => ?_) (fun c1 => absurd (by decide) c1)
    exact r_retV hx hb hr hlocks hS (Gq_congr hB.2 (fun w hw => (e1 w hw).symm) (fun c hc => (e2 c hc).symm)) dX0_settle_10
  · refine lv_iload_n hx hb dX0_settle_0 rfl (lv_at hl 2 rfl) ?_
    refine lv_if_lt (tgt := 10) hx hb dX0_settle_1 (by decide) (fun c1 => absurd c1 (nI_pos (by omega))) (fun _ => ?_)
    refine lv_iload_n hx hb dX0_settle_4 rfl (lv_at hl 2 rfl) ?_
    refine lv_bipush (v := nI 10) hx hb dX0_settle_5 (by decide) ?_
    refine r_ltN hx hb (by omega) (by omega) dX0_settle_7 (tgt := 11) (by decide) (fun _ => ?_) (fun c3 => absurd hc0 (Nat.not_lt.mpr c3))
    refine lv_aload_n hx hb dX0_settle_11 rfl (lv_at hl 0 rfl) ?_
    refine r_get (C := RX0) (T := TX0) (N := 4) hx hb hts iiX0_settle_0 hown hK h0 rfl 3 (by decide) (hts (.fieldLink RX0 15 "HopMeet$Groups" "leaderOn" "[I") (List.mem_of_getElem? (i := 1) rfl)) rfl dX0_settle_12 ?_
    refine lv_iload_n hx hb dX0_settle_15 rfl (lv_at hl 2 rfl) ?_
    refine r_iald hx hb hK h2 rfl cc0 (by omega) (by decide) (v := (-1)) ((h4 cc0 hc0).trans hfo) dX0_settle_16 ?_
    refine lv_iconst (v := (-1)) hx hb dX0_settle_17 (by decide) ?_
    refine lv_icmp_ne (tgt := 31) hx hb dX0_settle_18 (by decide) (fun c2 => absurd rfl c2) (fun _ => ?_)
    refine lv_aload_n hx hb dX0_settle_21 rfl (lv_at hl 0 rfl) ?_
    refine r_get (C := RX0) (T := TX0) (N := 4) hx hb hts iiX0_settle_0 hown hK h0 rfl 3 (by decide) (hts (.fieldLink RX0 15 "HopMeet$Groups" "leaderOn" "[I") (List.mem_of_getElem? (i := 1) rfl)) rfl dX0_settle_22 ?_
    refine lv_iload_n hx hb dX0_settle_25 rfl (lv_at hl 2 rfl) ?_
    refine lv_iload_n hx hb dX0_settle_26 rfl (lv_at hl 1 rfl) ?_
    refine r_iast hx hb hK h2 ⟨by omega, by omega⟩ hS rfl cc0 (by omega) (by decide) dX0_settle_27 (fun H locs h2 hz9 hq hS => ?_)
    have h0 := at_kept h0 (hq _ (by omega))
    have h1 := at_kept h1 (hq _ (by omega))
    refine lv_goto (tgt := 42) hx hb dX0_settle_28 (by decide) ?_
    exact r_retV hx hb hr hlocks hS (Gq_congr (gr := gr) (fo := upd fo cc0 (nI u)) ⟨fl, upd f2 cc0 (nI u), h0, h1, h2, h3, fun c hc => up_cong h4 c hc⟩ (fun w hw => (e1 w hw).symm) (fun c hc => (e2 c hc).symm)) dX0_settle_42
  · refine lv_iload_n hx hb dX0_settle_0 rfl (lv_at hl 2 rfl) ?_
    refine lv_if_lt (tgt := 10) hx hb dX0_settle_1 (by decide) (fun c1 => absurd c1 (nI_pos (by omega))) (fun _ => ?_)
    refine lv_iload_n hx hb dX0_settle_4 rfl (lv_at hl 2 rfl) ?_
    refine lv_bipush (v := nI 10) hx hb dX0_settle_5 (by decide) ?_
    refine r_ltN hx hb (by omega) (by omega) dX0_settle_7 (tgt := 11) (by decide) (fun _ => ?_) (fun c3 => absurd hc0 (Nat.not_lt.mpr c3))
    refine lv_aload_n hx hb dX0_settle_11 rfl (lv_at hl 0 rfl) ?_
    refine r_get (C := RX0) (T := TX0) (N := 4) hx hb hts iiX0_settle_0 hown hK h0 rfl 3 (by decide) (hts (.fieldLink RX0 15 "HopMeet$Groups" "leaderOn" "[I") (List.mem_of_getElem? (i := 1) rfl)) rfl dX0_settle_12 ?_
    refine lv_iload_n hx hb dX0_settle_15 rfl (lv_at hl 2 rfl) ?_
    refine r_iald hx hb hK h2 rfl cc0 (by omega) (by decide) (v := nI L0) ((h4 cc0 hc0).trans hfo) dX0_settle_16 ?_
    refine lv_iconst (v := (-1)) hx hb dX0_settle_17 (by decide) ?_
    refine lv_icmp_ne (tgt := 31) hx hb dX0_settle_18 (by decide) (fun _ => ?_) (fun c2 => absurd c2 (nI_m1 (by omega)))
    refine lv_aload_n hx hb dX0_settle_31 rfl (lv_at hl 0 rfl) ?_
    refine lv_iload_n hx hb dX0_settle_32 rfl (lv_at hl 1 rfl) ?_
    refine lv_aload_n hx hb dX0_settle_33 rfl (lv_at hl 0 rfl) ?_
    refine r_get (C := RX0) (T := TX0) (N := 4) hx hb hts iiX0_settle_0 hown hK h0 rfl 3 (by decide) (hts (.fieldLink RX0 15 "HopMeet$Groups" "leaderOn" "[I") (List.mem_of_getElem? (i := 1) rfl)) rfl dX0_settle_34 ?_
    refine lv_iload_n hx hb dX0_settle_37 rfl (lv_at hl 2 rfl) ?_
    refine r_iald hx hb hK h2 rfl cc0 (by omega) (by decide) (v := nI L0) ((h4 cc0 hc0).trans hfo) dX0_settle_38 ?_
    refine r_mV (av := [.int (nI u), .int (nI L0)]) (c_X0_join l G t a gr sl k fo hg hk u L0 hu hL0) ⟨hx, hb, hml, hown, hts⟩ (cwV 2 hts gX0_settle_X0_join rfl rfl rfl (by decide +kernel) ⟨Nat.le_of_ble_eq_true rfl, Nat.le_of_ble_eq_true rfl⟩) mv_K hB (at_recv hK h0 rfl) rfl hl (Nat.le_of_ble_eq_true rfl) ⟨Nat.le_of_ble_eq_true rfl, Nat.le_of_ble_eq_true rfl⟩ rfl dX0_settle_39 hS (fun q h => h) (fun H locs hP hz9 hk hS => ?_)
    exact r_retV hx hb hr hlocks hS (Gq_congr hP (fun w hw => (e1 w hw).symm) (fun c hc => (e2 c hc).symm)) dX0_settle_42

set_option maxRecDepth 20000 in
theorem iiX0_runSlot_0 : ∀ w ∈ wsX00, w ∈ wsX0_runSlot := by decide +kernel
set_option maxRecDepth 20000 in
theorem iiX0_runSlot_2 : ∀ w ∈ wsX20, w ∈ wsX0_runSlot := by decide +kernel
set_option maxHeartbeats 4000000 in
set_option maxRecDepth 100000 in
/-- a slot is run -/
theorem c_X0_runSlot (l : Launch) (G : va_G) (t : gT) (a : Nat) (gr : Nat → Nat) (sl k : Nat) (z : Nat → Int32) (o : Nat) (hz : WF z) (hsep : a + 3 ≤ o ∨ o + 16 ≤ a) (hkz : k = cu z) (hsl : sl < 3000) (hg : ∀ u, gr u ≤ u) (hg2 : ∀ u, gr (gr u) = gr u) : Met l yX0_runSlot wsX0_runSlot ({ frames := 5, cells := 0, slots := 0, locals := 121 } : Room) (pc_ [.ref a, .ref o] (fun U H => KK G t U ∧ (Gp G t a gr sl k H ∧ Sc G t o z H))) (qv_ (fun H => Gp G t a (grS z gr sl) (sl + 1) k H) (iv a (a + 3))) 0 0 (iv a (a + 3)) := by
  refine Met.ofW (cc := cX0_runSlot) (maxL := 3) (ret := none) (by decide) rfl ?_
  intro p e s m args below meth c s₁ B hml hv
  obtain ⟨rfl, hB⟩ := hv
  have hx := B.exec
  have hb := B.bytes
  have hr := B.returns
  have hts := atoms_spec (ws := wsX0_runSlot) B.pre
  have hown : s.vm.findClass RX0 = some m.cls := findClass_of_methodNamed B.named
  have hlocks := B.notSynchronized
  have hK := hB.1
  have hSc := hB.2.2
  obtain ⟨fo, fl, f2, h0, h1, h2, h3, h4⟩ := hB.2.1
  have hu5 := hz.u5
  have hs0 := Sc_obj hSc
  have hS : va_S (iv a (a + 3)) s.heap s.heap [] := va_S.rf
  have hl := lv_entry ([.ref a, .ref o]) (n := 3) (Nat.le_of_ble_eq_true rfl)
  rw [lg_entry_eq]
  generalize (lg_sl ([.ref a, .ref o]) ++ List.replicate (3 - (lg_sl ([.ref a, .ref o])).length) Slot.unset).toArray = ls at hl ⊢
  have hl : lv_has ls 3 [(0, .ref a), (1, .ref o)] := hl
  refine lv_iconst (v := nI 0) hx hb dX0_runSlot_0 (by decide) ?_
  refine lv_istore_n (lv' := [(2, .int (nI 0)), (0, .ref a), (1, .ref o)]) hx hb dX0_runSlot_1 rfl hl (by decide) rfl (fun ls hl => ?_)
  have loop2 : ∀ (fu : Nat) (j : Nat) (f : Nat → Int32) (hj : j ≤ 10) (hf : ∀ c, c < j → f c = -1) (hfu : 10 - j < fu) (H : Heap) (locs : List Loc) (h0 : at_ G a (.inr (0, [.int (nI sl), .int (nI k), .ref (a + 1), .ref (a + 2)])) H) (h1 : at_ G (a + 1) (aI t 5 fl) H) (h2 : at_ G (a + 2) (aI t 10 f) H) (hSc : Sc G t o z H) (hS : va_S (iv a (a + 3)) s.heap H locs) (ls : Array Slot) (hl : lv_has ls 3 [(0, .ref a), (1, .ref o), (2, .int (nI j))]), W p l e (headSpec wsX0_runSlot ({ frames := 5, cells := 0, slots := 0, locals := 121 } : Room)).room s m ([.ref a, .ref o] : List Value).toArray below meth c H locs 0 0 (MQ below (qv_ (fun H => Gp G t a (grS z gr sl) (sl + 1) k H) (iv a (a + 3))) ([.ref a, .ref o] : List Value).toArray s 0 0 (iv a (a + 3))) (F0 m 2 ls []) := by
    intro fu
    induction fu with
    | zero => intro j f hj hf hfu; exact absurd hfu (Nat.not_lt_zero _)
    | succ fu2 ih2 =>
      intro j f hj hf hfu H locs h0 h1 h2 hSc hS ls hl
      refine lv_iload_n hx hb dX0_runSlot_2 rfl (lv_at hl 2 rfl) ?_
      refine lv_bipush (v := nI 10) hx hb dX0_runSlot_3 (by decide) ?_
      refine r_geN hx hb (by omega) (by omega) dX0_runSlot_5 (tgt := 21) (by decide) (fun c1 => ?_) (fun c1 => ?_)
      · refine lv_iconst (v := nI 0) hx hb dX0_runSlot_21 (by decide) ?_
        refine lv_istore_n (lv' := [(2, .int (nI 0)), (0, .ref a), (1, .ref o)]) hx hb dX0_runSlot_22 rfl hl (by decide) rfl (fun ls hl => ?_)
        have hG : Gq G t a (gI z gr sl 0) sl k (fI z gr sl 0) H := ⟨fl, f, h0, h1, h2, fun u hu => by rw [gI_0]; exact h3 u hu, fun c hc => by rw [fI_0]; exact hf c (by omega)⟩
        have loop23 : ∀ (fu : Nat) (i : Nat) (hi : i ≤ k) (hfu : k - i < fu) (H : Heap) (locs : List Loc)  (hSc : Sc G t o z H) (hG : Gq G t a (gI z gr sl i) sl k (fI z gr sl i) H) (hS : va_S (iv a (a + 3)) s.heap H locs) (ls : Array Slot) (hl : lv_has ls 3 [(0, .ref a), (1, .ref o), (2, .int (nI i))]), W p l e (headSpec wsX0_runSlot ({ frames := 5, cells := 0, slots := 0, locals := 121 } : Room)).room s m ([.ref a, .ref o] : List Value).toArray below meth c H locs 0 0 (MQ below (qv_ (fun H => Gp G t a (grS z gr sl) (sl + 1) k H) (iv a (a + 3))) ([.ref a, .ref o] : List Value).toArray s 0 0 (iv a (a + 3))) (F0 m 23 ls []) := by
          intro fu
          induction fu with
          | zero => intro i hi hfu; exact absurd hfu (Nat.not_lt_zero _)
          | succ fu23 ih23 =>
            intro i hi hfu H locs hSc hG hS ls hl
            obtain ⟨fl, f2, h0, h1, h2, h3, h4⟩ := id hG
            have hgb : ∀ w, w < k → gI z gr sl i w < 5 := fun w hw => by have q1 := gI_le z gr sl i w; have q2 := hg w; omega
            refine lv_iload_n hx hb dX0_runSlot_23 rfl (lv_at hl 2 rfl) ?_
            refine lv_aload_n hx hb dX0_runSlot_24 rfl (lv_at hl 0 rfl) ?_
            refine r_get (C := RX0) (T := TX0) (N := 4) hx hb hts iiX0_runSlot_0 hown hK h0 rfl 1 (by decide) (hts (.fieldLink RX0 22 "HopMeet$Groups" "userCount" "I") (List.mem_of_getElem? (i := 2) rfl)) rfl dX0_runSlot_25 ?_
            refine r_geN hx hb (by omega) (by omega) dX0_runSlot_28 (tgt := 61) (by decide) (fun c3 => ?_) (fun c3 => ?_)
            · refine lv_aload_n hx hb dX0_runSlot_61 rfl (lv_at hl 0 rfl) ?_
              refine lv_dup hx hb dX0_runSlot_62 rfl ?_
              refine r_get (C := RX0) (T := TX0) (N := 4) hx hb hts iiX0_runSlot_0 hown hK h0 rfl 0 (by decide) (hts (.fieldLink RX0 18 "HopMeet$Groups" "slotsRun" "I") (List.mem_of_getElem? (i := 4) rfl)) rfl dX0_runSlot_63 ?_
              refine lv_iconst (v := nI 1) hx hb dX0_runSlot_66 (by decide) ?_
              refine r_iaddN hx hb dX0_runSlot_67 ?_
              refine r_put (ty := .int) (ci := 0) (C := RX0) (T := TX0) (N := 4) (fs' := [.int (nI (sl + 1)), .int (nI k), .ref (a + 1), .ref (a + 2)]) hx hb hts iiX0_runSlot_0 tyX0 tyX0_ok nmX0 hown hK h0 ⟨by omega, by omega⟩ hS rfl 0 (by decide) (hts (.fieldLink RX0 18 "HopMeet$Groups" "slotsRun" "I") (List.mem_of_getElem? (i := 4) rfl)) rfl (by decide +kernel) rfl rfl (Nat.le_of_ble_eq_true rfl) rfl dX0_runSlot_68 (fun H locs h0 hz9 hq hS => ?_)
              have h1 := at_kept h1 (hq _ (by omega))
              have h2 := at_kept h2 (hq _ (by omega))
              have hSc := Sc_kept hSc (fun q h1 h2 => hq q (by omega))
              have hG := hG
              exact r_retV hx hb hr hlocks hS ⟨_, fl, f2, h0, h1, h2, fun u hu => by rw [h3 u hu, show i = k by omega, gI_end hg hu], h4⟩ dX0_runSlot_71
            · refine lv_aload_n hx hb dX0_runSlot_31 rfl (lv_at hl 0 rfl) ?_
              refine r_get (C := RX0) (T := TX0) (N := 4) hx hb hts iiX0_runSlot_0 hown hK h0 rfl 2 (by decide) (hts (.fieldLink RX0 9 "HopMeet$Groups" "least" "[I") (List.mem_of_getElem? (i := 3) rfl)) rfl dX0_runSlot_32 ?_
              refine lv_iload_n hx hb dX0_runSlot_35 rfl (lv_at hl 2 rfl) ?_
              refine r_iald hx hb hK h1 rfl i (by omega) (by decide) (v := nI (gI z gr sl i i)) (h3 i c3) dX0_runSlot_36 ?_
              refine lv_iload_n hx hb dX0_runSlot_37 rfl (lv_at hl 2 rfl) ?_
              refine r_neN hx hb (by have := hgb i c3; omega) (by omega) dX0_runSlot_38 (tgt := 55) (by decide) (fun c5 => ?_) (fun c5 => ?_)
              · have c4 : ¬ gr i = i := fun q => c5 ((gI_lead hg i).mpr q)
                refine lv_iinc (v := nI (i + 1)) (lv' := [(2, .int (nI (i + 1))), (0, .ref a), (1, .ref o)]) hx hb dX0_runSlot_55 hl (k := 2) rfl (nI_1 _) (by decide) rfl (fun ls hl => ?_)
                refine lv_goto (tgt := 23) hx hb dX0_runSlot_58 (by decide) ?_
                exact ih23 (i + 1) (by omega) (by omega) _ _ hSc (Gq_congr hG (fun w _ => ((slot_skip hg2 c4).1 w).symm) (fun c _ => ((slot_skip hg2 c4).2 c).symm)) hS ls (lv_sub hl [1, 2, 0] rfl)
              · have c4 : gr i = i := (gI_lead hg i).mp c5
                refine lv_aload_n hx hb dX0_runSlot_41 rfl (lv_at hl 0 rfl) ?_
                refine lv_iload_n hx hb dX0_runSlot_42 rfl (lv_at hl 2 rfl) ?_
                refine lv_aload_n hx hb dX0_runSlot_43 rfl (lv_at hl 1 rfl) ?_
                refine lv_iload_n hx hb dX0_runSlot_44 rfl (lv_at hl 2 rfl) ?_
                refine lv_aload_n hx hb dX0_runSlot_45 rfl (lv_at hl 0 rfl) ?_
                refine r_get (C := RX0) (T := TX0) (N := 4) hx hb hts iiX0_runSlot_0 hown hK h0 rfl 0 (by decide) (hts (.fieldLink RX0 18 "HopMeet$Groups" "slotsRun" "I") (List.mem_of_getElem? (i := 4) rfl)) rfl dX0_runSlot_46 ?_
                refine r_cV (av := [.int (nI i), .int (nI sl)]) (c_X2_place l G t o z hz i sl (by omega) (by omega)) ⟨hx, hb, hml, hown, hts⟩ (cwV 2 hts gX0_runSlot_X2_place rfl rfl rfl (by decide +kernel) ⟨Nat.le_of_ble_eq_true rfl, Nat.le_of_ble_eq_true rfl⟩) mv_K ⟨hK, hSc⟩ (at_recv hK (Sc_obj hSc) rfl) rfl hl (Nat.le_of_ble_eq_true rfl) ⟨Nat.le_of_ble_eq_true rfl, Nat.le_of_ble_eq_true rfl⟩ rfl dX0_runSlot_49 (fun r1 hr1 => ?_)
                subst hr1
                refine r_mV (av := [.int (nI i), .int (plC z i sl)]) (c_X0_settle l G t a (gI z gr sl i) sl k (fI z gr sl i) (fI z gr sl (i + 1)) (gI z gr sl (i + 1)) hgb (by omega) i (by omega) (plC z i sl) (slot_case hz (by omega) c4)) ⟨hx, hb, hml, hown, hts⟩ (cwV 2 hts gX0_runSlot_X0_settle rfl rfl rfl (by decide +kernel) ⟨Nat.le_of_ble_eq_true rfl, Nat.le_of_ble_eq_true rfl⟩) mv_K ⟨hK, hG⟩ (at_recv hK h0 rfl) rfl hl (Nat.le_of_ble_eq_true rfl) ⟨Nat.le_of_ble_eq_true rfl, Nat.le_of_ble_eq_true rfl⟩ rfl dX0_runSlot_52 hS (fun q h => h) (fun H locs hP hz9 hk hS => ?_)
                have hSc := Sc_keptA hSc hk (fun q h1 h2 => iv_no (by omega))
                have hG := hP
                refine lv_iinc (v := nI (i + 1)) (lv' := [(2, .int (nI (i + 1))), (0, .ref a), (1, .ref o)]) hx hb dX0_runSlot_55 hl (k := 2) rfl (nI_1 _) (by decide) rfl (fun ls hl => ?_)
                refine lv_goto (tgt := 23) hx hb dX0_runSlot_58 (by decide) ?_
                exact ih23 (i + 1) (by omega) (by omega) _ _ hSc hG hS ls (lv_sub hl [1, 2, 0] rfl)
        exact loop23 _ 0 (Nat.zero_le _) (Nat.lt_succ_self _) _ _ hSc hG hS ls (lv_sub hl [1, 2, 0] rfl)
      · refine lv_aload_n hx hb dX0_runSlot_8 rfl (lv_at hl 0 rfl) ?_
        refine r_get (C := RX0) (T := TX0) (N := 4) hx hb hts iiX0_runSlot_0 hown hK h0 rfl 3 (by decide) (hts (.fieldLink RX0 15 "HopMeet$Groups" "leaderOn" "[I") (List.mem_of_getElem? (i := 1) rfl)) rfl dX0_runSlot_9 ?_
        refine lv_iload_n hx hb dX0_runSlot_12 rfl (lv_at hl 2 rfl) ?_
        refine lv_iconst (v := (-1)) hx hb dX0_runSlot_13 (by decide) ?_
        refine r_iast hx hb hK h2 ⟨by omega, by omega⟩ hS rfl j (by omega) (by decide) dX0_runSlot_14 (fun H locs h2 hz9 hq hS => ?_)
        have h0 := at_kept h0 (hq _ (by omega))
        have h1 := at_kept h1 (hq _ (by omega))
        have hSc := Sc_kept hSc (fun q h1 h2 => hq q (by omega))
        refine lv_iinc (v := nI (j + 1)) (lv' := [(2, .int (nI (j + 1))), (0, .ref a), (1, .ref o)]) hx hb dX0_runSlot_15 hl (k := 2) rfl (nI_1 _) (by decide) rfl (fun ls hl => ?_)
        refine lv_goto (tgt := 2) hx hb dX0_runSlot_18 (by decide) ?_
        exact ih2 (j + 1) (upd f j (-1)) (by omega) (up_ext (g := fun _ => -1) hf rfl) (by omega) _ _ h0 h1 h2 hSc hS ls (lv_sub hl [1, 2, 0] rfl)
  exact loop2 _ 0 f2 (Nat.zero_le _) (fun u h => absurd h (Nat.not_lt_zero _)) (Nat.lt_succ_self _) _ _ h0 h1 h2 hSc hS ls (lv_sub hl [1, 2, 0] rfl)
