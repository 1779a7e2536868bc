/-! HopMeet: shifts, counts, runs (printed by wip/whole/m8.py) -/
set_option maxRecDepth 20000 in
theorem iiX3_slotsToMeet_3 : ∀ w ∈ wsX30, w ∈ wsX3_slotsToMeet := by decide +kernel
set_option maxHeartbeats 4000000 in
set_option maxRecDepth 100000 in
/-- how long till they meet, by a shift -/
theorem c_X3_slotsToMeet (l : Launch) (G : va_G) (t : gT) (b : Nat) (f1 f2 : Nat → Int32) (x : Nat) (hx0 : x ≤ 200) : Met l yX3_slotsToMeet wsX3_slotsToMeet ({ frames := 0, cells := 0, slots := 0, locals := 0 } : Room) (pc_ [.ref b, .int (nI x)] (fun U H => KK G t U ∧ (at_ G b (.inr (3, [.ref (b + 1), .ref (b + 17), .ref (b + 211), .ref (b + 244), .ref (b + 245), .ref (b + 248), .ref (b + 249), .ref (b + 250)])) H ∧ (at_ G (b + 248) (aI t 1700 f1) H ∧ at_ G (b + 249) (aI t 1500 f2) H)))) (vp_Si (fun r => r = nI (smM f1 f2 x))) 0 0 (fun _ => False) := by
  refine Met.ofW (cc := cX3_slotsToMeet) (maxL := 4) (ret := (some .int)) (by decide) rfl ?_
  intro p e s m args below meth c s₁ B hml hv
  obtain ⟨rfl, hB⟩ := hv
  have hx := B.exec
  have hb := B.bytes
  have hr := B.returns
  have hts := atoms_spec (ws := wsX3_slotsToMeet) B.pre
  have hown : s.vm.findClass RX3 = some m.cls := findClass_of_methodNamed B.named
  have hlocks := B.notSynchronized
  have hK := hB.1
  obtain ⟨x0, h1, h2⟩ := hB.2
  have hl := lv_entry ([.ref b, .int (nI x)]) (n := 4) (Nat.le_of_ble_eq_true rfl)
  rw [lg_entry_eq]
  generalize (lg_sl ([.ref b, .int (nI x)]) ++ List.replicate (4 - (lg_sl ([.ref b, .int (nI x)])).length) Slot.unset).toArray = ls at hl ⊢
  have hl : lv_has ls 4 [(0, .ref b), (1, .int (nI x))] := hl
  refine lv_iconst (v := nI 0) hx hb dX3_slotsToMeet_0 (by decide) ?_
  refine lv_istore_n (lv' := [(2, .int (nI 0)), (0, .ref b), (1, .int (nI x))]) hx hb dX3_slotsToMeet_1 rfl hl (by decide) rfl (fun ls hl => ?_)
  have loop2 : ∀ (fu : Nat) (i : Nat) (hi : i ≤ 1500) (hp : ∀ j, j < i → smP f1 f2 x j = false) (hfu : 1500 - i < fu) (ls : Array Slot) (hl : lv_has ls 4 [(0, .ref b), (1, .int (nI x)), (2, .int (nI i))]), W p l e (headSpec wsX3_slotsToMeet ({ frames := 0, cells := 0, slots := 0, locals := 0 } : Room)).room s m ([.ref b, .int (nI x)] : List Value).toArray below meth c s.heap [] 0 0 (MQ below (vp_Si (fun r => r = nI (smM f1 f2 x))) ([.ref b, .int (nI x)] : List Value).toArray s 0 0 (fun _ => False)) (F0 m 2 ls []) := by
    intro fu
    induction fu with
    | zero => intro i hi hp hfu; exact absurd hfu (Nat.not_lt_zero _)
    | succ fu2 ih2 =>
      intro i hi hp hfu ls hl
      refine lv_iload_n hx hb dX3_slotsToMeet_2 rfl (lv_at hl 2 rfl) ?_
      refine lv_sipush (v := nI 1500) hx hb dX3_slotsToMeet_3 (by decide) ?_
      refine r_geN hx hb (by omega) (by omega) dX3_slotsToMeet_6 (tgt := 41) (by decide) (fun c1 => ?_) (fun c1 => ?_)
      · refine lv_ldc (v := (99999)) hx hb hown (hts (.constant RX3 191 (99999)) (List.mem_of_getElem? (i := 3) rfl)) dX3_slotsToMeet_41 ?_
        refine r_top (y := nI 99999) rfl ?_
        exact r_retS (v := nI 99999) hx hb hr hlocks (by unfold smM; rw [fi_none (fun j hj => hp j (by omega))]; rfl) dX3_slotsToMeet_43
      · refine lv_aload_n hx hb dX3_slotsToMeet_9 rfl (lv_at hl 0 rfl) ?_
        refine r_get (C := RX3) (T := TX3) (N := 8) hx hb hts iiX3_slotsToMeet_3 hown hK x0 rfl 6 (by decide) (hts (.fieldLink RX3 42 "HopMeet" "placesOfSecond" "[I") (List.mem_of_getElem? (i := 1) rfl)) rfl dX3_slotsToMeet_10 ?_
        refine lv_iload_n hx hb dX3_slotsToMeet_13 rfl (lv_at hl 2 rfl) ?_
        refine r_iald hx hb hK h2 rfl i (by omega) (by decide) (v := f2 i) rfl dX3_slotsToMeet_14 ?_
        refine lv_istore_n (lv' := [(3, .int (f2 i)), (0, .ref b), (1, .int (nI x)), (2, .int (nI i))]) hx hb dX3_slotsToMeet_15 rfl hl (by decide) rfl (fun ls hl => ?_)
        refine lv_iload_n hx hb dX3_slotsToMeet_16 rfl (lv_at hl 0 rfl) ?_
        refine lv_iconst (v := (-1)) hx hb dX3_slotsToMeet_17 (by decide) ?_
        refine lv_icmp_eq (tgt := 35) hx hb dX3_slotsToMeet_18 (by decide) (fun c2 => ?_) (fun c2 => ?_)
        · refine lv_iinc (v := nI (i + 1)) (lv' := [(2, .int (nI (i + 1))), (3, .int (f2 i)), (0, .ref b), (1, .int (nI x))]) hx hb dX3_slotsToMeet_35 hl (k := 3) rfl (nI_1 _) (by decide) rfl (fun ls hl => ?_)
          refine lv_goto (tgt := 2) hx hb dX3_slotsToMeet_38 (by decide) ?_
          exact ih2 (i + 1) (by omega) (lt_s hp (decide_eq_false (fun q => by first | exact q.1 c2 | exact c3 q.2))) (by omega) ls (lv_sub hl [2, 3, 0] rfl)
        · refine lv_iload_n hx hb dX3_slotsToMeet_21 rfl (lv_at hl 0 rfl) ?_
          refine lv_aload_n hx hb dX3_slotsToMeet_22 rfl (lv_at hl 1 rfl) ?_
          refine r_get (C := RX3) (T := TX3) (N := 8) hx hb hts iiX3_slotsToMeet_3 hown hK x0 rfl 5 (by decide) (hts (.fieldLink RX3 38 "HopMeet" "placesOfFirst" "[I") (List.mem_of_getElem? (i := 2) rfl)) rfl dX3_slotsToMeet_23 ?_
          refine lv_iload_n hx hb dX3_slotsToMeet_26 rfl (lv_at hl 3 rfl) ?_
          refine lv_iload_n hx hb dX3_slotsToMeet_27 rfl (lv_at hl 2 rfl) ?_
          refine r_iaddN hx hb dX3_slotsToMeet_28 ?_
          refine r_iald hx hb hK h1 rfl (i + x) (by omega) (by decide) (v := f1 (i + x)) rfl dX3_slotsToMeet_29 ?_
          refine lv_icmp_ne (tgt := 35) hx hb dX3_slotsToMeet_30 (by decide) (fun c3 => ?_) (fun c3 => ?_)
          · refine lv_iinc (v := nI (i + 1)) (lv' := [(2, .int (nI (i + 1))), (3, .int (f2 i)), (0, .ref b), (1, .int (nI x))]) hx hb dX3_slotsToMeet_35 hl (k := 3) rfl (nI_1 _) (by decide) rfl (fun ls hl => ?_)
            refine lv_goto (tgt := 2) hx hb dX3_slotsToMeet_38 (by decide) ?_
            exact ih2 (i + 1) (by omega) (lt_s hp (decide_eq_false (fun q => by first | exact q.1 c2 | exact c3 q.2))) (by omega) ls (lv_sub hl [2, 3, 0] rfl)
          · refine lv_iload_n hx hb dX3_slotsToMeet_33 rfl (lv_at hl 3 rfl) ?_
            exact r_retS (v := nI i) hx hb hr hlocks (by unfold smM; rw [fi_eq hp (decide_eq_true ⟨c2, c3⟩) c1, if_neg (by omega)]) dX3_slotsToMeet_34
  exact loop2 _ 0 (Nat.zero_le _) (fun j h => absurd h (Nat.not_lt_zero _)) (Nat.lt_succ_self _) ls (lv_sub hl [1, 2, 0] rfl)

set_option maxRecDepth 20000 in
theorem iiX3_worstOfShifts_3 : ∀ w ∈ wsX30, w ∈ wsX3_worstOfShifts := by decide +kernel
set_option maxRecDepth 20000 in
theorem iiX3_worstOfShifts_2 : ∀ w ∈ wsX20, w ∈ wsX3_worstOfShifts := by decide +kernel
set_option maxHeartbeats 4000000 in
set_option maxRecDepth 100000 in
/-- the worst of all shifts -/
theorem c_X3_worstOfShifts (l : Launch) (G : va_G) (t : gT) (b : Nat) (z : Nat → Int32) (gr : Nat → Nat) (sl bc : Nat) (bk : Nat → Nat → Int32) (kp : Nat → Bool) (im : Nat → Nat → Int32) (hz : WF z) (k k2 d0 : Nat) (hk0 : k < cu z) (hk2 : k2 < cu z) (hd : d0 ≤ 200) : Met l yX3_worstOfShifts wsX3_worstOfShifts ({ frames := 4, cells := 0, slots := 0, locals := 97 } : Room) (pc_ [.ref b, .int (nI k), .int (nI k2), .int (nI d0)] (fun U H => KK G t U ∧ PX G t b (z, gr, sl, bc, bk, kp, im) H)) (qi_ (fun r H => r = nI (wsN z k k2 (d0 + 1)) ∧ PX G t b (z, gr, sl, bc, bk, kp, im) H) (iv b (b + 251))) 0 0 (iv b (b + 251)) := by
  refine Met.ofW (cc := cX3_worstOfShifts) (maxL := 6) (ret := (some .int)) (by decide) rfl ?_
  intro p e s m args below meth c s₁ B hml hv
  obtain ⟨rfl, hB⟩ := hv
  have hx := B.exec
  have hb := B.bytes
  have hr := B.returns
  have hts := atoms_spec (ws := wsX3_worstOfShifts) B.pre
  have hown : s.vm.findClass RX3 = some m.cls := findClass_of_methodNamed B.named
  have hlocks := B.notSynchronized
  have hK := hB.1
  obtain ⟨x0, x1, x2, ⟨x3, jm, x4, x5⟩, x6, x7, x8, x9, x10⟩ := hB.2
  have y0 := Sc_obj x1
  have y1 := (Sc_rows x1).1
  obtain ⟨fo, fl, f2, g0, g1, g2, g3, g4⟩ := id x7
  obtain ⟨nx, p0⟩ := Pa_obj x2
  have hn := hz.n
  have hu5 := hz.u5
  have hs8 := hz.s8
  obtain ⟨f1, h8⟩ := x8
  obtain ⟨f2, h9⟩ := x9
  have hS : va_S (iv b (b + 251)) s.heap s.heap [] := va_S.rf
  have hl := lv_entry ([.ref b, .int (nI k), .int (nI k2), .int (nI d0)]) (n := 6) (Nat.le_of_ble_eq_true rfl)
  rw [lg_entry_eq]
  generalize (lg_sl ([.ref b, .int (nI k), .int (nI k2), .int (nI d0)]) ++ List.replicate (6 - (lg_sl ([.ref b, .int (nI k), .int (nI k2), .int (nI d0)])).length) Slot.unset).toArray = ls at hl ⊢
  have hl : lv_has ls 6 [(0, .ref b), (1, .int (nI k)), (2, .int (nI k2)), (3, .int (nI d0))] := hl
  refine lv_iconst (v := nI 0) hx hb dX3_worstOfShifts_0 (by decide) ?_
  refine lv_istore (lv' := [(4, .int (nI 0)), (0, .ref b), (1, .int (nI k)), (2, .int (nI k2)), (3, .int (nI d0))]) hx hb dX3_worstOfShifts_1 hl (by decide) rfl (fun ls hl => ?_)
  have loop3 : ∀ (fu : Nat) (i : Nat) (f : Nat → Int32) (hi : i ≤ 1500 + d0) (hf : ∀ y, y < i → f y = plN z k y) (hfu : 1500 + d0 - i < fu) (H : Heap) (locs : List Loc) (x0 : at_ G b (.inr (3, [.ref (b + 1), .ref (b + 17), .ref (b + 211), .ref (b + 244), .ref (b + 245), .ref (b + 248), .ref (b + 249), .ref (b + 250)])) H) (y0 : at_ G (b + 1) (.inr (2, [.int (nI (cn z)), .int (nI (prN (cn z))), .int (nI (cu z)), .int (nI (cs z)), .ref (b + 1 + 1), .ref (b + 1 + 7)])) H) (y1 : at_ G (b + 1 + 1) (aR t 5 (rowsF 5 (b + 1 + 2))) H) (g0 : at_ G (b + 245) (.inr (0, [.int (nI sl), .int (nI (cu z)), .ref (b + 245 + 1), .ref (b + 245 + 2)])) H) (g1 : at_ G (b + 245 + 1) (aI t 5 fl) H) (p0 : at_ G (b + 17) (.inr (1, [.ref (b + 17 + 1), .int (nI nx), .int (nI bc)])) H) (x6 : at_ G (b + 244) (aZ t 2 (fun i => bI (kp i))) H) (x3 : at_ G (b + 211) (aQ t 2 (rowsG 2 (b + 212))) H) (h8 : at_ G (b + 248) (aI t 1700 f) H) (h9 : at_ G (b + 249) (aI t 1500 f2) H) (x1 : Sc G t (b + 1) z H) (x2 : Pa G t (b + 17) bc bk H) (x4 : ∀ i, i < 2 → Sc G t (b + 212 + 16 * i) (jm i) H) (x7 : Gp G t (b + 245) gr sl (cu z) H) (x10 : ∃ f, at_ G (b + 250) (aI t 10 f) H) (hS : va_S (iv b (b + 251)) s.heap H locs) (ls : Array Slot) (hl : lv_has ls 6 [(0, .ref b), (1, .int (nI k)), (2, .int (nI k2)), (3, .int (nI d0)), (4, .int (nI i))]), W p l e (headSpec wsX3_worstOfShifts ({ frames := 4, cells := 0, slots := 0, locals := 97 } : Room)).room s m ([.ref b, .int (nI k), .int (nI k2), .int (nI d0)] : List Value).toArray below meth c H locs 0 0 (MQ below (qi_ (fun r H => r = nI (wsN z k k2 (d0 + 1)) ∧ PX G t b (z, gr, sl, bc, bk, kp, im) H) (iv b (b + 251))) ([.ref b, .int (nI k), .int (nI k2), .int (nI d0)] : List Value).toArray s 0 0 (iv b (b + 251))) (F0 m 3 ls []) := by
    intro fu
    induction fu with
    | zero => intro i f hi hf hfu; exact absurd hfu (Nat.not_lt_zero _)
    | succ fu3 ih3 =>
      intro i f hi hf hfu H locs x0 y0 y1 g0 g1 p0 x6 x3 h8 h9 x1 x2 x4 x7 x10 hS ls hl
      refine lv_iload hx hb dX3_worstOfShifts_3 (lv_at hl 4 rfl) ?_
      refine lv_sipush (v := nI 1500) hx hb dX3_worstOfShifts_5 (by decide) ?_
      refine lv_iload_n hx hb dX3_worstOfShifts_8 rfl (lv_at hl 3 rfl) ?_
      refine r_iaddN hx hb dX3_worstOfShifts_9 ?_
      refine r_geN hx hb (by omega) (by omega) dX3_worstOfShifts_10 (tgt := 36) (by decide) (fun c1 => ?_) (fun c1 => ?_)
      · refine lv_iconst (v := nI 0) hx hb dX3_worstOfShifts_36 (by decide) ?_
        refine lv_istore (lv' := [(4, .int (nI 0)), (0, .ref b), (1, .int (nI k)), (2, .int (nI k2)), (3, .int (nI d0))]) hx hb dX3_worstOfShifts_37 hl (by decide) rfl (fun ls hl => ?_)
        have loop39 : ∀ (fu : Nat) (i : Nat) (g : Nat → Int32) (hi : i ≤ 1500) (hg : ∀ y, y < i → g y = plN z k2 y) (hfu : 1500 - i < fu) (H : Heap) (locs : List Loc) (x0 : at_ G b (.inr (3, [.ref (b + 1), .ref (b + 17), .ref (b + 211), .ref (b + 244), .ref (b + 245), .ref (b + 248), .ref (b + 249), .ref (b + 250)])) H) (y0 : at_ G (b + 1) (.inr (2, [.int (nI (cn z)), .int (nI (prN (cn z))), .int (nI (cu z)), .int (nI (cs z)), .ref (b + 1 + 1), .ref (b + 1 + 7)])) H) (y1 : at_ G (b + 1 + 1) (aR t 5 (rowsF 5 (b + 1 + 2))) H) (g0 : at_ G (b + 245) (.inr (0, [.int (nI sl), .int (nI (cu z)), .ref (b + 245 + 1), .ref (b + 245 + 2)])) H) (g1 : at_ G (b + 245 + 1) (aI t 5 fl) H) (p0 : at_ G (b + 17) (.inr (1, [.ref (b + 17 + 1), .int (nI nx), .int (nI bc)])) H) (x6 : at_ G (b + 244) (aZ t 2 (fun i => bI (kp i))) H) (x3 : at_ G (b + 211) (aQ t 2 (rowsG 2 (b + 212))) H) (h8 : at_ G (b + 248) (aI t 1700 f) H) (h9 : at_ G (b + 249) (aI t 1500 g) H) (x1 : Sc G t (b + 1) z H) (x2 : Pa G t (b + 17) bc bk H) (x4 : ∀ i, i < 2 → Sc G t (b + 212 + 16 * i) (jm i) H) (x7 : Gp G t (b + 245) gr sl (cu z) H) (x10 : ∃ f, at_ G (b + 250) (aI t 10 f) H) (hS : va_S (iv b (b + 251)) s.heap H locs) (ls : Array Slot) (hl : lv_has ls 6 [(0, .ref b), (1, .int (nI k)), (2, .int (nI k2)), (3, .int (nI d0)), (4, .int (nI i))]), W p l e (headSpec wsX3_worstOfShifts ({ frames := 4, cells := 0, slots := 0, locals := 97 } : Room)).room s m ([.ref b, .int (nI k), .int (nI k2), .int (nI d0)] : List Value).toArray below meth c H locs 0 0 (MQ below (qi_ (fun r H => r = nI (wsN z k k2 (d0 + 1)) ∧ PX G t b (z, gr, sl, bc, bk, kp, im) H) (iv b (b + 251))) ([.ref b, .int (nI k), .int (nI k2), .int (nI d0)] : List Value).toArray s 0 0 (iv b (b + 251))) (F0 m 39 ls []) := by
          intro fu
          induction fu with
          | zero => intro i g hi hg hfu; exact absurd hfu (Nat.not_lt_zero _)
          | succ fu39 ih39 =>
            intro i g hi hg hfu H locs x0 y0 y1 g0 g1 p0 x6 x3 h8 h9 x1 x2 x4 x7 x10 hS ls hl
            refine lv_iload hx hb dX3_worstOfShifts_39 (lv_at hl 4 rfl) ?_
            refine lv_sipush (v := nI 1500) hx hb dX3_worstOfShifts_41 (by decide) ?_
            refine r_geN hx hb (by omega) (by omega) dX3_worstOfShifts_44 (tgt := 70) (by decide) (fun c2 => ?_) (fun c2 => ?_)
            · have hf8 : ∀ y, y < 1500 + d0 → f y = plN z k y := fun y hy => hf y (by omega)
              have hg8 : ∀ y, y < 1500 → g y = plN z k2 y := fun y hy => hg y (by omega)
              refine lv_iconst (v := nI 0) hx hb dX3_worstOfShifts_70 (by decide) ?_
              refine lv_istore (lv' := [(4, .int (nI 0)), (0, .ref b), (1, .int (nI k)), (2, .int (nI k2)), (3, .int (nI d0))]) hx hb dX3_worstOfShifts_71 hl (by decide) rfl (fun ls hl => ?_)
              refine lv_iconst (v := nI 0) hx hb dX3_worstOfShifts_73 (by decide) ?_
              refine lv_istore (lv' := [(5, .int (nI 0)), (4, .int (nI 0)), (0, .ref b), (1, .int (nI k)), (2, .int (nI k2)), (3, .int (nI d0))]) hx hb dX3_worstOfShifts_74 hl (by decide) rfl (fun ls hl => ?_)
              have loop76 : ∀ (fu : Nat) (x : Nat) (hx8 : x ≤ d0 + 1) (hfu : d0 + 1 - x < fu) (ls : Array Slot) (hl : lv_has ls 6 [(0, .ref b), (3, .int (nI d0)), (4, .int (nI (wsN z k k2 x))), (5, .int (nI x))]), W p l e (headSpec wsX3_worstOfShifts ({ frames := 4, cells := 0, slots := 0, locals := 97 } : Room)).room s m ([.ref b, .int (nI k), .int (nI k2), .int (nI d0)] : List Value).toArray below meth c H locs 0 0 (MQ below (qi_ (fun r H => r = nI (wsN z k k2 (d0 + 1)) ∧ PX G t b (z, gr, sl, bc, bk, kp, im) H) (iv b (b + 251))) ([.ref b, .int (nI k), .int (nI k2), .int (nI d0)] : List Value).toArray s 0 0 (iv b (b + 251))) (F0 m 76 ls []) := by
                intro fu
                induction fu with
                | zero => intro x hx8 hfu; exact absurd hfu (Nat.not_lt_zero _)
                | succ fu76 ih76 =>
                  intro x hx8 hfu ls hl
                  have hw1 := wsN_le z k k2 x
                  have hw2 := wsM_le z k k2 x
                  refine lv_iload hx hb dX3_worstOfShifts_76 (lv_at hl 3 rfl) ?_
                  refine lv_iload_n hx hb dX3_worstOfShifts_78 rfl (lv_at hl 1 rfl) ?_
                  refine r_gtN hx hb (by omega) (by omega) dX3_worstOfShifts_79 (tgt := 108) (by decide) (fun c3 => ?_) (fun c3 => ?_)
                  · refine lv_iload hx hb dX3_worstOfShifts_108 (lv_at hl 2 rfl) ?_
                    exact r_retI (v := nI (wsN z k k2 x)) hx hb hr hlocks hS ⟨congrArg nI (by first | rw [show x = d0 + 1 by omega] | rw [wsN_top c4 (d0 + 1) (by omega), wsN_top c4 x (Nat.le_refl _)]), PX_mk x0 x1 x2 x3 x4 x5 x6 x7 ⟨f, h8⟩ ⟨g, h9⟩ x10⟩ dX3_worstOfShifts_110
                  · refine lv_iload hx hb dX3_worstOfShifts_82 (lv_at hl 2 rfl) ?_
                    refine lv_ldc (v := (99999)) hx hb hown (hts (.constant RX3 191 (99999)) (List.mem_of_getElem? (i := 4) rfl)) dX3_worstOfShifts_84 ?_
                    refine r_top (y := nI 99999) rfl ?_
                    refine r_geN hx hb (by omega) (by omega) dX3_worstOfShifts_86 (tgt := 108) (by decide) (fun c4 => ?_) (fun c4 => ?_)
                    · refine lv_iload hx hb dX3_worstOfShifts_108 (lv_at hl 2 rfl) ?_
                      exact r_retI (v := nI (wsN z k k2 x)) hx hb hr hlocks hS ⟨congrArg nI (by first | rw [show x = d0 + 1 by omega] | rw [wsN_top c4 (d0 + 1) (by omega), wsN_top c4 x (Nat.le_refl _)]), PX_mk x0 x1 x2 x3 x4 x5 x6 x7 ⟨f, h8⟩ ⟨g, h9⟩ x10⟩ dX3_worstOfShifts_110
                    · refine lv_iload hx hb dX3_worstOfShifts_89 (lv_at hl 2 rfl) ?_
                      refine lv_aload_n hx hb dX3_worstOfShifts_91 rfl (lv_at hl 0 rfl) ?_
                      refine lv_iload hx hb dX3_worstOfShifts_92 (lv_at hl 3 rfl) ?_
                      refine r_cV (av := [.int (nI x)]) (c_X3_slotsToMeet l G t b f g x (by omega)) ⟨hx, hb, hml, hown, hts⟩ (cwV 1 hts gX3_worstOfShifts_X3_slotsToMeet rfl rfl rfl (by decide +kernel) ⟨Nat.le_of_ble_eq_true rfl, Nat.le_of_ble_eq_true rfl⟩) mv_K ⟨hK, x0, h8, h9⟩ (at_recv hK x0 rfl) rfl hl (Nat.le_of_ble_eq_true rfl) ⟨Nat.le_of_ble_eq_true rfl, Nat.le_of_ble_eq_true rfl⟩ rfl dX3_worstOfShifts_94 (fun r1 hr1 => ?_)
                      subst hr1
                      refine r_top (y := nI (wsM z k k2 x)) (congrArg nI (sm_ws hf8 hg8 (by omega))) ?_
                      refine va_mmax hx hb (by rw [hml]; exact hl.1.symm) hown (hts (.methodLink RX3 168 Lib.Math.max.name) (List.mem_of_getElem? (i := 5) rfl)) (hts (.static Lib.Math.max.name) (List.mem_of_getElem? (i := 6) rfl)) (hts (.initialized "java/lang/Math") (List.mem_of_getElem? (i := 7) rfl)) (hts (.code Lib.Math.max.name Lib.Math.max.code 2 (some .int)) (List.mem_of_getElem? (i := 8) rfl)) (Nat.le_of_ble_eq_true rfl) (Nat.le_of_ble_eq_true rfl) (Nat.le_of_ble_eq_true rfl) (Nat.le_of_ble_eq_true rfl) dX3_worstOfShifts_97 ?_
                      refine r_top (y := nI (wsN z k k2 (x + 1))) (max_N (by omega) (by omega)) ?_
                      refine lv_istore (lv' := [(4, .int (nI (wsN z k k2 (x + 1)))), (0, .ref b), (3, .int (nI d0)), (5, .int (nI x))]) hx hb dX3_worstOfShifts_100 hl (by decide) rfl (fun ls hl => ?_)
                      refine lv_iinc (v := nI (x + 1)) (lv' := [(5, .int (nI (x + 1))), (4, .int (nI (wsN z k k2 (x + 1)))), (0, .ref b), (3, .int (nI d0))]) hx hb dX3_worstOfShifts_102 hl (k := 3) rfl (nI_1 _) (by decide) rfl (fun ls hl => ?_)
                      refine lv_goto (tgt := 76) hx hb dX3_worstOfShifts_105 (by decide) ?_
                      exact ih76 (x + 1) (by omega) (by omega) ls (lv_sub hl [2, 3, 1, 0] rfl)
              exact loop76 _ 0 (Nat.zero_le _) (Nat.lt_succ_self _) ls (lv_sub hl [2, 5, 1, 0] rfl)
            · refine lv_aload_n hx hb dX3_worstOfShifts_47 rfl (lv_at hl 0 rfl) ?_
              refine r_get (C := RX3) (T := TX3) (N := 8) hx hb hts iiX3_worstOfShifts_3 hown hK x0 rfl 6 (by decide) (hts (.fieldLink RX3 42 "HopMeet" "placesOfSecond" "[I") (List.mem_of_getElem? (i := 3) rfl)) rfl dX3_worstOfShifts_48 ?_
              refine lv_iload hx hb dX3_worstOfShifts_51 (lv_at hl 4 rfl) ?_
              refine lv_aload_n hx hb dX3_worstOfShifts_53 rfl (lv_at hl 0 rfl) ?_
              refine r_get (C := RX3) (T := TX3) (N := 8) hx hb hts iiX3_worstOfShifts_3 hown hK x0 rfl 0 (by decide) (hts (.fieldLink RX3 10 "HopMeet" "now" "LHopMeet$Scene;") (List.mem_of_getElem? (i := 2) rfl)) rfl dX3_worstOfShifts_54 ?_
              refine lv_iload_n hx hb dX3_worstOfShifts_57 rfl (lv_at hl 2 rfl) ?_
              refine lv_iload hx hb dX3_worstOfShifts_58 (lv_at hl 4 rfl) ?_
              refine r_cV (av := [.int (nI k2), .int (nI i)]) (c_X2_placeByClock l G t (b + 1) z hz k2 i hk2 (by omega)) ⟨hx, hb, hml, hown, hts⟩ (cwV 2 hts gX3_worstOfShifts_X2_placeByClock rfl rfl rfl (by decide +kernel) ⟨Nat.le_of_ble_eq_true rfl, Nat.le_of_ble_eq_true rfl⟩) mv_K ⟨hK, x1⟩ (at_recv hK y0 rfl) rfl hl (Nat.le_of_ble_eq_true rfl) ⟨Nat.le_of_ble_eq_true rfl, Nat.le_of_ble_eq_true rfl⟩ rfl dX3_worstOfShifts_60 (fun r2 hr2 => ?_)
              subst hr2
              refine r_iast hx hb hK h9 ⟨by omega, by omega⟩ hS rfl i (by omega) (by decide) dX3_worstOfShifts_63 (fun H locs h9 hz9 hq hS => ?_)
              have x0 := at_kept x0 (hq _ (by omega))
              have y0 := at_kept y0 (hq _ (by omega))
              have y1 := at_kept y1 (hq _ (by omega))
              have g0 := at_kept g0 (hq _ (by omega))
              have g1 := at_kept g1 (hq _ (by omega))
              have p0 := at_kept p0 (hq _ (by omega))
              have x6 := at_kept x6 (hq _ (by omega))
              have x3 := at_kept x3 (hq _ (by omega))
              have h8 := at_kept h8 (hq _ (by omega))
              have x1 := Sc_kept x1 (fun q h8 h9 => hq q (by omega))
              have x2 := Pa_kept x2 (fun q h8 h9 => hq q (by omega))
              have x4 := fun i hi => Sc_kept (x4 i hi) (fun q h8 h9 => hq q (by omega))
              have x7 := Gp_kept x7 (fun q h8 h9 => hq q (by omega))
              have x10 := ex_kept x10 (hq _ (by omega))
              refine lv_iinc (v := nI (i + 1)) (lv' := [(4, .int (nI (i + 1))), (0, .ref b), (1, .int (nI k)), (2, .int (nI k2)), (3, .int (nI d0))]) hx hb dX3_worstOfShifts_64 hl (k := 4) rfl (nI_1 _) (by decide) rfl (fun ls hl => ?_)
              refine lv_goto (tgt := 39) hx hb dX3_worstOfShifts_67 (by decide) ?_
              exact ih39 (i + 1) (upd g i (plN z k2 i)) (by omega) (up_ext hg rfl) (by omega) _ _ x0 y0 y1 g0 g1 p0 x6 x3 h8 h9 x1 x2 x4 x7 x10 hS ls (lv_sub hl [1, 2, 3, 4, 0] rfl)
        exact loop39 _ 0 f2 (Nat.zero_le _) (fun j h => absurd h (Nat.not_lt_zero _)) (Nat.lt_succ_self _) _ _ x0 y0 y1 g0 g1 p0 x6 x3 h8 h9 x1 x2 x4 x7 x10 hS ls (lv_sub hl [1, 2, 3, 4, 0] rfl)
      · refine lv_aload_n hx hb dX3_worstOfShifts_13 rfl (lv_at hl 0 rfl) ?_
        refine r_get (C := RX3) (T := TX3) (N := 8) hx hb hts iiX3_worstOfShifts_3 hown hK x0 rfl 5 (by decide) (hts (.fieldLink RX3 38 "HopMeet" "placesOfFirst" "[I") (List.mem_of_getElem? (i := 1) rfl)) rfl dX3_worstOfShifts_14 ?_
        refine lv_iload hx hb dX3_worstOfShifts_17 (lv_at hl 4 rfl) ?_
        refine lv_aload_n hx hb dX3_worstOfShifts_19 rfl (lv_at hl 0 rfl) ?_
        refine r_get (C := RX3) (T := TX3) (N := 8) hx hb hts iiX3_worstOfShifts_3 hown hK x0 rfl 0 (by decide) (hts (.fieldLink RX3 10 "HopMeet" "now" "LHopMeet$Scene;") (List.mem_of_getElem? (i := 2) rfl)) rfl dX3_worstOfShifts_20 ?_
        refine lv_iload_n hx hb dX3_worstOfShifts_23 rfl (lv_at hl 1 rfl) ?_
        refine lv_iload hx hb dX3_worstOfShifts_24 (lv_at hl 4 rfl) ?_
        refine r_cV (av := [.int (nI k), .int (nI i)]) (c_X2_placeByClock l G t (b + 1) z hz k i hk0 (by omega)) ⟨hx, hb, hml, hown, hts⟩ (cwV 2 hts gX3_worstOfShifts_X2_placeByClock rfl rfl rfl (by decide +kernel) ⟨Nat.le_of_ble_eq_true rfl, Nat.le_of_ble_eq_true rfl⟩) mv_K ⟨hK, x1⟩ (at_recv hK y0 rfl) rfl hl (Nat.le_of_ble_eq_true rfl) ⟨Nat.le_of_ble_eq_true rfl, Nat.le_of_ble_eq_true rfl⟩ rfl dX3_worstOfShifts_26 (fun r3 hr3 => ?_)
        subst hr3
        refine r_iast hx hb hK h8 ⟨by omega, by omega⟩ hS rfl i (by omega) (by decide) dX3_worstOfShifts_29 (fun H locs h8 hz9 hq hS => ?_)
        have x0 := at_kept x0 (hq _ (by omega))
        have y0 := at_kept y0 (hq _ (by omega))
        have y1 := at_kept y1 (hq _ (by omega))
        have g0 := at_kept g0 (hq _ (by omega))
        have g1 := at_kept g1 (hq _ (by omega))
        have p0 := at_kept p0 (hq _ (by omega))
        have x6 := at_kept x6 (hq _ (by omega))
        have x3 := at_kept x3 (hq _ (by omega))
        have h9 := at_kept h9 (hq _ (by omega))
        have x1 := Sc_kept x1 (fun q h8 h9 => hq q (by omega))
        have x2 := Pa_kept x2 (fun q h8 h9 => hq q (by omega))
        have x4 := fun i hi => Sc_kept (x4 i hi) (fun q h8 h9 => hq q (by omega))
        have x7 := Gp_kept x7 (fun q h8 h9 => hq q (by omega))
        have x10 := ex_kept x10 (hq _ (by omega))
        refine lv_iinc (v := nI (i + 1)) (lv' := [(4, .int (nI (i + 1))), (0, .ref b), (1, .int (nI k)), (2, .int (nI k2)), (3, .int (nI d0))]) hx hb dX3_worstOfShifts_30 hl (k := 4) rfl (nI_1 _) (by decide) rfl (fun ls hl => ?_)
        refine lv_goto (tgt := 3) hx hb dX3_worstOfShifts_33 (by decide) ?_
        exact ih3 (i + 1) (upd f i (plN z k i)) (by omega) (up_ext hf rfl) (by omega) _ _ x0 y0 y1 g0 g1 p0 x6 x3 h8 h9 x1 x2 x4 x7 x10 hS ls (lv_sub hl [1, 2, 3, 4, 0] rfl)
  exact loop3 _ 0 f1 (Nat.zero_le _) (fun j h => absurd h (Nat.not_lt_zero _)) (Nat.lt_succ_self _) _ _ x0 y0 y1 g0 g1 p0 x6 x3 h8 h9 x1 x2 x4 x7 x10 hS ls (lv_sub hl [1, 2, 3, 4, 0] rfl)

set_option maxRecDepth 20000 in
theorem iiX3_worst_3 : ∀ w ∈ wsX30, w ∈ wsX3_worst := by decide +kernel
set_option maxRecDepth 20000 in
theorem iiX3_worst_2 : ∀ w ∈ wsX20, w ∈ wsX3_worst := by decide +kernel
set_option maxHeartbeats 4000000 in
set_option maxRecDepth 100000 in
/-- the worst of all shifts -/
theorem c_X3_worst (l : Launch) (G : va_G) (t : gT) (b : Nat) (z : Nat → Int32) (gr : Nat → Nat) (sl bc : Nat) (bk : Nat → Nat → Int32) (kp : Nat → Bool) (im : Nat → Nat → Int32) (hz : WF z) (u v d : Int32) : Met l yX3_worst wsX3_worst ({ frames := 5, cells := 0, slots := 0, locals := 122 } : Room) (pc_ [.ref b, .int u, .int v, .int d] (fun U H => KK G t U ∧ PX G t b (z, gr, sl, bc, bk, kp, im) H)) (qi_ (fun r H => r = rWorst u v d z ∧ PX G t b (z, gr, sl, bc, bk, kp, im) H) (iv b (b + 251))) 0 0 (iv b (b + 251)) := by
  refine Met.ofW (cc := cX3_worst) (maxL := 4) (ret := (some .int)) (by decide) rfl ?_
  intro p e s m args below meth c s₁ B hml hv
  obtain ⟨rfl, hB⟩ := hv
  have hx := B.exec
  have hb := B.bytes
  have hr := B.returns
  have hts := atoms_spec (ws := wsX3_worst) B.pre
  have hown : s.vm.findClass RX3 = some m.cls := findClass_of_methodNamed B.named
  have hlocks := B.notSynchronized
  have hK := hB.1
  obtain ⟨x0, x1, x2, ⟨x3, jm, x4, x5⟩, x6, x7, x8, x9, x10⟩ := hB.2
  have y0 := Sc_obj x1
  have y1 := (Sc_rows x1).1
  obtain ⟨fo, fl, f2, g0, g1, g2, g3, g4⟩ := id x7
  obtain ⟨nx, p0⟩ := Pa_obj x2
  have hn := hz.n
  have hu5 := hz.u5
  have hs8 := hz.s8
  have hS : va_S (iv b (b + 251)) s.heap s.heap [] := va_S.rf
  have hl := lv_entry ([.ref b, .int u, .int v, .int d]) (n := 4) (Nat.le_of_ble_eq_true rfl)
  rw [lg_entry_eq]
  generalize (lg_sl ([.ref b, .int u, .int v, .int d]) ++ List.replicate (4 - (lg_sl ([.ref b, .int u, .int v, .int d])).length) Slot.unset).toArray = ls at hl ⊢
  have hl : lv_has ls 4 [(0, .ref b), (1, .int u), (2, .int v), (3, .int d)] := hl
  refine lv_aload_n hx hb dX3_worst_0 rfl (lv_at hl 0 rfl) ?_
  refine lv_iload_n hx hb dX3_worst_1 rfl (lv_at hl 1 rfl) ?_
  refine lv_iload_n hx hb dX3_worst_2 rfl (lv_at hl 2 rfl) ?_
  refine r_cV (av := [.int u, .int v]) (c_X3_areTwoUsers l G t b z gr sl bc bk kp im hz u v) ⟨hx, hb, hml, hown, hts⟩ (cwV 2 hts gX3_worst_X3_areTwoUsers rfl rfl rfl (by decide +kernel) ⟨Nat.le_of_ble_eq_true rfl, Nat.le_of_ble_eq_true rfl⟩) mv_K hB (at_recv hK x0 rfl) rfl hl (Nat.le_of_ble_eq_true rfl) ⟨Nat.le_of_ble_eq_true rfl, Nat.le_of_ble_eq_true rfl⟩ rfl dX3_worst_3 (fun r1 hr1 => ?_)
  subst hr1
  refine r_ifneB hx hb dX3_worst_6 (tgt := 12) (by decide) (fun c1 => ?_) (fun c1 => ?_)
  · obtain ⟨k, k2, hk, hk2, ek, ek2⟩ := twB_t hz c1
    have ekc : cl u = k := by rw [ek]; exact cl_N (by omega)
    have ekc2 : cl v = k2 := by rw [ek2]; exact cl_N (by omega)
    refine lv_iload_n hx hb dX3_worst_12 rfl (lv_at hl 3 rfl) ?_
    refine r_cS (av := [.int d]) (c_X3_isShift l G t d) ⟨hx, hb, hml, hown, hts⟩ (va_cwS 1 hts gX3_worst_X3_isShift rfl rfl rfl (by decide +kernel) ⟨Nat.le_of_ble_eq_true rfl, Nat.le_of_ble_eq_true rfl⟩) mv_T trivial rfl hl (Nat.le_of_ble_eq_true rfl) ⟨Nat.le_of_ble_eq_true rfl, Nat.le_of_ble_eq_true rfl⟩ rfl dX3_worst_13 (fun r2 hr2 => ?_)
    subst hr2
    refine r_ifeqB hx hb dX3_worst_16 (tgt := 29) (by decide) (fun c2 => ?_) (fun c2 => ?_)
    · refine lv_ldc (v := (-1000000002)) hx hb hown (hts (.constant RX3 48 (-1000000002)) (List.mem_of_getElem? (i := 2) rfl)) dX3_worst_29 ?_
      exact r_retI (v := (-1000000002)) hx hb hr hlocks hS ⟨by unfold rWorst; rw [c1, c2]; rfl, hB.2⟩ dX3_worst_31
    · obtain ⟨j, ja, jb, ej⟩ := in_of (by decide) (by decide) c2
      have ejc : cl d = j := by rw [ej]; exact cl_N (by omega)
      refine lv_aload_n hx hb dX3_worst_19 rfl (lv_at hl 0 rfl) ?_
      refine lv_iload_n hx hb dX3_worst_20 rfl (lv_at hl 1 rfl) ?_
      refine r_top (y := nI k) ek ?_
      refine lv_iload_n hx hb dX3_worst_21 rfl (lv_at hl 2 rfl) ?_
      refine r_top (y := nI k2) ek2 ?_
      refine lv_iload_n hx hb dX3_worst_22 rfl (lv_at hl 3 rfl) ?_
      refine r_top (y := nI j) ej ?_
      refine r_mVi (av := [.int (nI k), .int (nI k2), .int (nI j)]) (c_X3_worstOfShifts l G t b z gr sl bc bk kp im hz k k2 j hk hk2 (by omega)) ⟨hx, hb, hml, hown, hts⟩ (cwV 3 hts gX3_worst_X3_worstOfShifts rfl rfl rfl (by decide +kernel) ⟨Nat.le_of_ble_eq_true rfl, Nat.le_of_ble_eq_true rfl⟩) mv_K hB (at_recv hK x0 rfl) rfl hl (Nat.le_of_ble_eq_true rfl) ⟨Nat.le_of_ble_eq_true rfl, Nat.le_of_ble_eq_true rfl⟩ rfl dX3_worst_23 hS (fun q h => h) (fun r3 H locs hP hz9 hk hS => ?_)
      refine lv_goto (tgt := 31) hx hb dX3_worst_26 (by decide) ?_
      exact r_retI (v := r3) hx hb hr hlocks hS ⟨by unfold rWorst; rw [c1, c2, ekc, ekc2, ejc]; exact hP.1, hP.2⟩ dX3_worst_31
  · refine lv_ldc (v := (-1000000001)) hx hb hown (hts (.constant RX3 83 (-1000000001)) (List.mem_of_getElem? (i := 1) rfl)) dX3_worst_9 ?_
    exact r_retI (v := (-1000000001)) hx hb hr hlocks hS ⟨by unfold rWorst; rw [c1]; rfl, hB.2⟩ dX3_worst_11

set_option maxRecDepth 20000 in
theorem iiX3_bound_3 : ∀ w ∈ wsX30, w ∈ wsX3_bound := by decide +kernel
set_option maxRecDepth 20000 in
theorem iiX3_bound_2 : ∀ w ∈ wsX20, w ∈ wsX3_bound := by decide +kernel
set_option maxHeartbeats 4000000 in
set_option maxRecDepth 100000 in
/-- whether a bound holds -/
theorem c_X3_bound (l : Launch) (G : va_G) (t : gT) (b : Nat) (z : Nat → Int32) (gr : Nat → Nat) (sl bc : Nat) (bk : Nat → Nat → Int32) (kp : Nat → Bool) (im : Nat → Nat → Int32) (hz : WF z) (u v d x : Int32) : Met l yX3_bound wsX3_bound ({ frames := 5, cells := 0, slots := 0, locals := 122 } : Room) (pc_ [.ref b, .int u, .int v, .int d, .int x] (fun U H => KK G t U ∧ PX G t b (z, gr, sl, bc, bk, kp, im) H)) (qi_ (fun r H => r = rBound u v d x z ∧ PX G t b (z, gr, sl, bc, bk, kp, im) H) (iv b (b + 251))) 0 0 (iv b (b + 251)) := by
  refine Met.ofW (cc := cX3_bound) (maxL := 5) (ret := (some .int)) (by decide) rfl ?_
  intro p e s m args below meth c s₁ B hml hv
  obtain ⟨rfl, hB⟩ := hv
  have hx := B.exec
  have hb := B.bytes
  have hr := B.returns
  have hts := atoms_spec (ws := wsX3_bound) B.pre
  have hown : s.vm.findClass RX3 = some m.cls := findClass_of_methodNamed B.named
  have hlocks := B.notSynchronized
  have hK := hB.1
  obtain ⟨x0, x1, x2, ⟨x3, jm, x4, x5⟩, x6, x7, x8, x9, x10⟩ := hB.2
  have y0 := Sc_obj x1
  have y1 := (Sc_rows x1).1
  obtain ⟨fo, fl, f2, g0, g1, g2, g3, g4⟩ := id x7
  obtain ⟨nx, p0⟩ := Pa_obj x2
  have hn := hz.n
  have hu5 := hz.u5
  have hs8 := hz.s8
  have hS : va_S (iv b (b + 251)) s.heap s.heap [] := va_S.rf
  have hl := lv_entry ([.ref b, .int u, .int v, .int d, .int x]) (n := 5) (Nat.le_of_ble_eq_true rfl)
  rw [lg_entry_eq]
  generalize (lg_sl ([.ref b, .int u, .int v, .int d, .int x]) ++ List.replicate (5 - (lg_sl ([.ref b, .int u, .int v, .int d, .int x])).length) Slot.unset).toArray = ls at hl ⊢
  have hl : lv_has ls 5 [(0, .ref b), (1, .int u), (2, .int v), (3, .int d), (4, .int x)] := hl
  refine lv_aload_n hx hb dX3_bound_0 rfl (lv_at hl 0 rfl) ?_
  refine lv_iload_n hx hb dX3_bound_1 rfl (lv_at hl 1 rfl) ?_
  refine lv_iload_n hx hb dX3_bound_2 rfl (lv_at hl 2 rfl) ?_
  refine r_cV (av := [.int u, .int v]) (c_X3_areTwoUsers l G t b z gr sl bc bk kp im hz u v) ⟨hx, hb, hml, hown, hts⟩ (cwV 2 hts gX3_bound_X3_areTwoUsers rfl rfl rfl (by decide +kernel) ⟨Nat.le_of_ble_eq_true rfl, Nat.le_of_ble_eq_true rfl⟩) mv_K hB (at_recv hK x0 rfl) rfl hl (Nat.le_of_ble_eq_true rfl) ⟨Nat.le_of_ble_eq_true rfl, Nat.le_of_ble_eq_true rfl⟩ rfl dX3_bound_3 (fun r1 hr1 => ?_)
  subst hr1
  refine r_ifneB hx hb dX3_bound_6 (tgt := 12) (by decide) (fun c1 => ?_) (fun c1 => ?_)
  · obtain ⟨k, k2, hk, hk2, ek, ek2⟩ := twB_t hz c1
    have ekc : cl u = k := by rw [ek]; exact cl_N (by omega)
    have ekc2 : cl v = k2 := by rw [ek2]; exact cl_N (by omega)
    refine lv_iload_n hx hb dX3_bound_12 rfl (lv_at hl 3 rfl) ?_
    refine r_cS (av := [.int d]) (c_X3_isShift l G t d) ⟨hx, hb, hml, hown, hts⟩ (va_cwS 1 hts gX3_bound_X3_isShift rfl rfl rfl (by decide +kernel) ⟨Nat.le_of_ble_eq_true rfl, Nat.le_of_ble_eq_true rfl⟩) mv_T trivial rfl hl (Nat.le_of_ble_eq_true rfl) ⟨Nat.le_of_ble_eq_true rfl, Nat.le_of_ble_eq_true rfl⟩ rfl dX3_bound_13 (fun r2 hr2 => ?_)
    subst hr2
    refine r_ifeqB hx hb dX3_bound_16 (tgt := 32) (by decide) (fun c2 => ?_) (fun c2 => ?_)
    · refine lv_ldc (v := (-1000000002)) hx hb hown (hts (.constant RX3 48 (-1000000002)) (List.mem_of_getElem? (i := 2) rfl)) dX3_bound_32 ?_
      exact r_retI (v := (-1000000002)) hx hb hr hlocks hS (by have c6 : (inB d (nI 0) (nI 200) && inB x (nI 0) (nI 1500)) = false := (by first | exact and_f1 c2 | exact and_f2 (in_f1 (a := nI 0) c3) | exact and_f2 (in_f3 c4)); exact ⟨by unfold rBound; rw [c1, c6]; rfl, hB.2⟩) dX3_bound_34
    · obtain ⟨j, ja, jb, ej⟩ := in_of (by decide) (by decide) c2
      have ejc : cl d = j := by rw [ej]; exact cl_N (by omega)
      refine lv_iload hx hb dX3_bound_19 (lv_at hl 4 rfl) ?_
      refine lv_if_lt (tgt := 32) hx hb dX3_bound_21 (by decide) (fun c3 => ?_) (fun c3 => ?_)
      · refine lv_ldc (v := (-1000000002)) hx hb hown (hts (.constant RX3 48 (-1000000002)) (List.mem_of_getElem? (i := 2) rfl)) dX3_bound_32 ?_
        exact r_retI (v := (-1000000002)) hx hb hr hlocks hS (by have c6 : (inB d (nI 0) (nI 200) && inB x (nI 0) (nI 1500)) = false := (by first | exact and_f1 c2 | exact and_f2 (in_f1 (a := nI 0) c3) | exact and_f2 (in_f3 c4)); exact ⟨by unfold rBound; rw [c1, c6]; rfl, hB.2⟩) dX3_bound_34
      · refine lv_iload hx hb dX3_bound_24 (lv_at hl 4 rfl) ?_
        refine lv_sipush (v := nI 1500) hx hb dX3_bound_26 (by decide) ?_
        refine lv_icmp_le (tgt := 35) hx hb dX3_bound_29 (by decide) (fun c4 => ?_) (fun c4 => ?_)
        · have c5 := in_t2 (a := nI 0) c3 c4
          obtain ⟨i, ia, ib, ei⟩ := in_of (by decide) (by decide) c5
          have eic : cl x = i := by rw [ei]; exact cl_N (by omega)
          refine lv_aload_n hx hb dX3_bound_35 rfl (lv_at hl 0 rfl) ?_
          refine lv_iload_n hx hb dX3_bound_36 rfl (lv_at hl 1 rfl) ?_
          refine r_top (y := nI k) ek ?_
          refine lv_iload_n hx hb dX3_bound_37 rfl (lv_at hl 2 rfl) ?_
          refine r_top (y := nI k2) ek2 ?_
          refine lv_iload_n hx hb dX3_bound_38 rfl (lv_at hl 3 rfl) ?_
          refine r_top (y := nI j) ej ?_
          refine r_mVi (av := [.int (nI k), .int (nI k2), .int (nI j)]) (c_X3_worstOfShifts l G t b z gr sl bc bk kp im hz k k2 j hk hk2 (by omega)) ⟨hx, hb, hml, hown, hts⟩ (cwV 3 hts gX3_bound_X3_worstOfShifts rfl rfl rfl (by decide +kernel) ⟨Nat.le_of_ble_eq_true rfl, Nat.le_of_ble_eq_true rfl⟩) mv_K hB (at_recv hK x0 rfl) rfl hl (Nat.le_of_ble_eq_true rfl) ⟨Nat.le_of_ble_eq_true rfl, Nat.le_of_ble_eq_true rfl⟩ rfl dX3_bound_39 hS (fun q h => h) (fun r3 H locs hP hz9 hk hS => ?_)
          refine r_top (y := nI (wsN z k k2 (j + 1))) hP.1 ?_
          have hw1 := wsN_le z k k2 (j + 1)
          refine lv_iload hx hb dX3_bound_42 (lv_at hl 4 rfl) ?_
          refine r_top (y := nI i) ei ?_
          refine r_gtN hx hb (by omega) (by omega) dX3_bound_44 (tgt := 51) (by decide) (fun c7 => ?_) (fun c7 => ?_)
          · refine lv_iconst (v := nI 0) hx hb dX3_bound_51 (by decide) ?_
            exact r_retI (v := nI 0) hx hb hr hlocks hS ⟨rBound_n c1 (and_t c2 c5) ekc ekc2 ejc eic c7, hP.2⟩ dX3_bound_52
          · refine lv_iconst (v := nI 1) hx hb dX3_bound_47 (by decide) ?_
            refine lv_goto (tgt := 52) hx hb dX3_bound_48 (by decide) ?_
            exact r_retI (v := nI 1) hx hb hr hlocks hS ⟨rBound_y c1 (and_t c2 c5) ekc ekc2 ejc eic c7, hP.2⟩ dX3_bound_52
        · refine lv_ldc (v := (-1000000002)) hx hb hown (hts (.constant RX3 48 (-1000000002)) (List.mem_of_getElem? (i := 2) rfl)) dX3_bound_32 ?_
          exact r_retI (v := (-1000000002)) hx hb hr hlocks hS (by have c6 : (inB d (nI 0) (nI 200) && inB x (nI 0) (nI 1500)) = false := (by first | exact and_f1 c2 | exact and_f2 (in_f1 (a := nI 0) c3) | exact and_f2 (in_f3 c4)); exact ⟨by unfold rBound; rw [c1, c6]; rfl, hB.2⟩) dX3_bound_34
  · refine lv_ldc (v := (-1000000001)) hx hb hown (hts (.constant RX3 83 (-1000000001)) (List.mem_of_getElem? (i := 1) rfl)) dX3_bound_9 ?_
    exact r_retI (v := (-1000000001)) hx hb hr hlocks hS ⟨by unfold rBound; rw [c1]; rfl, hB.2⟩ dX3_bound_11

set_option maxRecDepth 20000 in
theorem iiX3_countTimesOn_3 : ∀ w ∈ wsX30, w ∈ wsX3_countTimesOn := by decide +kernel
set_option maxRecDepth 20000 in
theorem iiX3_countTimesOn_2 : ∀ w ∈ wsX20, w ∈ wsX3_countTimesOn := by decide +kernel
set_option maxHeartbeats 4000000 in
set_option maxRecDepth 100000 in
/-- how often on each channel -/
theorem c_X3_countTimesOn (l : Launch) (G : va_G) (t : gT) (b : Nat) (z : Nat → Int32) (gr : Nat → Nat) (sl bc : Nat) (bk : Nat → Nat → Int32) (kp : Nat → Bool) (im : Nat → Nat → Int32) (hz : WF z) (k n0 : Nat) (hk0 : k < cu z) (hn0 : n0 ≤ 1500) : Met l yX3_countTimesOn wsX3_countTimesOn ({ frames := 4, cells := 0, slots := 0, locals := 97 } : Room) (pc_ [.ref b, .int (nI k), .int (nI n0)] (fun U H => KK G t U ∧ PX G t b (z, gr, sl, bc, bk, kp, im) H)) (qv_ (fun H => PX G t b (z, gr, sl, bc, bk, kp, im) H ∧ ∃ f, at_ G (b + 250) (aI t 10 f) H ∧ ∀ j, j < 10 → f j = nI (tmN z k n0 j)) (iv b (b + 251))) 0 0 (iv b (b + 251)) := by
  refine Met.ofW (cc := cX3_countTimesOn) (maxL := 5) (ret := none) (by decide) rfl ?_
  intro p e s m args below meth c s₁ B hml hv
  obtain ⟨rfl, hB⟩ := hv
  have hx := B.exec
  have hb := B.bytes
  have hr := B.returns
  have hts := atoms_spec (ws := wsX3_countTimesOn) B.pre
  have hown : s.vm.findClass RX3 = some m.cls := findClass_of_methodNamed B.named
  have hlocks := B.notSynchronized
  have hK := hB.1
  obtain ⟨x0, x1, x2, ⟨x3, jm, x4, x5⟩, x6, x7, x8, x9, x10⟩ := hB.2
  have y0 := Sc_obj x1
  have y1 := (Sc_rows x1).1
  obtain ⟨fo, fl, f2, g0, g1, g2, g3, g4⟩ := id x7
  obtain ⟨nx, p0⟩ := Pa_obj x2
  have hn := hz.n
  have hu5 := hz.u5
  have hs8 := hz.s8
  obtain ⟨f0, h10⟩ := x10
  have hS : va_S (iv b (b + 251)) s.heap s.heap [] := va_S.rf
  have hl := lv_entry ([.ref b, .int (nI k), .int (nI n0)]) (n := 5) (Nat.le_of_ble_eq_true rfl)
  rw [lg_entry_eq]
  generalize (lg_sl ([.ref b, .int (nI k), .int (nI n0)]) ++ List.replicate (5 - (lg_sl ([.ref b, .int (nI k), .int (nI n0)])).length) Slot.unset).toArray = ls at hl ⊢
  have hl : lv_has ls 5 [(0, .ref b), (1, .int (nI k)), (2, .int (nI n0))] := hl
  refine lv_iconst (v := nI 0) hx hb dX3_countTimesOn_0 (by decide) ?_
  refine lv_istore_n (lv' := [(3, .int (nI 0)), (0, .ref b), (1, .int (nI k)), (2, .int (nI n0))]) hx hb dX3_countTimesOn_1 rfl hl (by decide) rfl (fun ls hl => ?_)
  have loop2 : ∀ (fu : Nat) (i : Nat) (f : Nat → Int32) (hi : i ≤ 10) (hf : ∀ y, y < i → f y = nI 0) (hfu : 10 - i < fu) (H : Heap) (locs : List Loc) (x0 : at_ G b (.inr (3, [.ref (b + 1), .ref (b + 17), .ref (b + 211), .ref (b + 244), .ref (b + 245), .ref (b + 248), .ref (b + 249), .ref (b + 250)])) H) (y0 : at_ G (b + 1) (.inr (2, [.int (nI (cn z)), .int (nI (prN (cn z))), .int (nI (cu z)), .int (nI (cs z)), .ref (b + 1 + 1), .ref (b + 1 + 7)])) H) (y1 : at_ G (b + 1 + 1) (aR t 5 (rowsF 5 (b + 1 + 2))) H) (g0 : at_ G (b + 245) (.inr (0, [.int (nI sl), .int (nI (cu z)), .ref (b + 245 + 1), .ref (b + 245 + 2)])) H) (g1 : at_ G (b + 245 + 1) (aI t 5 fl) H) (p0 : at_ G (b + 17) (.inr (1, [.ref (b + 17 + 1), .int (nI nx), .int (nI bc)])) H) (x6 : at_ G (b + 244) (aZ t 2 (fun i => bI (kp i))) H) (x3 : at_ G (b + 211) (aQ t 2 (rowsG 2 (b + 212))) H) (h10 : at_ G (b + 250) (aI t 10 f) H) (x1 : Sc G t (b + 1) z H) (x2 : Pa G t (b + 17) bc bk H) (x4 : ∀ i, i < 2 → Sc G t (b + 212 + 16 * i) (jm i) H) (x7 : Gp G t (b + 245) gr sl (cu z) H) (x8 : ∃ f, at_ G (b + 248) (aI t 1700 f) H) (x9 : ∃ f, at_ G (b + 249) (aI t 1500 f) H) (hS : va_S (iv b (b + 251)) s.heap H locs) (ls : Array Slot) (hl : lv_has ls 5 [(0, .ref b), (1, .int (nI k)), (2, .int (nI n0)), (3, .int (nI i))]), W p l e (headSpec wsX3_countTimesOn ({ frames := 4, cells := 0, slots := 0, locals := 97 } : Room)).room s m ([.ref b, .int (nI k), .int (nI n0)] : List Value).toArray below meth c H locs 0 0 (MQ below (qv_ (fun H => PX G t b (z, gr, sl, bc, bk, kp, im) H ∧ ∃ f, at_ G (b + 250) (aI t 10 f) H ∧ ∀ j, j < 10 → f j = nI (tmN z k n0 j)) (iv b (b + 251))) ([.ref b, .int (nI k), .int (nI n0)] : List Value).toArray s 0 0 (iv b (b + 251))) (F0 m 2 ls []) := by
    intro fu
    induction fu with
    | zero => intro i f hi hf hfu; exact absurd hfu (Nat.not_lt_zero _)
    | succ fu2 ih2 =>
      intro i f hi hf hfu H locs x0 y0 y1 g0 g1 p0 x6 x3 h10 x1 x2 x4 x7 x8 x9 hS ls hl
      refine lv_iload_n hx hb dX3_countTimesOn_2 rfl (lv_at hl 3 rfl) ?_
      refine lv_bipush (v := nI 10) hx hb dX3_countTimesOn_3 (by decide) ?_
      refine r_geN hx hb (by omega) (by omega) dX3_countTimesOn_5 (tgt := 21) (by decide) (fun c1 => ?_) (fun c1 => ?_)
      · refine lv_iconst (v := nI 0) hx hb dX3_countTimesOn_21 (by decide) ?_
        refine lv_istore_n (lv' := [(3, .int (nI 0)), (0, .ref b), (1, .int (nI k)), (2, .int (nI n0))]) hx hb dX3_countTimesOn_22 rfl hl (by decide) rfl (fun ls hl => ?_)
        have loop23 : ∀ (fu : Nat) (i : Nat) (f : Nat → Int32) (hi : i ≤ n0) (hf : ∀ j, j < 10 → f j = nI (tmN z k i j)) (hfu : n0 - i < fu) (H : Heap) (locs : List Loc) (x0 : at_ G b (.inr (3, [.ref (b + 1), .ref (b + 17), .ref (b + 211), .ref (b + 244), .ref (b + 245), .ref (b + 248), .ref (b + 249), .ref (b + 250)])) H) (y0 : at_ G (b + 1) (.inr (2, [.int (nI (cn z)), .int (nI (prN (cn z))), .int (nI (cu z)), .int (nI (cs z)), .ref (b + 1 + 1), .ref (b + 1 + 7)])) H) (y1 : at_ G (b + 1 + 1) (aR t 5 (rowsF 5 (b + 1 + 2))) H) (g0 : at_ G (b + 245) (.inr (0, [.int (nI sl), .int (nI (cu z)), .ref (b + 245 + 1), .ref (b + 245 + 2)])) H) (g1 : at_ G (b + 245 + 1) (aI t 5 fl) H) (p0 : at_ G (b + 17) (.inr (1, [.ref (b + 17 + 1), .int (nI nx), .int (nI bc)])) H) (x6 : at_ G (b + 244) (aZ t 2 (fun i => bI (kp i))) H) (x3 : at_ G (b + 211) (aQ t 2 (rowsG 2 (b + 212))) H) (h10 : at_ G (b + 250) (aI t 10 f) H) (x1 : Sc G t (b + 1) z H) (x2 : Pa G t (b + 17) bc bk H) (x4 : ∀ i, i < 2 → Sc G t (b + 212 + 16 * i) (jm i) H) (x7 : Gp G t (b + 245) gr sl (cu z) H) (x8 : ∃ f, at_ G (b + 248) (aI t 1700 f) H) (x9 : ∃ f, at_ G (b + 249) (aI t 1500 f) H) (hS : va_S (iv b (b + 251)) s.heap H locs) (ls : Array Slot) (hl : lv_has ls 5 [(0, .ref b), (1, .int (nI k)), (2, .int (nI n0)), (3, .int (nI i))]), W p l e (headSpec wsX3_countTimesOn ({ frames := 4, cells := 0, slots := 0, locals := 97 } : Room)).room s m ([.ref b, .int (nI k), .int (nI n0)] : List Value).toArray below meth c H locs 0 0 (MQ below (qv_ (fun H => PX G t b (z, gr, sl, bc, bk, kp, im) H ∧ ∃ f, at_ G (b + 250) (aI t 10 f) H ∧ ∀ j, j < 10 → f j = nI (tmN z k n0 j)) (iv b (b + 251))) ([.ref b, .int (nI k), .int (nI n0)] : List Value).toArray s 0 0 (iv b (b + 251))) (F0 m 23 ls []) := by
          intro fu
          induction fu with
          | zero => intro i f hi hf hfu; exact absurd hfu (Nat.not_lt_zero _)
          | succ fu23 ih23 =>
            intro i f hi hf hfu H locs x0 y0 y1 g0 g1 p0 x6 x3 h10 x1 x2 x4 x7 x8 x9 hS ls hl
            refine lv_iload_n hx hb dX3_countTimesOn_23 rfl (lv_at hl 3 rfl) ?_
            refine lv_iload_n hx hb dX3_countTimesOn_24 rfl (lv_at hl 2 rfl) ?_
            refine r_geN hx hb (by omega) (by omega) dX3_countTimesOn_25 (tgt := 68) (by decide) (fun c2 => ?_) (fun c2 => ?_)
            · exact r_retV hx hb hr hlocks hS ⟨PX_mk x0 x1 x2 x3 x4 x5 x6 x7 x8 x9 ⟨f, h10⟩, f, h10, fun j hj => by rw [hf j hj, show i = n0 by omega]⟩ dX3_countTimesOn_68
            · refine lv_aload_n hx hb dX3_countTimesOn_28 rfl (lv_at hl 0 rfl) ?_
              refine r_get (C := RX3) (T := TX3) (N := 8) hx hb hts iiX3_countTimesOn_3 hown hK x0 rfl 0 (by decide) (hts (.fieldLink RX3 10 "HopMeet" "now" "LHopMeet$Scene;") (List.mem_of_getElem? (i := 2) rfl)) rfl dX3_countTimesOn_29 ?_
              refine lv_iload_n hx hb dX3_countTimesOn_32 rfl (lv_at hl 1 rfl) ?_
              refine lv_iload_n hx hb dX3_countTimesOn_33 rfl (lv_at hl 3 rfl) ?_
              refine r_cV (av := [.int (nI k), .int (nI i)]) (c_X2_placeByClock l G t (b + 1) z hz k i hk0 (by omega)) ⟨hx, hb, hml, hown, hts⟩ (cwV 2 hts gX3_countTimesOn_X2_placeByClock rfl rfl rfl (by decide +kernel) ⟨Nat.le_of_ble_eq_true rfl, Nat.le_of_ble_eq_true rfl⟩) mv_K ⟨hK, x1⟩ (at_recv hK y0 rfl) rfl hl (Nat.le_of_ble_eq_true rfl) ⟨Nat.le_of_ble_eq_true rfl, Nat.le_of_ble_eq_true rfl⟩ rfl dX3_countTimesOn_34 (fun r1 hr1 => ?_)
              subst hr1
              rcases hz.pl hk0 i with c3 | ⟨q, hq8, eq⟩
              · refine r_top (y := (-1)) c3 ?_
                refine lv_istore (lv' := [(4, .int (-1)), (0, .ref b), (1, .int (nI k)), (2, .int (nI n0)), (3, .int (nI i))]) hx hb dX3_countTimesOn_37 hl (by decide) rfl (fun ls hl => ?_)
                refine lv_iload hx hb dX3_countTimesOn_39 (lv_at hl 0 rfl) ?_
                refine lv_if_lt (tgt := 62) hx hb dX3_countTimesOn_41 (by decide) (fun _ => ?_) (fun c4 => absurd (by decide) c4)
                refine lv_iinc (v := nI (i + 1)) (lv' := [(3, .int (nI (i + 1))), (4, .int (-1)), (0, .ref b), (1, .int (nI k)), (2, .int (nI n0))]) hx hb dX3_countTimesOn_62 hl (k := 4) rfl (nI_1 _) (by decide) rfl (fun ls hl => ?_)
                refine lv_goto (tgt := 23) hx hb dX3_countTimesOn_65 (by decide) ?_
                exact ih23 (i + 1) f (by omega) (tm_none hf c3) (by omega) _ _ x0 y0 y1 g0 g1 p0 x6 x3 h10 x1 x2 x4 x7 x8 x9 hS ls (lv_sub hl [2, 3, 4, 0] rfl)
              · have hq9 : q < 10 := by omega
                refine r_top (y := nI q) eq ?_
                refine lv_istore (lv' := [(4, .int (nI q)), (0, .ref b), (1, .int (nI k)), (2, .int (nI n0)), (3, .int (nI i))]) hx hb dX3_countTimesOn_37 hl (by decide) rfl (fun ls hl => ?_)
                refine lv_iload hx hb dX3_countTimesOn_39 (lv_at hl 0 rfl) ?_
                refine lv_if_lt (tgt := 62) hx hb dX3_countTimesOn_41 (by decide) (fun c4 => absurd c4 (nI_pos (by omega))) (fun _ => ?_)
                refine lv_iload hx hb dX3_countTimesOn_44 (lv_at hl 0 rfl) ?_
                refine lv_bipush (v := nI 10) hx hb dX3_countTimesOn_46 (by decide) ?_
                refine r_geN hx hb (by omega) (by omega) dX3_countTimesOn_48 (tgt := 62) (by decide) (fun c5 => absurd hq9 (Nat.not_lt.mpr c5)) (fun _ => ?_)
                refine lv_aload_n hx hb dX3_countTimesOn_51 rfl (lv_at hl 1 rfl) ?_
                refine r_get (C := RX3) (T := TX3) (N := 8) hx hb hts iiX3_countTimesOn_3 hown hK x0 rfl 7 (by decide) (hts (.fieldLink RX3 45 "HopMeet" "timesOn" "[I") (List.mem_of_getElem? (i := 1) rfl)) rfl dX3_countTimesOn_52 ?_
                refine lv_iload hx hb dX3_countTimesOn_55 (lv_at hl 0 rfl) ?_
                refine lv_dup2_11 hx hb dX3_countTimesOn_57 rfl rfl ?_
                refine r_iald hx hb hK h10 rfl q (by omega) (by decide) (v := nI (tmN z k i q)) (hf q hq9) dX3_countTimesOn_58 ?_
                refine lv_iconst (v := nI 1) hx hb dX3_countTimesOn_59 (by decide) ?_
                refine r_iaddN hx hb dX3_countTimesOn_60 ?_
                refine r_iast hx hb hK h10 ⟨by omega, by omega⟩ hS rfl q (by omega) (by decide) dX3_countTimesOn_61 (fun H locs h10 hz9 hq hS => ?_)
                have x0 := at_kept x0 (hq _ (by omega))
                have y0 := at_kept y0 (hq _ (by omega))
                have y1 := at_kept y1 (hq _ (by omega))
                have g0 := at_kept g0 (hq _ (by omega))
                have g1 := at_kept g1 (hq _ (by omega))
                have p0 := at_kept p0 (hq _ (by omega))
                have x6 := at_kept x6 (hq _ (by omega))
                have x3 := at_kept x3 (hq _ (by omega))
                have x1 := Sc_kept x1 (fun q h8 h9 => hq q (by omega))
                have x2 := Pa_kept x2 (fun q h8 h9 => hq q (by omega))
                have x4 := fun i hi => Sc_kept (x4 i hi) (fun q h8 h9 => hq q (by omega))
                have x7 := Gp_kept x7 (fun q h8 h9 => hq q (by omega))
                have x8 := ex_kept x8 (hq _ (by omega))
                have x9 := ex_kept x9 (hq _ (by omega))
                refine lv_iinc (v := nI (i + 1)) (lv' := [(3, .int (nI (i + 1))), (4, .int (nI q)), (0, .ref b), (1, .int (nI k)), (2, .int (nI n0))]) hx hb dX3_countTimesOn_62 hl (k := 4) rfl (nI_1 _) (by decide) rfl (fun ls hl => ?_)
                refine lv_goto (tgt := 23) hx hb dX3_countTimesOn_65 (by decide) ?_
                exact ih23 (i + 1) (upd f q (nI (tmN z k i q + 1))) (by omega) (tm_step hf hq9 eq) (by omega) _ _ x0 y0 y1 g0 g1 p0 x6 x3 h10 x1 x2 x4 x7 x8 x9 hS ls (lv_sub hl [2, 3, 4, 0] rfl)
        exact loop23 _ 0 f (Nat.zero_le _) (fun j hj => hf j (by omega)) (Nat.lt_succ_self _) _ _ x0 y0 y1 g0 g1 p0 x6 x3 h10 x1 x2 x4 x7 x8 x9 hS ls (lv_sub hl [1, 2, 3, 0] rfl)
      · refine lv_aload_n hx hb dX3_countTimesOn_8 rfl (lv_at hl 0 rfl) ?_
        refine r_get (C := RX3) (T := TX3) (N := 8) hx hb hts iiX3_countTimesOn_3 hown hK x0 rfl 7 (by decide) (hts (.fieldLink RX3 45 "HopMeet" "timesOn" "[I") (List.mem_of_getElem? (i := 1) rfl)) rfl dX3_countTimesOn_9 ?_
        refine lv_iload_n hx hb dX3_countTimesOn_12 rfl (lv_at hl 3 rfl) ?_
        refine lv_iconst (v := nI 0) hx hb dX3_countTimesOn_13 (by decide) ?_
        refine r_iast hx hb hK h10 ⟨by omega, by omega⟩ hS rfl i (by omega) (by decide) dX3_countTimesOn_14 (fun H locs h10 hz9 hq hS => ?_)
        have x0 := at_kept x0 (hq _ (by omega))
        have y0 := at_kept y0 (hq _ (by omega))
        have y1 := at_kept y1 (hq _ (by omega))
        have g0 := at_kept g0 (hq _ (by omega))
        have g1 := at_kept g1 (hq _ (by omega))
        have p0 := at_kept p0 (hq _ (by omega))
        have x6 := at_kept x6 (hq _ (by omega))
        have x3 := at_kept x3 (hq _ (by omega))
        have x1 := Sc_kept x1 (fun q h8 h9 => hq q (by omega))
        have x2 := Pa_kept x2 (fun q h8 h9 => hq q (by omega))
        have x4 := fun i hi => Sc_kept (x4 i hi) (fun q h8 h9 => hq q (by omega))
        have x7 := Gp_kept x7 (fun q h8 h9 => hq q (by omega))
        have x8 := ex_kept x8 (hq _ (by omega))
        have x9 := ex_kept x9 (hq _ (by omega))
        refine lv_iinc (v := nI (i + 1)) (lv' := [(3, .int (nI (i + 1))), (0, .ref b), (1, .int (nI k)), (2, .int (nI n0))]) hx hb dX3_countTimesOn_15 hl (k := 3) rfl (nI_1 _) (by decide) rfl (fun ls hl => ?_)
        refine lv_goto (tgt := 2) hx hb dX3_countTimesOn_18 (by decide) ?_
        exact ih2 (i + 1) (upd f i (nI 0)) (by omega) (up_ext (g := fun _ => nI 0) hf rfl) (by omega) _ _ x0 y0 y1 g0 g1 p0 x6 x3 h10 x1 x2 x4 x7 x8 x9 hS ls (lv_sub hl [1, 2, 3, 0] rfl)
  exact loop2 _ 0 f0 (Nat.zero_le _) (fun j h => absurd h (Nat.not_lt_zero _)) (Nat.lt_succ_self _) _ _ x0 y0 y1 g0 g1 p0 x6 x3 h10 x1 x2 x4 x7 x8 x9 hS ls (lv_sub hl [1, 2, 3, 0] rfl)

set_option maxRecDepth 20000 in
theorem iiX3_even_3 : ∀ w ∈ wsX30, w ∈ wsX3_even := by decide +kernel
set_option maxRecDepth 20000 in
theorem iiX3_even_2 : ∀ w ∈ wsX20, w ∈ wsX3_even := by decide +kernel
set_option maxHeartbeats 4000000 in
set_option maxRecDepth 100000 in
/-- how evenly a row goes -/
theorem c_X3_even (l : Launch) (G : va_G) (t : gT) (b : Nat) (z : Nat → Int32) (gr : Nat → Nat) (sl bc : Nat) (bk : Nat → Nat → Int32) (kp : Nat → Bool) (im : Nat → Nat → Int32) (hz : WF z) (u n : Int32) : Met l yX3_even wsX3_even ({ frames := 5, cells := 0, slots := 0, locals := 121 } : Room) (pc_ [.ref b, .int u, .int n] (fun U H => KK G t U ∧ PX G t b (z, gr, sl, bc, bk, kp, im) H)) (qi_ (fun r H => r = rEven u n z ∧ PX G t b (z, gr, sl, bc, bk, kp, im) H) (iv b (b + 251))) 0 0 (iv b (b + 251)) := by
  refine Met.ofW (cc := cX3_even) (maxL := 7) (ret := (some .int)) (by decide) rfl ?_
  intro p e s m args below meth c s₁ B hml hv
  obtain ⟨rfl, hB⟩ := hv
  have hx := B.exec
  have hb := B.bytes
  have hr := B.returns
  have hts := atoms_spec (ws := wsX3_even) B.pre
  have hown : s.vm.findClass RX3 = some m.cls := findClass_of_methodNamed B.named
  have hlocks := B.notSynchronized
  have hK := hB.1
  obtain ⟨x0, x1, x2, ⟨x3, jm, x4, x5⟩, x6, x7, x8, x9, x10⟩ := hB.2
  have y0 := Sc_obj x1
  have y1 := (Sc_rows x1).1
  obtain ⟨fo, fl, f2, g0, g1, g2, g3, g4⟩ := id x7
  obtain ⟨nx, p0⟩ := Pa_obj x2
  have hn := hz.n
  have hu5 := hz.u5
  have hs8 := hz.s8
  have hS : va_S (iv b (b + 251)) s.heap s.heap [] := va_S.rf
  have hl := lv_entry ([.ref b, .int u, .int n]) (n := 7) (Nat.le_of_ble_eq_true rfl)
  rw [lg_entry_eq]
  generalize (lg_sl ([.ref b, .int u, .int n]) ++ List.replicate (7 - (lg_sl ([.ref b, .int u, .int n])).length) Slot.unset).toArray = ls at hl ⊢
  have hl : lv_has ls 7 [(0, .ref b), (1, .int u), (2, .int n)] := hl
  refine lv_aload_n hx hb dX3_even_0 rfl (lv_at hl 0 rfl) ?_
  refine lv_iload_n hx hb dX3_even_1 rfl (lv_at hl 1 rfl) ?_
  refine r_cV (av := [.int u]) (c_X3_isUser l G t b z gr sl bc bk kp im hz u) ⟨hx, hb, hml, hown, hts⟩ (cwV 1 hts gX3_even_X3_isUser rfl rfl rfl (by decide +kernel) ⟨Nat.le_of_ble_eq_true rfl, Nat.le_of_ble_eq_true rfl⟩) mv_K hB (at_recv hK x0 rfl) rfl hl (Nat.le_of_ble_eq_true rfl) ⟨Nat.le_of_ble_eq_true rfl, Nat.le_of_ble_eq_true rfl⟩ rfl dX3_even_2 (fun r1 hr1 => ?_)
  subst hr1
  refine r_ifneB hx hb dX3_even_5 (tgt := 11) (by decide) (fun c1 => ?_) (fun c1 => ?_)
  · obtain ⟨k, hk, ek⟩ := usB_t hz c1
    have ekc : cl u = k := by rw [ek]; exact cl_N (by omega)
    refine lv_iload_n hx hb dX3_even_11 rfl (lv_at hl 2 rfl) ?_
    refine lv_iconst (v := nI 1) hx hb dX3_even_12 (by decide) ?_
    refine lv_icmp_lt (tgt := 23) hx hb dX3_even_13 (by decide) (fun c3 => ?_) (fun c3 => ?_)
    · refine lv_ldc (v := (-1000000002)) hx hb hown (hts (.constant RX3 48 (-1000000002)) (List.mem_of_getElem? (i := 2) rfl)) dX3_even_23 ?_
      exact r_retI (v := (-1000000002)) hx hb hr hlocks hS (by have c6 : inB n (nI 1) (nI 1500) = false := (by first | exact in_f1 c3 | exact in_f3 c4); exact ⟨by unfold rEven; rw [c1, c6]; rfl, hB.2⟩) dX3_even_25
    · refine lv_iload_n hx hb dX3_even_16 rfl (lv_at hl 2 rfl) ?_
      refine lv_sipush (v := nI 1500) hx hb dX3_even_17 (by decide) ?_
      refine lv_icmp_le (tgt := 26) hx hb dX3_even_20 (by decide) (fun c4 => ?_) (fun c4 => ?_)
      · have c2 := in_t2 c3 c4
        obtain ⟨j, ja, jb, ej⟩ := in_of (by decide) (by decide) c2
        have ejc : cl n = j := by rw [ej]; exact cl_N (by omega)
        obtain ⟨fu, hf, e0, e1, e2, e3, e4⟩ := Sc_user x1 hz hk
        have ho := hz.o hk
        refine lv_aload_n hx hb dX3_even_26 rfl (lv_at hl 0 rfl) ?_
        refine r_get (C := RX3) (T := TX3) (N := 8) hx hb hts iiX3_even_3 hown hK x0 rfl 0 (by decide) (hts (.fieldLink RX3 10 "HopMeet" "now" "LHopMeet$Scene;") (List.mem_of_getElem? (i := 3) rfl)) rfl dX3_even_27 ?_
        refine r_get (C := RX2) (T := TX2) (N := 6) hx hb hts iiX3_even_2 hown hK y0 rfl 4 (by decide) (hts (.fieldLink RX3 128 "HopMeet$Scene" "users" "[[I") (List.mem_of_getElem? (i := 4) rfl)) rfl dX3_even_30 ?_
        refine lv_iload_n hx hb dX3_even_33 rfl (lv_at hl 1 rfl) ?_
        refine r_top (y := nI k) ek ?_
        refine r_rald hx hb hK y1 1 rfl rfl k (by omega) (by decide) (b := b + 1 + 2 + k) (rowsF_at (by omega)) dX3_even_34 ?_
        refine lv_iconst (v := nI 4) hx hb dX3_even_35 (by decide) ?_
        refine r_iald hx hb hK hf rfl 4 (by omega) (by decide) (v := nI (uO z k)) e4 dX3_even_36 ?_
        refine lv_istore_n (lv' := [(3, .int (nI (uO z k))), (0, .ref b), (1, .int u), (2, .int n)]) hx hb dX3_even_37 rfl hl (by decide) rfl (fun ls hl => ?_)
        refine lv_iload_n hx hb dX3_even_38 rfl (lv_at hl 0 rfl) ?_
        refine r_ifneN hx hb (by omega) dX3_even_39 (tgt := 44) (by decide) (fun c5 => ?_) (fun c5 => ?_)
        · refine lv_aload_n hx hb dX3_even_44 rfl (lv_at hl 1 rfl) ?_
          refine lv_iload_n hx hb dX3_even_45 rfl (lv_at hl 2 rfl) ?_
          refine r_top (y := nI k) ek ?_
          refine lv_iload_n hx hb dX3_even_46 rfl (lv_at hl 3 rfl) ?_
          refine r_top (y := nI j) ej ?_
          refine r_mV (av := [.int (nI k), .int (nI j)]) (c_X3_countTimesOn l G t b z gr sl bc bk kp im hz k j hk (by omega)) ⟨hx, hb, hml, hown, hts⟩ (cwV 2 hts gX3_even_X3_countTimesOn rfl rfl rfl (by decide +kernel) ⟨Nat.le_of_ble_eq_true rfl, Nat.le_of_ble_eq_true rfl⟩) mv_K hB (at_recv hK x0 rfl) rfl hl (Nat.le_of_ble_eq_true rfl) ⟨Nat.le_of_ble_eq_true rfl, Nat.le_of_ble_eq_true rfl⟩ rfl dX3_even_47 hS (fun q h => h) (fun H locs hP hz9 hk hS => ?_)
          obtain ⟨hPX, f, h10, hf8⟩ := hP
          obtain ⟨x0, x1, -⟩ := id hPX
          have y0 := Sc_obj x1
          have y1 := (Sc_rows x1).1
          refine lv_iconst (v := nI 0) hx hb dX3_even_50 (by decide) ?_
          refine lv_istore (lv' := [(4, .int (nI 0)), (3, .int (nI (uO z k))), (0, .ref b), (1, .int u), (2, .int n)]) hx hb dX3_even_51 hl (by decide) rfl (fun ls hl => ?_)
          refine lv_iload_n hx hb dX3_even_53 rfl (lv_at hl 4 rfl) ?_
          refine r_top (y := nI j) ej ?_
          refine lv_istore (lv' := [(5, .int (nI j)), (4, .int (nI 0)), (3, .int (nI (uO z k))), (0, .ref b), (1, .int u), (2, .int n)]) hx hb dX3_even_54 hl (by decide) rfl (fun ls hl => ?_)
          refine lv_iconst (v := nI 0) hx hb dX3_even_56 (by decide) ?_
          refine lv_istore (lv' := [(6, .int (nI 0)), (5, .int (nI j)), (4, .int (nI 0)), (3, .int (nI (uO z k))), (0, .ref b), (1, .int u), (2, .int n)]) hx hb dX3_even_57 hl (by decide) rfl (fun ls hl => ?_)
          have loop59 : ∀ (fu : Nat) (i : Nat) (mo : Nat) (le : Nat) (hi : i ≤ cn z) (hmo : mo = moN z k j i) (hle : le = leN z k j i) (hfu : cn z - i < fu) (ls : Array Slot) (hl : lv_has ls 7 [(0, .ref b), (3, .int (nI (uO z k))), (4, .int (nI mo)), (5, .int (nI le)), (6, .int (nI i))]), W p l e (headSpec wsX3_even ({ frames := 5, cells := 0, slots := 0, locals := 121 } : Room)).room s m ([.ref b, .int u, .int n] : List Value).toArray below meth c H locs 0 0 (MQ below (qi_ (fun r H => r = rEven u n z ∧ PX G t b (z, gr, sl, bc, bk, kp, im) H) (iv b (b + 251))) ([.ref b, .int u, .int n] : List Value).toArray s 0 0 (iv b (b + 251))) (F0 m 59 ls []) := by
            intro fu
            induction fu with
            | zero => intro i mo le hi hmo hle hfu; exact absurd hfu (Nat.not_lt_zero _)
            | succ fu59 ih59 =>
              intro i mo le hi hmo hle hfu ls hl
              have hb1 := mo_le z k j i
              have hb2 := le_le z k j i
              have hb3 := tm_le z k j i
              refine lv_iload hx hb dX3_even_59 (lv_at hl 4 rfl) ?_
              refine lv_aload_n hx hb dX3_even_61 rfl (lv_at hl 0 rfl) ?_
              refine r_get (C := RX3) (T := TX3) (N := 8) hx hb hts iiX3_even_3 hown hK x0 rfl 0 (by decide) (hts (.fieldLink RX3 10 "HopMeet" "now" "LHopMeet$Scene;") (List.mem_of_getElem? (i := 3) rfl)) rfl dX3_even_62 ?_
              refine r_get (C := RX2) (T := TX2) (N := 6) hx hb hts iiX3_even_2 hown hK y0 rfl 0 (by decide) (hts (.fieldLink RX3 92 "HopMeet$Scene" "channelCount" "I") (List.mem_of_getElem? (i := 5) rfl)) rfl dX3_even_65 ?_
              refine r_geN hx hb (by omega) (by omega) dX3_even_68 (tgt := 114) (by decide) (fun c7 => ?_) (fun c7 => ?_)
              · refine lv_iload hx hb dX3_even_114 (lv_at hl 2 rfl) ?_
                refine lv_iload hx hb dX3_even_116 (lv_at hl 3 rfl) ?_
                refine lv_isub hx hb dX3_even_118 ?_
                exact r_retI (v := (nI mo) - (nI le)) hx hb hr hlocks hS ⟨by unfold rEven; rw [c1, c2, ekc, ejc, hmo, hle, show i = cn z by omega]; exact (if_neg c5).symm, hPX⟩ dX3_even_119
              · refine lv_iload_n hx hb dX3_even_71 rfl (lv_at hl 1 rfl) ?_
                refine lv_iload hx hb dX3_even_72 (lv_at hl 4 rfl) ?_
                refine r_cS (av := [.int (nI (uO z k)), .int (nI i)]) (c_X2_holds l G t (uO z k) i (by omega) (by omega)) ⟨hx, hb, hml, hown, hts⟩ (va_cwS 2 hts gX3_even_X2_holds rfl rfl rfl (by decide +kernel) ⟨Nat.le_of_ble_eq_true rfl, Nat.le_of_ble_eq_true rfl⟩) mv_T trivial rfl hl (Nat.le_of_ble_eq_true rfl) ⟨Nat.le_of_ble_eq_true rfl, Nat.le_of_ble_eq_true rfl⟩ rfl dX3_even_74 (fun r2 hr2 => ?_)
                subst hr2
                refine r_ifeqB hx hb dX3_even_77 (tgt := 108) (by decide) (fun c8 => ?_) (fun c8 => ?_)
                · refine lv_iinc (v := nI (i + 1)) (lv' := [(6, .int (nI (i + 1))), (0, .ref b), (3, .int (nI (uO z k))), (4, .int (nI mo)), (5, .int (nI le))]) hx hb dX3_even_108 hl (k := 4) rfl (nI_1 _) (by decide) rfl (fun ls hl => ?_)
                  refine lv_goto (tgt := 59) hx hb dX3_even_111 (by decide) ?_
                  exact ih59 (i + 1) mo le (by omega) (mo_n hmo c8) (le_n hle c8) (by omega) ls (lv_sub hl [1, 2, 3, 4, 0] rfl)
                · refine lv_iload hx hb dX3_even_80 (lv_at hl 2 rfl) ?_
                  refine lv_aload_n hx hb dX3_even_82 rfl (lv_at hl 0 rfl) ?_
                  refine r_get (C := RX3) (T := TX3) (N := 8) hx hb hts iiX3_even_3 hown hK x0 rfl 7 (by decide) (hts (.fieldLink RX3 45 "HopMeet" "timesOn" "[I") (List.mem_of_getElem? (i := 6) rfl)) rfl dX3_even_83 ?_
                  refine lv_iload hx hb dX3_even_86 (lv_at hl 4 rfl) ?_
                  refine r_iald hx hb hK h10 rfl i (by omega) (by decide) (v := nI (tmN z k j i)) (hf8 i (by omega)) dX3_even_88 ?_
                  refine va_mmax hx hb (by rw [hml]; exact hl.1.symm) hown (hts (.methodLink RX3 168 Lib.Math.max.name) (List.mem_of_getElem? (i := 7) rfl)) (hts (.static Lib.Math.max.name) (List.mem_of_getElem? (i := 8) rfl)) (hts (.initialized "java/lang/Math") (List.mem_of_getElem? (i := 9) rfl)) (hts (.code Lib.Math.max.name Lib.Math.max.code 2 (some .int)) (List.mem_of_getElem? (i := 10) rfl)) (Nat.le_of_ble_eq_true rfl) (Nat.le_of_ble_eq_true rfl) (Nat.le_of_ble_eq_true rfl) (Nat.le_of_ble_eq_true rfl) dX3_even_89 ?_
                  refine r_top (y := nI (if mo < tmN z k j i then tmN z k j i else mo)) (max_N (by omega) (by omega)) ?_
                  refine lv_istore (lv' := [(4, .int (nI (if mo < tmN z k j i then tmN z k j i else mo))), (0, .ref b), (3, .int (nI (uO z k))), (5, .int (nI le)), (6, .int (nI i))]) hx hb dX3_even_92 hl (by decide) rfl (fun ls hl => ?_)
                  refine lv_iload hx hb dX3_even_94 (lv_at hl 3 rfl) ?_
                  refine lv_aload_n hx hb dX3_even_96 rfl (lv_at hl 1 rfl) ?_
                  refine r_get (C := RX3) (T := TX3) (N := 8) hx hb hts iiX3_even_3 hown hK x0 rfl 7 (by decide) (hts (.fieldLink RX3 45 "HopMeet" "timesOn" "[I") (List.mem_of_getElem? (i := 6) rfl)) rfl dX3_even_97 ?_
                  refine lv_iload hx hb dX3_even_100 (lv_at hl 4 rfl) ?_
                  refine r_iald hx hb hK h10 rfl i (by omega) (by decide) (v := nI (tmN z k j i)) (hf8 i (by omega)) dX3_even_102 ?_
                  refine va_mmin hx hb (by rw [hml]; exact hl.1.symm) hown (hts (.methodLink RX3 173 Lib.Math.min.name) (List.mem_of_getElem? (i := 11) rfl)) (hts (.static Lib.Math.min.name) (List.mem_of_getElem? (i := 12) rfl)) (hts (.initialized "java/lang/Math") (List.mem_of_getElem? (i := 9) rfl)) (hts (.code Lib.Math.min.name Lib.Math.min.code 2 (some .int)) (List.mem_of_getElem? (i := 13) rfl)) (Nat.le_of_ble_eq_true rfl) (Nat.le_of_ble_eq_true rfl) (Nat.le_of_ble_eq_true rfl) (Nat.le_of_ble_eq_true rfl) dX3_even_103 ?_
                  refine r_top (y := nI (if tmN z k j i < le then tmN z k j i else le)) (min_N (by omega) (by omega)) ?_
                  refine lv_istore (lv' := [(5, .int (nI (if tmN z k j i < le then tmN z k j i else le))), (4, .int (nI (if mo < tmN z k j i then tmN z k j i else mo))), (0, .ref b), (3, .int (nI (uO z k))), (6, .int (nI i))]) hx hb dX3_even_106 hl (by decide) rfl (fun ls hl => ?_)
                  refine lv_iinc (v := nI (i + 1)) (lv' := [(6, .int (nI (i + 1))), (5, .int (nI (if tmN z k j i < le then tmN z k j i else le))), (4, .int (nI (if mo < tmN z k j i then tmN z k j i else mo))), (0, .ref b), (3, .int (nI (uO z k)))]) hx hb dX3_even_108 hl (k := 4) rfl (nI_1 _) (by decide) rfl (fun ls hl => ?_)
                  refine lv_goto (tgt := 59) hx hb dX3_even_111 (by decide) ?_
                  exact ih59 (i + 1) (if mo < tmN z k j i then tmN z k j i else mo) (if tmN z k j i < le then tmN z k j i else le) (by omega) (mo_y hmo c8) (le_y hle c8) (by omega) ls (lv_sub hl [3, 4, 2, 1, 0] rfl)
          exact loop59 _ 0 0 j (Nat.zero_le _) rfl rfl (Nat.lt_succ_self _) ls (lv_sub hl [4, 3, 2, 1, 0] rfl)
        · refine lv_iconst (v := nI 0) hx hb dX3_even_42 (by decide) ?_
          exact r_retI (v := nI 0) hx hb hr hlocks hS ⟨by unfold rEven; rw [c1, c2, ekc]; exact (if_pos c5).symm, hB.2⟩ dX3_even_43
      · refine lv_ldc (v := (-1000000002)) hx hb hown (hts (.constant RX3 48 (-1000000002)) (List.mem_of_getElem? (i := 2) rfl)) dX3_even_23 ?_
        exact r_retI (v := (-1000000002)) hx hb hr hlocks hS (by have c6 : inB n (nI 1) (nI 1500) = false := (by first | exact in_f1 c3 | exact in_f3 c4); exact ⟨by unfold rEven; rw [c1, c6]; rfl, hB.2⟩) dX3_even_25
  · refine lv_ldc (v := (-1000000001)) hx hb hown (hts (.constant RX3 83 (-1000000001)) (List.mem_of_getElem? (i := 1) rfl)) dX3_even_8 ?_
    exact r_retI (v := (-1000000001)) hx hb hr hlocks hS ⟨by unfold rEven; rw [c1]; rfl, hB.2⟩ dX3_even_10

set_option maxRecDepth 20000 in
theorem iiX3_run_3 : ∀ w ∈ wsX30, w ∈ wsX3_run := by decide +kernel
set_option maxRecDepth 20000 in
theorem iiX3_run_2 : ∀ w ∈ wsX20, w ∈ wsX3_run := by decide +kernel
set_option maxRecDepth 20000 in
theorem iiX3_run_0 : ∀ w ∈ wsX00, w ∈ wsX3_run := by decide +kernel
set_option maxHeartbeats 4000000 in
set_option maxRecDepth 100000 in
/-- slots are run -/
theorem c_X3_run (l : Launch) (G : va_G) (t : gT) (b : Nat) (z : Nat → Int32) (gr : Nat → Nat) (sl bc : Nat) (bk : Nat → Nat → Int32) (kp : Nat → Bool) (im : Nat → Nat → Int32) (hz : WF z) (hsl : sl ≤ 3000) (hg : ∀ u, gr u ≤ u) (hg2 : ∀ u, gr (gr u) = gr u) (n : Int32) : Met l yX3_run wsX3_run ({ frames := 6, cells := 0, slots := 0, locals := 143 } : Room) (pc_ [.ref b, .int n] (fun U H => KK G t U ∧ PX G t b (z, gr, sl, bc, bk, kp, im) H)) (qi_ (fun r H => r = rRun n z gr sl ∧ PX G t b (oRun n z gr sl bc bk kp im) H) (iv b (b + 251))) 0 0 (iv b (b + 251)) := by
  refine Met.ofW (cc := cX3_run) (maxL := 3) (ret := (some .int)) (by decide) rfl ?_
  intro p e s m args below meth c s₁ B hml hv
  obtain ⟨rfl, hB⟩ := hv
  have hx := B.exec
  have hb := B.bytes
  have hr := B.returns
  have hts := atoms_spec (ws := wsX3_run) B.pre
  have hown : s.vm.findClass RX3 = some m.cls := findClass_of_methodNamed B.named
  have hlocks := B.notSynchronized
  have hK := hB.1
  obtain ⟨x0, x1, x2, ⟨x3, jm, x4, x5⟩, x6, x7, x8, x9, x10⟩ := hB.2
  have y0 := Sc_obj x1
  have y1 := (Sc_rows x1).1
  obtain ⟨fo, fl, f2, g0, g1, g2, g3, g4⟩ := id x7
  obtain ⟨nx, p0⟩ := Pa_obj x2
  have hn := hz.n
  have hu5 := hz.u5
  have hs8 := hz.s8
  have hS : va_S (iv b (b + 251)) s.heap s.heap [] := va_S.rf
  have hl := lv_entry ([.ref b, .int n]) (n := 3) (Nat.le_of_ble_eq_true rfl)
  rw [lg_entry_eq]
  generalize (lg_sl ([.ref b, .int n]) ++ List.replicate (3 - (lg_sl ([.ref b, .int n])).length) Slot.unset).toArray = ls at hl ⊢
  have hl : lv_has ls 3 [(0, .ref b), (1, .int n)] := hl
  refine lv_iload_n hx hb dX3_run_0 rfl (lv_at hl 1 rfl) ?_
  refine lv_iconst (v := nI 1) hx hb dX3_run_1 (by decide) ?_
  refine lv_icmp_lt (tgt := 12) hx hb dX3_run_2 (by decide) (fun c1 => ?_) (fun c1 => ?_)
  · refine lv_ldc (v := (-1000000002)) hx hb hown (hts (.constant RX3 48 (-1000000002)) (List.mem_of_getElem? (i := 1) rfl)) dX3_run_12 ?_
    exact r_retI (v := (-1000000002)) hx hb hr hlocks hS (by have c3 : inB n (nI 1) (nI 200) = false := (by first | exact in_f1 c1 | exact in_f3 c2); exact ⟨by unfold rRun; rw [c3]; rfl, by unfold oRun; rw [and_f1 c3]; exact hB.2⟩) dX3_run_14
  · refine lv_iload_n hx hb dX3_run_5 rfl (lv_at hl 1 rfl) ?_
    refine lv_sipush (v := nI 200) hx hb dX3_run_6 (by decide) ?_
    refine lv_icmp_le (tgt := 15) hx hb dX3_run_9 (by decide) (fun c2 => ?_) (fun c2 => ?_)
    · have c3 := in_t2 c1 c2
      obtain ⟨j, ja, jb, ej⟩ := in_of (by decide) (by decide) c3
      have ejc : cl n = j := by rw [ej]; exact cl_N (by omega)
      refine lv_aload_n hx hb dX3_run_15 rfl (lv_at hl 0 rfl) ?_
      refine r_get (C := RX3) (T := TX3) (N := 8) hx hb hts iiX3_run_3 hown hK x0 rfl 0 (by decide) (hts (.fieldLink RX3 10 "HopMeet" "now" "LHopMeet$Scene;") (List.mem_of_getElem? (i := 2) rfl)) rfl dX3_run_16 ?_
      refine r_get (C := RX2) (T := TX2) (N := 6) hx hb hts iiX3_run_2 hown hK y0 rfl 2 (by decide) (hts (.fieldLink RX3 67 "HopMeet$Scene" "userCount" "I") (List.mem_of_getElem? (i := 3) rfl)) rfl dX3_run_19 ?_
      refine r_ifneN hx hb (by omega) dX3_run_22 (tgt := 28) (by decide) (fun c4 => ?_) (fun c4 => ?_)
      · refine lv_aload_n hx hb dX3_run_28 rfl (lv_at hl 0 rfl) ?_
        refine r_get (C := RX3) (T := TX3) (N := 8) hx hb hts iiX3_run_3 hown hK x0 rfl 4 (by decide) (hts (.fieldLink RX3 34 "HopMeet" "groups" "LHopMeet$Groups;") (List.mem_of_getElem? (i := 5) rfl)) rfl dX3_run_29 ?_
        refine r_get (C := RX0) (T := TX0) (N := 4) hx hb hts iiX3_run_0 hown hK g0 rfl 0 (by decide) (hts (.fieldLink RX3 115 "HopMeet$Groups" "slotsRun" "I") (List.mem_of_getElem? (i := 6) rfl)) rfl dX3_run_32 ?_
        refine lv_sipush (v := nI 3000) hx hb dX3_run_35 (by decide) ?_
        refine r_ltN hx hb (by omega) (by omega) dX3_run_38 (tgt := 44) (by decide) (fun c5 => ?_) (fun c5 => ?_)
        · refine lv_iconst (v := nI 0) hx hb dX3_run_44 (by decide) ?_
          refine lv_istore_n (lv' := [(2, .int (nI 0)), (0, .ref b), (1, .int n)]) hx hb dX3_run_45 rfl hl (by decide) rfl (fun ls hl => ?_)
          have loop46 : ∀ (fu : Nat) (i : Nat) (g : Nat → Nat) (q : Nat) (hi : i ≤ j) (hq3 : q ≤ 3000) (hg : ∀ u, g u ≤ u) (hg2 : ∀ u, g (g u) = g u) (hrn : rnS z (j - i) (g, q) = rnS z j (gr, sl)) (hfu : j - i < fu) (H : Heap) (locs : List Loc) (x0 : at_ G b (.inr (3, [.ref (b + 1), .ref (b + 17), .ref (b + 211), .ref (b + 244), .ref (b + 245), .ref (b + 248), .ref (b + 249), .ref (b + 250)])) H) (y0 : at_ G (b + 1) (.inr (2, [.int (nI (cn z)), .int (nI (prN (cn z))), .int (nI (cu z)), .int (nI (cs z)), .ref (b + 1 + 1), .ref (b + 1 + 7)])) H) (y1 : at_ G (b + 1 + 1) (aR t 5 (rowsF 5 (b + 1 + 2))) H) (p0 : at_ G (b + 17) (.inr (1, [.ref (b + 17 + 1), .int (nI nx), .int (nI bc)])) H) (x6 : at_ G (b + 244) (aZ t 2 (fun i => bI (kp i))) H) (x3 : at_ G (b + 211) (aQ t 2 (rowsG 2 (b + 212))) H) (x1 : Sc G t (b + 1) z H) (x2 : Pa G t (b + 17) bc bk H) (x4 : ∀ i, i < 2 → Sc G t (b + 212 + 16 * i) (jm i) H) (x7 : Gp G t (b + 245) g q (cu z) H) (x8 : ∃ f, at_ G (b + 248) (aI t 1700 f) H) (x9 : ∃ f, at_ G (b + 249) (aI t 1500 f) H) (x10 : ∃ f, at_ G (b + 250) (aI t 10 f) H) (hS : va_S (iv b (b + 251)) s.heap H locs) (ls : Array Slot) (hl : lv_has ls 3 [(0, .ref b), (1, .int n), (2, .int (nI i))]), W p l e (headSpec wsX3_run ({ frames := 6, cells := 0, slots := 0, locals := 143 } : Room)).room s m ([.ref b, .int n] : List Value).toArray below meth c H locs 0 0 (MQ below (qi_ (fun r H => r = rRun n z gr sl ∧ PX G t b (oRun n z gr sl bc bk kp im) H) (iv b (b + 251))) ([.ref b, .int n] : List Value).toArray s 0 0 (iv b (b + 251))) (F0 m 46 ls []) := by
            intro fu
            induction fu with
            | zero => intro i g q hi hq3 hg hg2 hrn hfu; exact absurd hfu (Nat.not_lt_zero _)
            | succ fu46 ih46 =>
              intro i g q hi hq3 hg hg2 hrn hfu H locs x0 y0 y1 p0 x6 x3 x1 x2 x4 x7 x8 x9 x10 hS ls hl
              obtain ⟨fo, fl, f2, g0, g1, g2, g3, g4⟩ := id x7
              refine lv_iload_n hx hb dX3_run_46 rfl (lv_at hl 2 rfl) ?_
              refine lv_iload_n hx hb dX3_run_47 rfl (lv_at hl 1 rfl) ?_
              refine r_top (y := nI j) ej ?_
              refine r_geN hx hb (by omega) (by omega) dX3_run_48 (tgt := 81) (by decide) (fun c6 => ?_) (fun c6 => ?_)
              · refine lv_aload_n hx hb dX3_run_81 rfl (lv_at hl 0 rfl) ?_
                refine r_get (C := RX3) (T := TX3) (N := 8) hx hb hts iiX3_run_3 hown hK x0 rfl 4 (by decide) (hts (.fieldLink RX3 34 "HopMeet" "groups" "LHopMeet$Groups;") (List.mem_of_getElem? (i := 5) rfl)) rfl dX3_run_82 ?_
                refine r_cV (av := []) (c_X0_howMany l G t (b + 245) g q (cu z) (fun u _ => hg u) hu5) ⟨hx, hb, hml, hown, hts⟩ (cwV 0 hts gX3_run_X0_howMany rfl rfl rfl (by decide +kernel) ⟨Nat.le_of_ble_eq_true rfl, Nat.le_of_ble_eq_true rfl⟩) mv_K ⟨hK, x7⟩ (at_recv hK g0 rfl) rfl hl (Nat.le_of_ble_eq_true rfl) ⟨Nat.le_of_ble_eq_true rfl, Nat.le_of_ble_eq_true rfl⟩ rfl dX3_run_85 (fun r1 hr1 => ?_)
                subst hr1
                exact r_retI (v := nI (grN g (cu z))) hx hb hr hlocks hS (by have hend : rnS z j (gr, sl) = (g, q) := (by first | (rw [← hrn, show j - i = 0 by omega]; rfl) | (rw [← hrn, rnS_full (by show ¬ q < 3000; omega)])); exact ⟨by unfold rRun; rw [c3, decide_eq_false c4, decide_eq_true c5, ejc, hend]; rfl, by unfold oRun; rw [and_t c3 (and_t (by rw [decide_eq_false c4]; rfl) (decide_eq_true c5)), ejc, hend]; exact PX_mk x0 x1 x2 x3 x4 x5 x6 x7 x8 x9 x10⟩) dX3_run_88
              · refine lv_aload_n hx hb dX3_run_51 rfl (lv_at hl 0 rfl) ?_
                refine r_get (C := RX3) (T := TX3) (N := 8) hx hb hts iiX3_run_3 hown hK x0 rfl 4 (by decide) (hts (.fieldLink RX3 34 "HopMeet" "groups" "LHopMeet$Groups;") (List.mem_of_getElem? (i := 5) rfl)) rfl dX3_run_52 ?_
                refine r_get (C := RX0) (T := TX0) (N := 4) hx hb hts iiX3_run_0 hown hK g0 rfl 0 (by decide) (hts (.fieldLink RX3 115 "HopMeet$Groups" "slotsRun" "I") (List.mem_of_getElem? (i := 6) rfl)) rfl dX3_run_55 ?_
                refine lv_sipush (v := nI 3000) hx hb dX3_run_58 (by decide) ?_
                refine r_geN hx hb (by omega) (by omega) dX3_run_61 (tgt := 81) (by decide) (fun c7 => ?_) (fun c7 => ?_)
                · refine lv_aload_n hx hb dX3_run_81 rfl (lv_at hl 0 rfl) ?_
                  refine r_get (C := RX3) (T := TX3) (N := 8) hx hb hts iiX3_run_3 hown hK x0 rfl 4 (by decide) (hts (.fieldLink RX3 34 "HopMeet" "groups" "LHopMeet$Groups;") (List.mem_of_getElem? (i := 5) rfl)) rfl dX3_run_82 ?_
                  refine r_cV (av := []) (c_X0_howMany l G t (b + 245) g q (cu z) (fun u _ => hg u) hu5) ⟨hx, hb, hml, hown, hts⟩ (cwV 0 hts gX3_run_X0_howMany rfl rfl rfl (by decide +kernel) ⟨Nat.le_of_ble_eq_true rfl, Nat.le_of_ble_eq_true rfl⟩) mv_K ⟨hK, x7⟩ (at_recv hK g0 rfl) rfl hl (Nat.le_of_ble_eq_true rfl) ⟨Nat.le_of_ble_eq_true rfl, Nat.le_of_ble_eq_true rfl⟩ rfl dX3_run_85 (fun r2 hr2 => ?_)
                  subst hr2
                  exact r_retI (v := nI (grN g (cu z))) hx hb hr hlocks hS (by have hend : rnS z j (gr, sl) = (g, q) := (by first | (rw [← hrn, show j - i = 0 by omega]; rfl) | (rw [← hrn, rnS_full (by show ¬ q < 3000; omega)])); exact ⟨by unfold rRun; rw [c3, decide_eq_false c4, decide_eq_true c5, ejc, hend]; rfl, by unfold oRun; rw [and_t c3 (and_t (by rw [decide_eq_false c4]; rfl) (decide_eq_true c5)), ejc, hend]; exact PX_mk x0 x1 x2 x3 x4 x5 x6 x7 x8 x9 x10⟩) dX3_run_88
                · refine lv_aload_n hx hb dX3_run_64 rfl (lv_at hl 0 rfl) ?_
                  refine r_get (C := RX3) (T := TX3) (N := 8) hx hb hts iiX3_run_3 hown hK x0 rfl 4 (by decide) (hts (.fieldLink RX3 34 "HopMeet" "groups" "LHopMeet$Groups;") (List.mem_of_getElem? (i := 5) rfl)) rfl dX3_run_65 ?_
                  refine lv_aload_n hx hb dX3_run_68 rfl (lv_at hl 0 rfl) ?_
                  refine r_get (C := RX3) (T := TX3) (N := 8) hx hb hts iiX3_run_3 hown hK x0 rfl 0 (by decide) (hts (.fieldLink RX3 10 "HopMeet" "now" "LHopMeet$Scene;") (List.mem_of_getElem? (i := 2) rfl)) rfl dX3_run_69 ?_
                  refine r_mV (av := [.ref (b + 1)]) (c_X0_runSlot l G t (b + 245) g q (cu z) z (b + 1) hz (Or.inr (by omega)) rfl (by omega) hg hg2) ⟨hx, hb, hml, hown, hts⟩ (cwV 1 hts gX3_run_X0_runSlot rfl rfl rfl (by decide +kernel) ⟨Nat.le_of_ble_eq_true rfl, Nat.le_of_ble_eq_true rfl⟩) mv_K ⟨hK, x7, x1⟩ (at_recv hK g0 rfl) rfl hl (Nat.le_of_ble_eq_true rfl) ⟨Nat.le_of_ble_eq_true rfl, Nat.le_of_ble_eq_true rfl⟩ rfl dX3_run_72 hS (iv_sub (by omega) (by omega)) (fun H locs hP hz9 hk hS => ?_)
                  have x0 := at_keptA x0 hk (iv_no (by omega))
                  have y0 := at_keptA y0 hk (iv_no (by omega))
                  have y1 := at_keptA y1 hk (iv_no (by omega))
                  have p0 := at_keptA p0 hk (iv_no (by omega))
                  have x6 := at_keptA x6 hk (iv_no (by omega))
                  have x3 := at_keptA x3 hk (iv_no (by omega))
                  have x1 := Sc_keptA x1 hk (fun q h8 h9 => iv_no (by omega))
                  have x2 := Pa_keptA x2 hk (fun q h8 h9 => iv_no (by omega))
                  have x4 := fun i hi => Sc_keptA (x4 i hi) hk (fun q h8 h9 => iv_no (by omega))
                  have x7 := hP
                  have x8 := ex_keptA x8 hk (iv_no (by omega))
                  have x9 := ex_keptA x9 hk (iv_no (by omega))
                  have x10 := ex_keptA x10 hk (iv_no (by omega))
                  refine lv_iinc (v := nI (i + 1)) (lv' := [(2, .int (nI (i + 1))), (0, .ref b), (1, .int n)]) hx hb dX3_run_75 hl (k := 2) rfl (nI_1 _) (by decide) rfl (fun ls hl => ?_)
                  refine lv_goto (tgt := 46) hx hb dX3_run_78 (by decide) ?_
                  exact ih46 (i + 1) (grS z g q) (q + 1) (by omega) (by omega) (grS_le hg) (grS_idem hg2) (rn_step hrn c6 c7) (by omega) _ _ x0 y0 y1 p0 x6 x3 x1 x2 x4 x7 x8 x9 x10 hS ls (lv_sub hl [1, 2, 0] rfl)
          exact loop46 _ 0 gr sl (Nat.zero_le _) hsl hg hg2 rfl (Nat.lt_succ_self _) _ _ x0 y0 y1 p0 x6 x3 x1 x2 x4 x7 x8 x9 x10 hS ls (lv_sub hl [1, 2, 0] rfl)
        · refine lv_ldc (v := (-1000000004)) hx hb hown (hts (.constant RX3 70 (-1000000004)) (List.mem_of_getElem? (i := 7) rfl)) dX3_run_41 ?_
          exact r_retI (v := (-1000000004)) hx hb hr hlocks hS ⟨by unfold rRun; rw [c3, decide_eq_false c4, decide_eq_false (by omega)]; rfl, by unfold oRun; rw [and_f2 (and_f2 (decide_eq_false (by omega)))]; exact hB.2⟩ dX3_run_43
      · refine lv_ldc (v := (-1000000003)) hx hb hown (hts (.constant RX3 102 (-1000000003)) (List.mem_of_getElem? (i := 4) rfl)) dX3_run_25 ?_
        exact r_retI (v := (-1000000003)) hx hb hr hlocks hS ⟨by unfold rRun; rw [c3, decide_eq_true c4]; rfl, by unfold oRun; rw [and_f2 (and_f1 (by rw [decide_eq_true c4]; rfl))]; exact hB.2⟩ dX3_run_27
    · refine lv_ldc (v := (-1000000002)) hx hb hown (hts (.constant RX3 48 (-1000000002)) (List.mem_of_getElem? (i := 1) rfl)) dX3_run_12 ?_
      exact r_retI (v := (-1000000002)) hx hb hr hlocks hS (by have c3 : inB n (nI 1) (nI 200) = false := (by first | exact in_f1 c1 | exact in_f3 c2); exact ⟨by unfold rRun; rw [c3]; rfl, by unfold oRun; rw [and_f1 c3]; exact hB.2⟩) dX3_run_14

set_option maxRecDepth 20000 in
theorem iiX3_merge_3 : ∀ w ∈ wsX30, w ∈ wsX3_merge := by decide +kernel
set_option maxRecDepth 20000 in
theorem iiX3_merge_2 : ∀ w ∈ wsX20, w ∈ wsX3_merge := by decide +kernel
set_option maxRecDepth 20000 in
theorem iiX3_merge_0 : ∀ w ∈ wsX00, w ∈ wsX3_merge := by decide +kernel
set_option maxHeartbeats 4000000 in
set_option maxRecDepth 100000 in
/-- run till all are one -/
theorem c_X3_merge (l : Launch) (G : va_G) (t : gT) (b : Nat) (z : Nat → Int32) (gr : Nat → Nat) (sl bc : Nat) (bk : Nat → Nat → Int32) (kp : Nat → Bool) (im : Nat → Nat → Int32) (hz : WF z) (hsl : sl ≤ 3000) (hg : ∀ u, gr u ≤ u) (hg2 : ∀ u, gr (gr u) = gr u) : Met l yX3_merge wsX3_merge ({ frames := 6, cells := 0, slots := 0, locals := 143 } : Room) (pc_ [.ref b] (fun U H => KK G t U ∧ PX G t b (z, gr, sl, bc, bk, kp, im) H)) (qi_ (fun r H => r = rMerge z gr sl ∧ PX G t b (oMerge z gr sl bc bk kp im) H) (iv b (b + 251))) 0 0 (iv b (b + 251)) := by
  refine Met.ofW (cc := cX3_merge) (maxL := 2) (ret := (some .int)) (by decide) rfl ?_
  intro p e s m args below meth c s₁ B hml hv
  obtain ⟨rfl, hB⟩ := hv
  have hx := B.exec
  have hb := B.bytes
  have hr := B.returns
  have hts := atoms_spec (ws := wsX3_merge) B.pre
  have hown : s.vm.findClass RX3 = some m.cls := findClass_of_methodNamed B.named
  have hlocks := B.notSynchronized
  have hK := hB.1
  obtain ⟨x0, x1, x2, ⟨x3, jm, x4, x5⟩, x6, x7, x8, x9, x10⟩ := hB.2
  have y0 := Sc_obj x1
  have y1 := (Sc_rows x1).1
  obtain ⟨fo, fl, f2, g0, g1, g2, g3, g4⟩ := id x7
  obtain ⟨nx, p0⟩ := Pa_obj x2
  have hn := hz.n
  have hu5 := hz.u5
  have hs8 := hz.s8
  have hS : va_S (iv b (b + 251)) s.heap s.heap [] := va_S.rf
  have hl := lv_entry ([.ref b]) (n := 2) (Nat.le_of_ble_eq_true rfl)
  rw [lg_entry_eq]
  generalize (lg_sl ([.ref b]) ++ List.replicate (2 - (lg_sl ([.ref b])).length) Slot.unset).toArray = ls at hl ⊢
  have hl : lv_has ls 2 [(0, .ref b)] := hl
  refine lv_aload_n hx hb dX3_merge_0 rfl (lv_at hl 0 rfl) ?_
  refine r_get (C := RX3) (T := TX3) (N := 8) hx hb hts iiX3_merge_3 hown hK x0 rfl 0 (by decide) (hts (.fieldLink RX3 10 "HopMeet" "now" "LHopMeet$Scene;") (List.mem_of_getElem? (i := 1) rfl)) rfl dX3_merge_1 ?_
  refine r_get (C := RX2) (T := TX2) (N := 6) hx hb hts iiX3_merge_2 hown hK y0 rfl 2 (by decide) (hts (.fieldLink RX3 67 "HopMeet$Scene" "userCount" "I") (List.mem_of_getElem? (i := 2) rfl)) rfl dX3_merge_4 ?_
  refine r_ifneN hx hb (by omega) dX3_merge_7 (tgt := 13) (by decide) (fun c4 => ?_) (fun c4 => ?_)
  · refine lv_iconst (v := nI 0) hx hb dX3_merge_13 (by decide) ?_
    refine lv_istore_n (lv' := [(1, .int (nI 0)), (0, .ref b)]) hx hb dX3_merge_14 rfl hl (by decide) rfl (fun ls hl => ?_)
    have loop15 : ∀ (fu : Nat) (i : Nat) (g : Nat → Nat) (q : Nat) (hi : i ≤ 1500) (hq3 : q ≤ 3000) (hg : ∀ u, g u ≤ u) (hg2 : ∀ u, g (g u) = g u) (hrn : mgS z (1500 - i) (g, q) = mgS z 1500 (gr, sl)) (hfu : 1500 - i < fu) (H : Heap) (locs : List Loc) (x0 : at_ G b (.inr (3, [.ref (b + 1), .ref (b + 17), .ref (b + 211), .ref (b + 244), .ref (b + 245), .ref (b + 248), .ref (b + 249), .ref (b + 250)])) H) (y0 : at_ G (b + 1) (.inr (2, [.int (nI (cn z)), .int (nI (prN (cn z))), .int (nI (cu z)), .int (nI (cs z)), .ref (b + 1 + 1), .ref (b + 1 + 7)])) H) (y1 : at_ G (b + 1 + 1) (aR t 5 (rowsF 5 (b + 1 + 2))) H) (p0 : at_ G (b + 17) (.inr (1, [.ref (b + 17 + 1), .int (nI nx), .int (nI bc)])) H) (x6 : at_ G (b + 244) (aZ t 2 (fun i => bI (kp i))) H) (x3 : at_ G (b + 211) (aQ t 2 (rowsG 2 (b + 212))) H) (x1 : Sc G t (b + 1) z H) (x2 : Pa G t (b + 17) bc bk H) (x4 : ∀ i, i < 2 → Sc G t (b + 212 + 16 * i) (jm i) H) (x7 : Gp G t (b + 245) g q (cu z) H) (x8 : ∃ f, at_ G (b + 248) (aI t 1700 f) H) (x9 : ∃ f, at_ G (b + 249) (aI t 1500 f) H) (x10 : ∃ f, at_ G (b + 250) (aI t 10 f) H) (hS : va_S (iv b (b + 251)) s.heap H locs) (ls : Array Slot) (hl : lv_has ls 2 [(0, .ref b), (1, .int (nI i))]), W p l e (headSpec wsX3_merge ({ frames := 6, cells := 0, slots := 0, locals := 143 } : Room)).room s m ([.ref b] : List Value).toArray below meth c H locs 0 0 (MQ below (qi_ (fun r H => r = rMerge z gr sl ∧ PX G t b (oMerge z gr sl bc bk kp im) H) (iv b (b + 251))) ([.ref b] : List Value).toArray s 0 0 (iv b (b + 251))) (F0 m 15 ls []) := by
      intro fu
      induction fu with
      | zero => intro i g q hi hq3 hg hg2 hrn hfu; exact absurd hfu (Nat.not_lt_zero _)
      | succ fu15 ih15 =>
        intro i g q hi hq3 hg hg2 hrn hfu H locs x0 y0 y1 p0 x6 x3 x1 x2 x4 x7 x8 x9 x10 hS ls hl
        obtain ⟨fo, fl, f2, g0, g1, g2, g3, g4⟩ := id x7
        refine lv_iload_n hx hb dX3_merge_15 rfl (lv_at hl 1 rfl) ?_
        refine lv_sipush (v := nI 1500) hx hb dX3_merge_16 (by decide) ?_
        refine r_geN hx hb (by omega) (by omega) dX3_merge_19 (tgt := 63) (by decide) (fun c6 => ?_) (fun c6 => ?_)
        · refine lv_aload_n hx hb dX3_merge_63 rfl (lv_at hl 0 rfl) ?_
          refine r_get (C := RX3) (T := TX3) (N := 8) hx hb hts iiX3_merge_3 hown hK x0 rfl 4 (by decide) (hts (.fieldLink RX3 34 "HopMeet" "groups" "LHopMeet$Groups;") (List.mem_of_getElem? (i := 4) rfl)) rfl dX3_merge_64 ?_
          refine r_get (C := RX0) (T := TX0) (N := 4) hx hb hts iiX3_merge_0 hown hK g0 rfl 0 (by decide) (hts (.fieldLink RX3 115 "HopMeet$Groups" "slotsRun" "I") (List.mem_of_getElem? (i := 5) rfl)) rfl dX3_merge_67 ?_
          exact r_retI (v := nI q) hx hb hr hlocks hS (by have hend : mgS z 1500 (gr, sl) = (g, q) := (by first | (rw [← hrn, show 1500 - i = 0 by omega]; rfl) | (rw [← hrn, mgS_end (fun h => by have h8 : q < 3000 := h.1; omega)]) | (rw [← hrn, mgS_end (fun h => by have h8 : 1 < grN g (cu z) := h.2; omega)])); exact ⟨by unfold rMerge; rw [decide_eq_false c4, hend]; rfl, by unfold oMerge; rw [decide_eq_false c4, hend]; exact PX_mk x0 x1 x2 x3 x4 x5 x6 x7 x8 x9 x10⟩) dX3_merge_70
        · refine lv_aload_n hx hb dX3_merge_22 rfl (lv_at hl 0 rfl) ?_
          refine r_get (C := RX3) (T := TX3) (N := 8) hx hb hts iiX3_merge_3 hown hK x0 rfl 4 (by decide) (hts (.fieldLink RX3 34 "HopMeet" "groups" "LHopMeet$Groups;") (List.mem_of_getElem? (i := 4) rfl)) rfl dX3_merge_23 ?_
          refine r_get (C := RX0) (T := TX0) (N := 4) hx hb hts iiX3_merge_0 hown hK g0 rfl 0 (by decide) (hts (.fieldLink RX3 115 "HopMeet$Groups" "slotsRun" "I") (List.mem_of_getElem? (i := 5) rfl)) rfl dX3_merge_26 ?_
          refine lv_sipush (v := nI 3000) hx hb dX3_merge_29 (by decide) ?_
          refine r_geN hx hb (by omega) (by omega) dX3_merge_32 (tgt := 63) (by decide) (fun c7 => ?_) (fun c7 => ?_)
          · refine lv_aload_n hx hb dX3_merge_63 rfl (lv_at hl 0 rfl) ?_
            refine r_get (C := RX3) (T := TX3) (N := 8) hx hb hts iiX3_merge_3 hown hK x0 rfl 4 (by decide) (hts (.fieldLink RX3 34 "HopMeet" "groups" "LHopMeet$Groups;") (List.mem_of_getElem? (i := 4) rfl)) rfl dX3_merge_64 ?_
            refine r_get (C := RX0) (T := TX0) (N := 4) hx hb hts iiX3_merge_0 hown hK g0 rfl 0 (by decide) (hts (.fieldLink RX3 115 "HopMeet$Groups" "slotsRun" "I") (List.mem_of_getElem? (i := 5) rfl)) rfl dX3_merge_67 ?_
            exact r_retI (v := nI q) hx hb hr hlocks hS (by have hend : mgS z 1500 (gr, sl) = (g, q) := (by first | (rw [← hrn, show 1500 - i = 0 by omega]; rfl) | (rw [← hrn, mgS_end (fun h => by have h8 : q < 3000 := h.1; omega)]) | (rw [← hrn, mgS_end (fun h => by have h8 : 1 < grN g (cu z) := h.2; omega)])); exact ⟨by unfold rMerge; rw [decide_eq_false c4, hend]; rfl, by unfold oMerge; rw [decide_eq_false c4, hend]; exact PX_mk x0 x1 x2 x3 x4 x5 x6 x7 x8 x9 x10⟩) dX3_merge_70
          · refine lv_aload_n hx hb dX3_merge_35 rfl (lv_at hl 0 rfl) ?_
            refine r_get (C := RX3) (T := TX3) (N := 8) hx hb hts iiX3_merge_3 hown hK x0 rfl 4 (by decide) (hts (.fieldLink RX3 34 "HopMeet" "groups" "LHopMeet$Groups;") (List.mem_of_getElem? (i := 4) rfl)) rfl dX3_merge_36 ?_
            refine r_cV (av := []) (c_X0_howMany l G t (b + 245) g q (cu z) (fun u _ => hg u) hu5) ⟨hx, hb, hml, hown, hts⟩ (cwV 0 hts gX3_merge_X0_howMany rfl rfl rfl (by decide +kernel) ⟨Nat.le_of_ble_eq_true rfl, Nat.le_of_ble_eq_true rfl⟩) mv_K ⟨hK, x7⟩ (at_recv hK g0 rfl) rfl hl (Nat.le_of_ble_eq_true rfl) ⟨Nat.le_of_ble_eq_true rfl, Nat.le_of_ble_eq_true rfl⟩ rfl dX3_merge_39 (fun r1 hr1 => ?_)
            subst hr1
            refine lv_iconst (v := nI 1) hx hb dX3_merge_42 (by decide) ?_
            refine r_leN hx hb (Nat.lt_of_le_of_lt (cnt_le _ _) (by omega)) (by decide) dX3_merge_43 (tgt := 63) (by decide) (fun c8 => ?_) (fun c8 => ?_)
            · refine lv_aload_n hx hb dX3_merge_63 rfl (lv_at hl 0 rfl) ?_
              refine r_get (C := RX3) (T := TX3) (N := 8) hx hb hts iiX3_merge_3 hown hK x0 rfl 4 (by decide) (hts (.fieldLink RX3 34 "HopMeet" "groups" "LHopMeet$Groups;") (List.mem_of_getElem? (i := 4) rfl)) rfl dX3_merge_64 ?_
              refine r_get (C := RX0) (T := TX0) (N := 4) hx hb hts iiX3_merge_0 hown hK g0 rfl 0 (by decide) (hts (.fieldLink RX3 115 "HopMeet$Groups" "slotsRun" "I") (List.mem_of_getElem? (i := 5) rfl)) rfl dX3_merge_67 ?_
              exact r_retI (v := nI q) hx hb hr hlocks hS (by have hend : mgS z 1500 (gr, sl) = (g, q) := (by first | (rw [← hrn, show 1500 - i = 0 by omega]; rfl) | (rw [← hrn, mgS_end (fun h => by have h8 : q < 3000 := h.1; omega)]) | (rw [← hrn, mgS_end (fun h => by have h8 : 1 < grN g (cu z) := h.2; omega)])); exact ⟨by unfold rMerge; rw [decide_eq_false c4, hend]; rfl, by unfold oMerge; rw [decide_eq_false c4, hend]; exact PX_mk x0 x1 x2 x3 x4 x5 x6 x7 x8 x9 x10⟩) dX3_merge_70
            · refine lv_aload_n hx hb dX3_merge_46 rfl (lv_at hl 0 rfl) ?_
              refine r_get (C := RX3) (T := TX3) (N := 8) hx hb hts iiX3_merge_3 hown hK x0 rfl 4 (by decide) (hts (.fieldLink RX3 34 "HopMeet" "groups" "LHopMeet$Groups;") (List.mem_of_getElem? (i := 4) rfl)) rfl dX3_merge_47 ?_
              refine lv_aload_n hx hb dX3_merge_50 rfl (lv_at hl 0 rfl) ?_
              refine r_get (C := RX3) (T := TX3) (N := 8) hx hb hts iiX3_merge_3 hown hK x0 rfl 0 (by decide) (hts (.fieldLink RX3 10 "HopMeet" "now" "LHopMeet$Scene;") (List.mem_of_getElem? (i := 1) rfl)) rfl dX3_merge_51 ?_
              refine r_mV (av := [.ref (b + 1)]) (c_X0_runSlot l G t (b + 245) g q (cu z) z (b + 1) hz (Or.inr (by omega)) rfl (by omega) hg hg2) ⟨hx, hb, hml, hown, hts⟩ (cwV 1 hts gX3_merge_X0_runSlot rfl rfl rfl (by decide +kernel) ⟨Nat.le_of_ble_eq_true rfl, Nat.le_of_ble_eq_true rfl⟩) mv_K ⟨hK, x7, x1⟩ (at_recv hK g0 rfl) rfl hl (Nat.le_of_ble_eq_true rfl) ⟨Nat.le_of_ble_eq_true rfl, Nat.le_of_ble_eq_true rfl⟩ rfl dX3_merge_54 hS (iv_sub (by omega) (by omega)) (fun H locs hP hz9 hk hS => ?_)
              have x0 := at_keptA x0 hk (iv_no (by omega))
              have y0 := at_keptA y0 hk (iv_no (by omega))
              have y1 := at_keptA y1 hk (iv_no (by omega))
              have p0 := at_keptA p0 hk (iv_no (by omega))
              have x6 := at_keptA x6 hk (iv_no (by omega))
              have x3 := at_keptA x3 hk (iv_no (by omega))
              have x1 := Sc_keptA x1 hk (fun q h8 h9 => iv_no (by omega))
              have x2 := Pa_keptA x2 hk (fun q h8 h9 => iv_no (by omega))
              have x4 := fun i hi => Sc_keptA (x4 i hi) hk (fun q h8 h9 => iv_no (by omega))
              have x7 := hP
              have x8 := ex_keptA x8 hk (iv_no (by omega))
              have x9 := ex_keptA x9 hk (iv_no (by omega))
              have x10 := ex_keptA x10 hk (iv_no (by omega))
              refine lv_iinc (v := nI (i + 1)) (lv' := [(1, .int (nI (i + 1))), (0, .ref b)]) hx hb dX3_merge_57 hl (k := 1) rfl (nI_1 _) (by decide) rfl (fun ls hl => ?_)
              refine lv_goto (tgt := 15) hx hb dX3_merge_60 (by decide) ?_
              exact ih15 (i + 1) (grS z g q) (q + 1) (by omega) (by omega) (grS_le hg) (grS_idem hg2) (mg_step hrn c6 c7 c8) (by omega) _ _ x0 y0 y1 p0 x6 x3 x1 x2 x4 x7 x8 x9 x10 hS ls (lv_sub hl [1, 0] rfl)
    exact loop15 _ 0 gr sl (Nat.zero_le _) hsl hg hg2 rfl (Nat.lt_succ_self _) _ _ x0 y0 y1 p0 x6 x3 x1 x2 x4 x7 x8 x9 x10 hS ls (lv_sub hl [1, 0] rfl)
  · refine lv_ldc (v := (-1000000003)) hx hb hown (hts (.constant RX3 102 (-1000000003)) (List.mem_of_getElem? (i := 3) rfl)) dX3_merge_10 ?_
    exact r_retI (v := (-1000000003)) hx hb hr hlocks hS ⟨by unfold rMerge; rw [decide_eq_true c4]; rfl, by unfold oMerge; rw [decide_eq_true c4]; exact hB.2⟩ dX3_merge_12
