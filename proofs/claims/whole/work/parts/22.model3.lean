/-! the reference: what changes it (printed by wip/whole/m10.py) -/
set_option maxHeartbeats 4000000 in
set_option maxRecDepth 100000 in
/-- a stretch is brought -/
theorem c_X4_bring (l : Launch) (G : va_G) (t : gT) (a1 a2 n1 n2 x y n : Nat) (f g : Nat → Int32) (hne : a1 ≠ a2) (hn1 : x + n ≤ n1) (hn2 : y + n ≤ n2) (hb1 : n1 < 1000) (hb2 : n2 < 1000) : Met l yX4_bring wsX4_bring ({ frames := 0, cells := 0, slots := 0, locals := 0 } : Room) (pc_ [.ref a1, .int (nI x), .ref a2, .int (nI y), .int (nI n)] (fun U H => KK G t U ∧ (at_ G a1 (aI t n1 f) H ∧ at_ G a2 (aI t n2 g) H))) (qv_ (fun H => at_ G a2 (aI t n2 (cpF f g x y n)) H) (iv a2 (a2 + 1))) 0 0 (iv a2 (a2 + 1)) := by
  refine Met.ofW (cc := cX4_bring) (maxL := 6) (ret := none) (by decide) rfl ?_
  intro p e s m args below meth c s₁ B hml hv
  obtain ⟨rfl, hB⟩ := hv
  have hx := B.exec
  have hb := B.bytes
  have hr := B.returns
  have hts := atoms_spec (ws := wsX4_bring) B.pre
  have hown : s.vm.findClass RX4 = some m.cls := findClass_of_methodNamed B.named
  have hlocks := B.notSynchronized
  have hK := hB.1
  obtain ⟨h1, h2⟩ := hB.2
  have hS : va_S (iv a2 (a2 + 1)) s.heap s.heap [] := va_S.rf
  have hl := lv_entry ([.ref a1, .int (nI x), .ref a2, .int (nI y), .int (nI n)]) (n := 6) (Nat.le_of_ble_eq_true rfl)
  rw [lg_entry_eq]
  generalize (lg_sl ([.ref a1, .int (nI x), .ref a2, .int (nI y), .int (nI n)]) ++ List.replicate (6 - (lg_sl ([.ref a1, .int (nI x), .ref a2, .int (nI y), .int (nI n)])).length) Slot.unset).toArray = ls at hl ⊢
  have hl : lv_has ls 6 [(0, .ref a1), (1, .int (nI x)), (2, .ref a2), (3, .int (nI y)), (4, .int (nI n))] := hl
  refine lv_iconst (v := nI 0) hx hb dX4_bring_0 (by decide) ?_
  refine lv_istore (lv' := [(5, .int (nI 0)), (0, .ref a1), (1, .int (nI x)), (2, .ref a2), (3, .int (nI y)), (4, .int (nI n))]) hx hb dX4_bring_1 hl (by decide) rfl (fun ls hl => ?_)
  have h2 : at_ G a2 (aI t n2 (cpF f g x y 0)) s.heap := by rw [cpF_0]; exact h2
  have loop3 : ∀ (fu : Nat) (k : Nat) (hk0 : k ≤ n) (hfu : n - k < fu) (H : Heap) (locs : List Loc) (h1 : at_ G a1 (aI t n1 f) H) (h2 : at_ G a2 (aI t n2 (cpF f g x y k)) H)  (hS : va_S (iv a2 (a2 + 1)) s.heap H locs) (ls : Array Slot) (hl : lv_has ls 6 [(0, .ref a1), (1, .int (nI x)), (2, .ref a2), (3, .int (nI y)), (4, .int (nI n)), (5, .int (nI k))]), W p l e (headSpec wsX4_bring ({ frames := 0, cells := 0, slots := 0, locals := 0 } : Room)).room s m ([.ref a1, .int (nI x), .ref a2, .int (nI y), .int (nI n)] : List Value).toArray below meth c H locs 0 0 (MQ below (qv_ (fun H => at_ G a2 (aI t n2 (cpF f g x y n)) H) (iv a2 (a2 + 1))) ([.ref a1, .int (nI x), .ref a2, .int (nI y), .int (nI n)] : List Value).toArray s 0 0 (iv a2 (a2 + 1))) (F0 m 3 ls []) := by
    intro fu
    induction fu with
    | zero => intro k hk0 hfu; exact absurd hfu (Nat.not_lt_zero _)
    | succ fu3 ih3 =>
      intro k hk0 hfu H locs h1 h2 hS ls hl
      refine lv_iload hx hb dX4_bring_3 (lv_at hl 5 rfl) ?_
      refine lv_iload hx hb dX4_bring_5 (lv_at hl 4 rfl) ?_
      refine r_geN hx hb (by omega) (by omega) dX4_bring_7 (tgt := 28) (by decide) (fun c1 => ?_) (fun c1 => ?_)
      · exact r_retV hx hb hr hlocks hS (by rw [show n = k by omega]; exact h2) dX4_bring_28
      · refine lv_aload_n hx hb dX4_bring_10 rfl (lv_at hl 2 rfl) ?_
        refine lv_iload_n hx hb dX4_bring_11 rfl (lv_at hl 3 rfl) ?_
        refine lv_iload hx hb dX4_bring_12 (lv_at hl 5 rfl) ?_
        refine r_iaddN hx hb dX4_bring_14 ?_
        refine lv_aload_n hx hb dX4_bring_15 rfl (lv_at hl 0 rfl) ?_
        refine lv_iload_n hx hb dX4_bring_16 rfl (lv_at hl 1 rfl) ?_
        refine lv_iload hx hb dX4_bring_17 (lv_at hl 5 rfl) ?_
        refine r_iaddN hx hb dX4_bring_19 ?_
        refine r_iald hx hb hK h1 rfl (x + k) (by omega) (by omega) (v := f (x + k)) rfl dX4_bring_20 ?_
        refine r_iast hx hb hK h2 ⟨by omega, by omega⟩ hS rfl (y + k) (by omega) (by omega) dX4_bring_21 (fun H locs h2 hz9 hq hS => ?_)
        rw [cpF_s] at h2
        have h1 := at_kept h1 (hq _ (by omega))
        refine lv_iinc (v := nI (k + 1)) (lv' := [(5, .int (nI (k + 1))), (0, .ref a1), (1, .int (nI x)), (2, .ref a2), (3, .int (nI y)), (4, .int (nI n))]) hx hb dX4_bring_22 hl (k := 5) rfl (nI_1 _) (by decide) rfl (fun ls hl => ?_)
        refine lv_goto (tgt := 3) hx hb dX4_bring_25 (by decide) ?_
        exact ih3 (k + 1) (by omega) (by omega) _ _ h1 h2 hS ls (lv_sub hl [1, 2, 3, 4, 5, 0] rfl)
  exact loop3 _ 0 (Nat.zero_le _) (Nat.lt_succ_self _) _ _ h1 h2 hS ls (lv_sub hl [1, 2, 3, 4, 5, 0] rfl)

set_option maxHeartbeats 4000000 in
set_option maxRecDepth 100000 in
/-- a row is moved down -/
theorem c_X4_bring2 (l : Launch) (G : va_G) (t : gT) (a1 n1 x n : Nat) (f : Nat → Int32) (hn1 : x + n ≤ n1) (hb1 : n1 < 1000) : Met l yX4_bring wsX4_bring ({ frames := 0, cells := 0, slots := 0, locals := 0 } : Room) (pc_ [.ref a1, .int (nI x), .ref a1, .int (nI 0), .int (nI n)] (fun U H => KK G t U ∧ at_ G a1 (aI t n1 f) H)) (qv_ (fun H => at_ G a1 (aI t n1 (shF f x n)) H) (iv a1 (a1 + 1))) 0 0 (iv a1 (a1 + 1)) := by
  refine Met.ofW (cc := cX4_bring) (maxL := 6) (ret := none) (by decide) rfl ?_
  intro p e s m args below meth c s₁ B hml hv
  obtain ⟨rfl, hB⟩ := hv
  have hx := B.exec
  have hb := B.bytes
  have hr := B.returns
  have hts := atoms_spec (ws := wsX4_bring) B.pre
  have hown : s.vm.findClass RX4 = some m.cls := findClass_of_methodNamed B.named
  have hlocks := B.notSynchronized
  have hK := hB.1
  have h1 := hB.2
  have hS : va_S (iv a1 (a1 + 1)) s.heap s.heap [] := va_S.rf
  have hl := lv_entry ([.ref a1, .int (nI x), .ref a1, .int (nI 0), .int (nI n)]) (n := 6) (Nat.le_of_ble_eq_true rfl)
  rw [lg_entry_eq]
  generalize (lg_sl ([.ref a1, .int (nI x), .ref a1, .int (nI 0), .int (nI n)]) ++ List.replicate (6 - (lg_sl ([.ref a1, .int (nI x), .ref a1, .int (nI 0), .int (nI n)])).length) Slot.unset).toArray = ls at hl ⊢
  have hl : lv_has ls 6 [(0, .ref a1), (1, .int (nI x)), (2, .ref a1), (3, .int (nI 0)), (4, .int (nI n))] := hl
  refine lv_iconst (v := nI 0) hx hb dX4_bring_0 (by decide) ?_
  refine lv_istore (lv' := [(5, .int (nI 0)), (0, .ref a1), (1, .int (nI x)), (2, .ref a1), (3, .int (nI 0)), (4, .int (nI n))]) hx hb dX4_bring_1 hl (by decide) rfl (fun ls hl => ?_)
  have h1 : at_ G a1 (aI t n1 (shF f x 0)) s.heap := by rw [shF_0]; exact h1
  have loop3 : ∀ (fu : Nat) (k : Nat) (hk0 : k ≤ n) (hfu : n - k < fu) (H : Heap) (locs : List Loc) (h1 : at_ G a1 (aI t n1 (shF f x k)) H)  (hS : va_S (iv a1 (a1 + 1)) s.heap H locs) (ls : Array Slot) (hl : lv_has ls 6 [(0, .ref a1), (1, .int (nI x)), (2, .ref a1), (3, .int (nI 0)), (4, .int (nI n)), (5, .int (nI k))]), W p l e (headSpec wsX4_bring ({ frames := 0, cells := 0, slots := 0, locals := 0 } : Room)).room s m ([.ref a1, .int (nI x), .ref a1, .int (nI 0), .int (nI n)] : List Value).toArray below meth c H locs 0 0 (MQ below (qv_ (fun H => at_ G a1 (aI t n1 (shF f x n)) H) (iv a1 (a1 + 1))) ([.ref a1, .int (nI x), .ref a1, .int (nI 0), .int (nI n)] : List Value).toArray s 0 0 (iv a1 (a1 + 1))) (F0 m 3 ls []) := by
    intro fu
    induction fu with
    | zero => intro k hk0 hfu; exact absurd hfu (Nat.not_lt_zero _)
    | succ fu3 ih3 =>
      intro k hk0 hfu H locs h1 hS ls hl
      refine lv_iload hx hb dX4_bring_3 (lv_at hl 5 rfl) ?_
      refine lv_iload hx hb dX4_bring_5 (lv_at hl 4 rfl) ?_
      refine r_geN hx hb (by omega) (by omega) dX4_bring_7 (tgt := 28) (by decide) (fun c1 => ?_) (fun c1 => ?_)
      · exact r_retV hx hb hr hlocks hS (by rw [show n = k by omega]; exact h1) dX4_bring_28
      · refine lv_aload_n hx hb dX4_bring_10 rfl (lv_at hl 2 rfl) ?_
        refine lv_iload_n hx hb dX4_bring_11 rfl (lv_at hl 3 rfl) ?_
        refine lv_iload hx hb dX4_bring_12 (lv_at hl 5 rfl) ?_
        refine r_iaddN hx hb dX4_bring_14 ?_
        refine lv_aload_n hx hb dX4_bring_15 rfl (lv_at hl 0 rfl) ?_
        refine lv_iload_n hx hb dX4_bring_16 rfl (lv_at hl 1 rfl) ?_
        refine lv_iload hx hb dX4_bring_17 (lv_at hl 5 rfl) ?_
        refine r_iaddN hx hb dX4_bring_19 ?_
        refine r_iald hx hb hK h1 rfl (x + k) (by omega) (by omega) (v := f (x + k)) shF_at dX4_bring_20 ?_
        refine r_iast hx hb hK h1 ⟨by omega, by omega⟩ hS rfl (0 + k) (by omega) (by omega) dX4_bring_21 (fun H locs h1 hz9 hq hS => ?_)
        rw [shF_s] at h1
        refine lv_iinc (v := nI (k + 1)) (lv' := [(5, .int (nI (k + 1))), (0, .ref a1), (1, .int (nI x)), (2, .ref a1), (3, .int (nI 0)), (4, .int (nI n))]) hx hb dX4_bring_22 hl (k := 5) rfl (nI_1 _) (by decide) rfl (fun ls hl => ?_)
        refine lv_goto (tgt := 3) hx hb dX4_bring_25 (by decide) ?_
        exact ih3 (k + 1) (by omega) (by omega) _ _ h1 hS ls (lv_sub hl [1, 2, 3, 4, 5, 0] rfl)
  exact loop3 _ 0 (Nat.zero_le _) (Nat.lt_succ_self _) _ _ h1 hS ls (lv_sub hl [1, 2, 3, 4, 5, 0] rfl)

set_option maxRecDepth 20000 in
theorem iiX4_anew_4 : ∀ w ∈ wsX40, w ∈ wsX4_anew := by decide +kernel
set_option maxHeartbeats 4000000 in
set_option maxRecDepth 100000 in
/-- each alone -/
theorem c_X4_anew (l : Launch) (G : va_G) (t : gT) (d : Nat) (bc sl pr : Int32) (lo : Int64) (fG : Nat → Int32) : Met l yX4_anew wsX4_anew ({ frames := 0, cells := 0, slots := 0, locals := 0 } : Room) (pc_ [.ref d] (fun U H => KK G t U ∧ (DO G d bc sl pr lo H ∧ at_ G (d + 5) (aI t 5 fG) H))) (qv_ (fun H => DO G d bc (nI 0) pr lo H ∧ ∃ f, at_ G (d + 5) (aI t 5 f) H ∧ ∀ u, u < 5 → f u = nI (idN u)) (iv2 d (d + 5))) 0 0 (iv2 d (d + 5)) := by
  refine Met.ofW (cc := cX4_anew) (maxL := 2) (ret := none) (by decide) rfl ?_
  intro p e s m args below meth c s₁ B hml hv
  obtain ⟨rfl, hB⟩ := hv
  have hx := B.exec
  have hb := B.bytes
  have hr := B.returns
  have hts := atoms_spec (ws := wsX4_anew) B.pre
  have hown : s.vm.findClass RX4 = some m.cls := findClass_of_methodNamed B.named
  have hlocks := B.notSynchronized
  have hK := hB.1
  obtain ⟨h0, h5⟩ := hB.2
  have hS : va_S (iv2 d (d + 5)) s.heap s.heap [] := va_S.rf
  have hl := lv_entry ([.ref d]) (n := 2) (Nat.le_of_ble_eq_true rfl)
  rw [lg_entry_eq]
  generalize (lg_sl ([.ref d]) ++ List.replicate (2 - (lg_sl ([.ref d])).length) Slot.unset).toArray = ls at hl ⊢
  have hl : lv_has ls 2 [(0, .ref d)] := hl
  refine lv_aload_n hx hb dX4_anew_0 rfl (lv_at hl 0 rfl) ?_
  refine lv_iconst (v := nI 0) hx hb dX4_anew_1 (by decide) ?_
  refine r_put (ty := .int) (ci := 4) (C := RX4) (T := TX4) (N := 10) (fs' := [.ref (d + 1), .int bc, .ref (d + 2), .ref (d + 3), .ref (d + 4), .int (nI 0), .int pr, .ref (d + 5), .ref (d + 6), .long lo]) hx hb hts iiX4_anew_4 tyX4 tyX4_ok nmX4 hown hK h0 (by first | exact Or.inl rfl | exact Or.inr rfl) hS rfl 5 (by decide) (hts (.fieldLink RX4 73 "HopMeetModel" "slots" "I") (List.mem_of_getElem? (i := 1) rfl)) rfl (by decide +kernel) rfl rfl (Nat.le_of_ble_eq_true rfl) rfl dX4_anew_2 (fun H locs h0 hz9 hq hS => ?_)
  have h5 := at_kept h5 (hq _ (by omega))
  refine lv_iconst (v := nI 0) hx hb dX4_anew_5 (by decide) ?_
  refine lv_istore_n (lv' := [(1, .int (nI 0)), (0, .ref d)]) hx hb dX4_anew_6 rfl hl (by decide) rfl (fun ls hl => ?_)
  have loop7 : ∀ (fu : Nat) (i : Nat) (f : Nat → Int32) (hi : i ≤ 5) (hf : ∀ u, u < i → f u = nI (idN u)) (hfu : 5 - i < fu) (H : Heap) (locs : List Loc) (h0 : at_ G d (.inr (4, [.ref (d + 1), .int bc, .ref (d + 2), .ref (d + 3), .ref (d + 4), .int (nI 0), .int pr, .ref (d + 5), .ref (d + 6), .long lo])) H) (h5 : at_ G (d + 5) (aI t 5 f) H)  (hS : va_S (iv2 d (d + 5)) s.heap H locs) (ls : Array Slot) (hl : lv_has ls 2 [(0, .ref d), (1, .int (nI i))]), W p l e (headSpec wsX4_anew ({ frames := 0, cells := 0, slots := 0, locals := 0 } : Room)).room s m ([.ref d] : List Value).toArray below meth c H locs 0 0 (MQ below (qv_ (fun H => DO G d bc (nI 0) pr lo H ∧ ∃ f, at_ G (d + 5) (aI t 5 f) H ∧ ∀ u, u < 5 → f u = nI (idN u)) (iv2 d (d + 5))) ([.ref d] : List Value).toArray s 0 0 (iv2 d (d + 5))) (F0 m 7 ls []) := by
    intro fu
    induction fu with
    | zero => intro i f hi hf hfu; exact absurd hfu (Nat.not_lt_zero _)
    | succ fu7 ih7 =>
      intro i f hi hf hfu H locs h0 h5 hS ls hl
      refine lv_iload_n hx hb dX4_anew_7 rfl (lv_at hl 1 rfl) ?_
      refine lv_iconst (v := nI 5) hx hb dX4_anew_8 (by decide) ?_
      refine r_geN hx hb (by omega) (by omega) dX4_anew_9 (tgt := 25) (by decide) (fun c1 => ?_) (fun c1 => ?_)
      · exact r_retV hx hb hr hlocks hS ⟨h0, f, h5, fun u hu => hf u (by omega)⟩ dX4_anew_25
      · refine lv_aload_n hx hb dX4_anew_12 rfl (lv_at hl 0 rfl) ?_
        refine r_get (C := RX4) (T := TX4) (N := 10) hx hb hts iiX4_anew_4 hown hK h0 rfl 7 (by decide) (hts (.fieldLink RX4 23 "HopMeetModel" "group" "[I") (List.mem_of_getElem? (i := 2) rfl)) rfl dX4_anew_13 ?_
        refine lv_iload_n hx hb dX4_anew_16 rfl (lv_at hl 1 rfl) ?_
        refine lv_iload_n hx hb dX4_anew_17 rfl (lv_at hl 1 rfl) ?_
        refine r_iast hx hb hK h5 (by first | exact Or.inl rfl | exact Or.inr rfl) hS rfl i (by omega) (by decide) dX4_anew_18 (fun H locs h5 hz9 hq hS => ?_)
        have h0 := at_kept h0 (hq _ (by omega))
        refine lv_iinc (v := nI (i + 1)) (lv' := [(1, .int (nI (i + 1))), (0, .ref d)]) hx hb dX4_anew_19 hl (k := 1) rfl (nI_1 _) (by decide) rfl (fun ls hl => ?_)
        refine lv_goto (tgt := 7) hx hb dX4_anew_22 (by decide) ?_
        exact ih7 (i + 1) (upd f i (nI i)) (by omega) (up_ext hf rfl) (by omega) _ _ h0 h5 hS ls (lv_sub hl [1, 0] rfl)
  exact loop7 _ 0 fG (Nat.zero_le _) (fun u h => absurd h (Nat.not_lt_zero _)) (Nat.lt_succ_self _) _ _ h0 h5 hS ls (lv_sub hl [1, 0] rfl)

set_option maxRecDepth 20000 in
theorem iiX4_layPrime_4 : ∀ w ∈ wsX40, w ∈ wsX4_layPrime := by decide +kernel
set_option maxHeartbeats 4000000 in
set_option maxRecDepth 100000 in
/-- the least prime above the number of channels -/
theorem c_X4_layPrime (l : Launch) (G : va_G) (t : gT) (d n : Nat) (z : Nat → Int32) (bc sl pr : Int32) (lo : Int64) (h2 : 2 ≤ n) (h10 : n ≤ 10) (hz0 : z 0 = nI n) : Met l yX4_layPrime wsX4_layPrime ({ frames := 1, cells := 0, slots := 0, locals := 22 } : Room) (pc_ [.ref d] (fun U H => KK G t U ∧ (DO G d bc sl pr lo H ∧ at_ G (d + 1) (aI t 60 z) H))) (qv_ (fun H => DO G d bc sl (nI (prN n)) lo H) (iv d (d + 1))) 0 0 (iv d (d + 1)) := by
  refine Met.ofW (cc := cX4_layPrime) (maxL := 1) (ret := none) (by decide) rfl ?_
  intro p e s m args below meth c s₁ B hml hv
  obtain ⟨rfl, hB⟩ := hv
  have hx := B.exec
  have hb := B.bytes
  have hr := B.returns
  have hts := atoms_spec (ws := wsX4_layPrime) B.pre
  have hown : s.vm.findClass RX4 = some m.cls := findClass_of_methodNamed B.named
  have hlocks := B.notSynchronized
  have hK := hB.1
  obtain ⟨h0, h1⟩ := hB.2
  have hpn := prB_prN n (by omega) h2
  have hS : va_S (iv d (d + 1)) s.heap s.heap [] := va_S.rf
  have hl := lv_entry ([.ref d]) (n := 1) (Nat.le_of_ble_eq_true rfl)
  rw [lg_entry_eq]
  generalize (lg_sl ([.ref d]) ++ List.replicate (1 - (lg_sl ([.ref d])).length) Slot.unset).toArray = ls at hl ⊢
  have hl : lv_has ls 1 [(0, .ref d)] := hl
  refine lv_aload_n hx hb dX4_layPrime_0 rfl (lv_at hl 0 rfl) ?_
  refine lv_aload_n hx hb dX4_layPrime_1 rfl (lv_at hl 0 rfl) ?_
  refine r_get (C := RX4) (T := TX4) (N := 10) hx hb hts iiX4_layPrime_4 hown hK h0 rfl 0 (by decide) (hts (.fieldLink RX4 7 "HopMeetModel" "now" "[I") (List.mem_of_getElem? (i := 1) rfl)) rfl dX4_layPrime_2 ?_
  refine lv_iconst (v := nI 0) hx hb dX4_layPrime_5 (by decide) ?_
  refine r_iald hx hb hK h1 rfl 0 (by omega) (by decide) (v := nI n) hz0 dX4_layPrime_6 ?_
  refine lv_iconst (v := nI 1) hx hb dX4_layPrime_7 (by decide) ?_
  refine r_iaddN hx hb dX4_layPrime_8 ?_
  refine r_put (ty := .int) (ci := 4) (C := RX4) (T := TX4) (N := 10) (fs' := [.ref (d + 1), .int bc, .ref (d + 2), .ref (d + 3), .ref (d + 4), .int sl, .int (nI (n + 1)), .ref (d + 5), .ref (d + 6), .long lo]) hx hb hts iiX4_layPrime_4 tyX4 tyX4_ok nmX4 hown hK h0 ⟨by omega, by omega⟩ hS rfl 6 (by decide) (hts (.fieldLink RX4 35 "HopMeetModel" "prime" "I") (List.mem_of_getElem? (i := 2) rfl)) rfl (by decide +kernel) rfl rfl (Nat.le_of_ble_eq_true rfl) rfl dX4_layPrime_9 (fun H locs h0 hz9 hq hS => ?_)
  have h1 := at_kept h1 (hq _ (by omega))
  have loop12 : ∀ (fu : Nat) (k : Nat) (hk : n < k) (hk2 : k ≤ prN n) (hd : ∀ d, d < k → n < d → prB d = false) (hfu : 12 - k < fu) (H : Heap) (locs : List Loc) (h0 : at_ G d (.inr (4, [.ref (d + 1), .int bc, .ref (d + 2), .ref (d + 3), .ref (d + 4), .int sl, .int (nI k), .ref (d + 5), .ref (d + 6), .long lo])) H) (h1 : at_ G (d + 1) (aI t 60 z) H)  (hS : va_S (iv d (d + 1)) s.heap H locs) (ls : Array Slot) (hl : lv_has ls 1 [(0, .ref d)]), W p l e (headSpec wsX4_layPrime ({ frames := 1, cells := 0, slots := 0, locals := 22 } : Room)).room s m ([.ref d] : List Value).toArray below meth c H locs 0 0 (MQ below (qv_ (fun H => DO G d bc sl (nI (prN n)) lo H) (iv d (d + 1))) ([.ref d] : List Value).toArray s 0 0 (iv d (d + 1))) (F0 m 12 ls []) := by
    intro fu
    induction fu with
    | zero => intro k hk hk2 hd hfu; exact absurd hfu (Nat.not_lt_zero _)
    | succ fu12 ih12 =>
      intro k hk hk2 hd hfu H locs h0 h1 hS ls hl
      refine lv_aload_n hx hb dX4_layPrime_12 rfl (lv_at hl 0 rfl) ?_
      refine r_get (C := RX4) (T := TX4) (N := 10) hx hb hts iiX4_layPrime_4 hown hK h0 rfl 6 (by decide) (hts (.fieldLink RX4 35 "HopMeetModel" "prime" "I") (List.mem_of_getElem? (i := 2) rfl)) rfl dX4_layPrime_13 ?_
      refine r_cS (av := [.int (nI k)]) (c_X4_isPrime l G t k (by omega)) ⟨hx, hb, hml, hown, hts⟩ (va_cwS 1 hts gX4_layPrime_X4_isPrime rfl rfl rfl (by decide +kernel) ⟨Nat.le_of_ble_eq_true rfl, Nat.le_of_ble_eq_true rfl⟩) mv_T trivial rfl hl (Nat.le_of_ble_eq_true rfl) ⟨Nat.le_of_ble_eq_true rfl, Nat.le_of_ble_eq_true rfl⟩ rfl dX4_layPrime_16 (fun r1 hr1 => ?_)
      subst hr1
      refine r_ifneB hx hb dX4_layPrime_19 (tgt := 35) (by decide) (fun c2 => ?_) (fun c2 => ?_)
      · exact r_retV hx hb hr hlocks hS (by rw [show prN n = k from lp_end h10 h2 hk hk2 c2]; exact h0) dX4_layPrime_35
      · refine lv_aload_n hx hb dX4_layPrime_22 rfl (lv_at hl 0 rfl) ?_
        refine lv_dup hx hb dX4_layPrime_23 rfl ?_
        refine r_get (C := RX4) (T := TX4) (N := 10) hx hb hts iiX4_layPrime_4 hown hK h0 rfl 6 (by decide) (hts (.fieldLink RX4 35 "HopMeetModel" "prime" "I") (List.mem_of_getElem? (i := 2) rfl)) rfl dX4_layPrime_24 ?_
        refine lv_iconst (v := nI 1) hx hb dX4_layPrime_27 (by decide) ?_
        refine r_iaddN hx hb dX4_layPrime_28 ?_
        refine r_put (ty := .int) (ci := 4) (C := RX4) (T := TX4) (N := 10) (fs' := [.ref (d + 1), .int bc, .ref (d + 2), .ref (d + 3), .ref (d + 4), .int sl, .int (nI (k + 1)), .ref (d + 5), .ref (d + 6), .long lo]) hx hb hts iiX4_layPrime_4 tyX4 tyX4_ok nmX4 hown hK h0 ⟨by omega, by omega⟩ hS rfl 6 (by decide) (hts (.fieldLink RX4 35 "HopMeetModel" "prime" "I") (List.mem_of_getElem? (i := 2) rfl)) rfl (by decide +kernel) rfl rfl (Nat.le_of_ble_eq_true rfl) rfl dX4_layPrime_29 (fun H locs h0 hz9 hq hS => ?_)
        have h1 := at_kept h1 (hq _ (by omega))
        refine lv_goto (tgt := 12) hx hb dX4_layPrime_32 (by decide) ?_
        exact ih12 (k + 1) (by omega) (pr_up h10 h2 (by omega) (lpx hd c2)) (lpx hd c2) (by omega) _ _ h0 h1 hS ls (lv_sub hl [0] rfl)
  exact loop12 _ (n + 1) (Nat.lt_succ_self _) (pr_up h10 h2 (Nat.lt_succ_self _) (fun d h3 h4 => absurd h3 (by omega))) (fun d h3 h4 => absurd h3 (by omega)) (Nat.lt_succ_self _) _ _ h0 h1 hS ls (lv_sub hl [0] rfl)

set_option maxRecDepth 20000 in
theorem iiX4_drawn_4 : ∀ w ∈ wsX40, w ∈ wsX4_drawn := by decide +kernel
set_option maxHeartbeats 4000000 in
set_option maxRecDepth 100000 in
/-- a lot -/
theorem c_X4_drawn (l : Launch) (G : va_G) (t : gT) (d x n : Nat) (bc sl pr : Int32) (hx0 : x < 2147483647) (hn : 0 < n) (hn2 : n < 2 ^ 31) : Met l yX4_drawn wsX4_drawn ({ frames := 0, cells := 0, slots := 0, locals := 0 } : Room) (pc_ [.ref d, .int (nI n)] (fun U H => KK G t U ∧ DO G d bc sl pr (lN x) H)) (qi_ (fun r H => r = nI (lotN x % n) ∧ DO G d bc sl pr (lN (lotN x)) H) (iv d (d + 1))) 0 0 (iv d (d + 1)) := by
  refine Met.ofW (cc := cX4_drawn) (maxL := 2) (ret := (some .int)) (by decide) rfl ?_
  intro p e s m args below meth c s₁ B hml hv
  obtain ⟨rfl, hB⟩ := hv
  have hx := B.exec
  have hb := B.bytes
  have hr := B.returns
  have hts := atoms_spec (ws := wsX4_drawn) B.pre
  have hown : s.vm.findClass RX4 = some m.cls := findClass_of_methodNamed B.named
  have hlocks := B.notSynchronized
  have hK := hB.1
  have h0 := hB.2
  have hS : va_S (iv d (d + 1)) s.heap s.heap [] := va_S.rf
  have hl := lv_entry ([.ref d, .int (nI n)]) (n := 2) (Nat.le_of_ble_eq_true rfl)
  rw [lg_entry_eq]
  generalize (lg_sl ([.ref d, .int (nI n)]) ++ List.replicate (2 - (lg_sl ([.ref d, .int (nI n)])).length) Slot.unset).toArray = ls at hl ⊢
  have hl : lv_has ls 2 [(0, .ref d), (1, .int (nI n))] := hl
  refine lv_aload_n hx hb dX4_drawn_0 rfl (lv_at hl 0 rfl) ?_
  refine lv_aload_n hx hb dX4_drawn_1 rfl (lv_at hl 0 rfl) ?_
  refine r_get (C := RX4) (T := TX4) (N := 10) hx hb hts iiX4_drawn_4 hown hK h0 rfl 9 (by decide) (hts (.fieldLink RX4 101 "HopMeetModel" "lots" "J") (List.mem_of_getElem? (i := 1) rfl)) rfl dX4_drawn_2 ?_
  refine lv_ldc2 (v := 16807) hx hb hown (hts (.constantLong RX4 105 (16807)) (List.mem_of_getElem? (i := 2) rfl)) dX4_drawn_5 ?_
  refine r_topL (y := lN 16807) rfl ?_
  refine lv_lmul hx hb dX4_drawn_8 ?_
  refine r_topL (y := lN (x * 16807)) (lN_mul x 16807) ?_
  refine lv_ldc2 (v := 2147483647) hx hb hown (hts (.constantLong RX4 107 (2147483647)) (List.mem_of_getElem? (i := 3) rfl)) dX4_drawn_9 ?_
  refine r_topL (y := lN 2147483647) rfl ?_
  refine lv_lrem hx hb dX4_drawn_12 (by decide) ?_
  refine r_topL (y := lN (lotN x)) (pk_lRem (by omega) (by decide) (by decide)) ?_
  refine r_put (ty := .long) (ci := 4) (C := RX4) (T := TX4) (N := 10) (fs' := [.ref (d + 1), .int bc, .ref (d + 2), .ref (d + 3), .ref (d + 4), .int sl, .int pr, .ref (d + 5), .ref (d + 6), .long (lN (lotN x))]) hx hb hts iiX4_drawn_4 tyX4 tyX4_ok nmX4 hown hK h0 ⟨by omega, by omega⟩ hS rfl 9 (by decide) (hts (.fieldLink RX4 101 "HopMeetModel" "lots" "J") (List.mem_of_getElem? (i := 1) rfl)) rfl (by decide +kernel) rfl rfl (Nat.le_of_ble_eq_true rfl) rfl dX4_drawn_13 (fun H locs h0 hz9 hq hS => ?_)
  refine lv_aload_n hx hb dX4_drawn_16 rfl (lv_at hl 0 rfl) ?_
  refine r_get (C := RX4) (T := TX4) (N := 10) hx hb hts iiX4_drawn_4 hown hK h0 rfl 9 (by decide) (hts (.fieldLink RX4 101 "HopMeetModel" "lots" "J") (List.mem_of_getElem? (i := 1) rfl)) rfl dX4_drawn_17 ?_
  refine lv_iload_n hx hb dX4_drawn_20 rfl (lv_at hl 1 rfl) ?_
  refine lv_i2l (v := lN n) hx hb dX4_drawn_21 (nI_l hn2) ?_
  refine lv_lrem hx hb dX4_drawn_22 (lN_n0 hn (by omega)) ?_
  refine r_topL (y := lN (lotN x % n)) (pk_lRem (Nat.lt_trans (lotN_lt _) (by decide)) hn (by omega)) ?_
  refine lv_l2i (v := nI (lotN x % n)) hx hb dX4_drawn_23 (lN_i _) ?_
  exact r_retI (v := nI (lotN x % n)) hx hb hr hlocks hS ⟨rfl, h0⟩ dX4_drawn_24

set_option maxRecDepth 20000 in
theorem iiX4_note_4 : ∀ w ∈ wsX40, w ∈ wsX4_note := by decide +kernel
set_option maxHeartbeats 4000000 in
set_option maxRecDepth 100000 in
/-- what is so is noted, to be brought back -/
theorem c_X4_note (l : Launch) (G : va_G) (t : gT) (d : Nat) (z : Nat → Int32) (gr : Nat → Nat) (sl bc : Nat) (bk : Nat → Nat → Int32) (kp : Nat → Bool) (im : Nat → Nat → Int32) (hz : WF z) (hbc : bc ≤ 12) : Met l yX4_note wsX4_note ({ frames := 1, cells := 0, slots := 0, locals := 25 } : Room) (pc_ [.ref d] (fun U H => KK G t U ∧ PM G t d (z, gr, sl, bc, bk, kp, im) H)) (qv_ (fun H => PM G t d (z, idN, 0, inc12 bc, push bk z, kp, im) H ∧ ∃ f, at_ G (d + 5) (aI t 5 f) H ∧ ∀ u, u < 5 → f u = nI (idN u)) (iv d (d + 7))) 0 0 (iv d (d + 7)) := by
  refine Met.ofW (cc := cX4_note) (maxL := 1) (ret := none) (by decide) rfl ?_
  intro p e s m args below meth c s₁ B hml hv
  obtain ⟨rfl, hB⟩ := hv
  have hx := B.exec
  have hb := B.bytes
  have hr := B.returns
  have hts := atoms_spec (ws := wsX4_note) B.pre
  have hown : s.vm.findClass RX4 = some m.cls := findClass_of_methodNamed B.named
  have hlocks := B.notSynchronized
  have hK := hB.1
  obtain ⟨lo, fB, fI, fG, fM, h0, h1, h2, h3, h4, h5, h6, e1, e2, e3⟩ := hB.2
  have hn := hz.n
  have hu5 := hz.u5
  have hs8 := hz.s8
  have hS : va_S (iv d (d + 7)) s.heap s.heap [] := va_S.rf
  have hl := lv_entry ([.ref d]) (n := 1) (Nat.le_of_ble_eq_true rfl)
  rw [lg_entry_eq]
  generalize (lg_sl ([.ref d]) ++ List.replicate (1 - (lg_sl ([.ref d])).length) Slot.unset).toArray = ls at hl ⊢
  have hl : lv_has ls 1 [(0, .ref d)] := hl
  refine lv_aload_n hx hb dX4_note_0 rfl (lv_at hl 0 rfl) ?_
  refine r_get (C := RX4) (T := TX4) (N := 10) hx hb hts iiX4_note_4 hown hK h0 rfl 1 (by decide) (hts (.fieldLink RX4 76 "HopMeetModel" "backs" "I") (List.mem_of_getElem? (i := 1) rfl)) rfl dX4_note_1 ?_
  refine lv_bipush (v := nI 12) hx hb dX4_note_4 (by decide) ?_
  refine r_neN hx hb (by omega) (by omega) dX4_note_6 (tgt := 36) (by decide) (fun c1 => ?_) (fun c1 => ?_)
  · refine lv_aload_n hx hb dX4_note_36 rfl (lv_at hl 0 rfl) ?_
    refine r_get (C := RX4) (T := TX4) (N := 10) hx hb hts iiX4_note_4 hown hK h0 rfl 0 (by decide) (hts (.fieldLink RX4 7 "HopMeetModel" "now" "[I") (List.mem_of_getElem? (i := 3) rfl)) rfl dX4_note_37 ?_
    refine lv_iconst (v := nI 0) hx hb dX4_note_40 (by decide) ?_
    refine lv_aload_n hx hb dX4_note_41 rfl (lv_at hl 0 rfl) ?_
    refine r_get (C := RX4) (T := TX4) (N := 10) hx hb hts iiX4_note_4 hown hK h0 rfl 2 (by decide) (hts (.fieldLink RX4 13 "HopMeetModel" "back" "[I") (List.mem_of_getElem? (i := 2) rfl)) rfl dX4_note_42 ?_
    refine lv_bipush (v := nI 60) hx hb dX4_note_45 (by decide) ?_
    refine lv_aload_n hx hb dX4_note_47 rfl (lv_at hl 0 rfl) ?_
    refine r_get (C := RX4) (T := TX4) (N := 10) hx hb hts iiX4_note_4 hown hK h0 rfl 1 (by decide) (hts (.fieldLink RX4 76 "HopMeetModel" "backs" "I") (List.mem_of_getElem? (i := 1) rfl)) rfl dX4_note_48 ?_
    refine r_imulN hx hb dX4_note_51 ?_
    refine lv_bipush (v := nI 60) hx hb dX4_note_52 (by decide) ?_
    refine r_mS (av := [.ref (d + 1), .int (nI 0), .ref (d + 2), .int (nI (60 * bc)), .int (nI 60)]) (c_X4_bring l G t (d + 1) (d + 2) 60 720 0 (60 * bc) 60 z fB (by omega) (by omega) (by omega) (by decide) (by decide)) ⟨hx, hb, hml, hown, hts⟩ (va_cwS 5 hts gX4_note_X4_bring rfl rfl rfl (by decide +kernel) ⟨Nat.le_of_ble_eq_true rfl, Nat.le_of_ble_eq_true rfl⟩) mv_K ⟨hK, h1, h2⟩ rfl hl (Nat.le_of_ble_eq_true rfl) ⟨Nat.le_of_ble_eq_true rfl, Nat.le_of_ble_eq_true rfl⟩ rfl dX4_note_54 hS (iv_sub (by omega) (by omega)) (fun H locs hP hz9 hk hS => ?_)
    have h0 := at_keptA h0 hk (iv_no (by omega))
    have h1 := at_keptA h1 hk (iv_no (by omega))
    have h3 := at_keptA h3 hk (iv_no (by omega))
    have h4 := at_keptA h4 hk (iv_no (by omega))
    have h5 := at_keptA h5 hk (iv_no (by omega))
    have h6 := at_keptA h6 hk (iv_no (by omega))
    have h2 := hP
    refine lv_aload_n hx hb dX4_note_57 rfl (lv_at hl 0 rfl) ?_
    refine lv_dup hx hb dX4_note_58 rfl ?_
    refine r_get (C := RX4) (T := TX4) (N := 10) hx hb hts iiX4_note_4 hown hK h0 rfl 1 (by decide) (hts (.fieldLink RX4 76 "HopMeetModel" "backs" "I") (List.mem_of_getElem? (i := 1) rfl)) rfl dX4_note_59 ?_
    refine lv_iconst (v := nI 1) hx hb dX4_note_62 (by decide) ?_
    refine r_iaddN hx hb dX4_note_63 ?_
    refine r_put (ty := .int) (ci := 4) (C := RX4) (T := TX4) (N := 10) (fs' := [.ref (d + 1), .int (nI (bc + 1)), .ref (d + 2), .ref (d + 3), .ref (d + 4), .int (nI sl), .int (nI (prN (cn z))), .ref (d + 5), .ref (d + 6), .long lo]) hx hb hts iiX4_note_4 tyX4 tyX4_ok nmX4 hown hK h0 ⟨by omega, by omega⟩ hS rfl 1 (by decide) (hts (.fieldLink RX4 76 "HopMeetModel" "backs" "I") (List.mem_of_getElem? (i := 1) rfl)) rfl (by decide +kernel) rfl rfl (Nat.le_of_ble_eq_true rfl) rfl dX4_note_64 (fun H locs h0 hz9 hq hS => ?_)
    have h1 := at_kept h1 (hq _ (by omega))
    have h3 := at_kept h3 (hq _ (by omega))
    have h4 := at_kept h4 (hq _ (by omega))
    have h5 := at_kept h5 (hq _ (by omega))
    have h6 := at_kept h6 (hq _ (by omega))
    have h2 := at_kept h2 (hq _ (by omega))
    refine lv_aload_n hx hb dX4_note_67 rfl (lv_at hl 0 rfl) ?_
    refine r_mV (av := []) (c_X4_anew l G t d (nI (bc + 1)) (nI sl) (nI (prN (cn z))) lo fG) ⟨hx, hb, hml, hown, hts⟩ (cwV 0 hts gX4_note_X4_anew rfl rfl rfl (by decide +kernel) ⟨Nat.le_of_ble_eq_true rfl, Nat.le_of_ble_eq_true rfl⟩) mv_K ⟨hK, h0, h5⟩ (at_recv hK h0 rfl) rfl hl (Nat.le_of_ble_eq_true rfl) ⟨Nat.le_of_ble_eq_true rfl, Nat.le_of_ble_eq_true rfl⟩ rfl dX4_note_68 hS (iv2_sub (by omega) (by omega)) (fun H locs hP hz9 hk hS => ?_)
    have h1 := at_keptA h1 hk (iv2_no (by omega) (by omega))
    have h3 := at_keptA h3 hk (iv2_no (by omega) (by omega))
    have h4 := at_keptA h4 hk (iv2_no (by omega) (by omega))
    have h6 := at_keptA h6 hk (iv2_no (by omega) (by omega))
    have h2 := at_keptA h2 hk (iv2_no (by omega) (by omega))
    obtain ⟨h0, fG, h5, e3⟩ := hP
    exact r_retV hx hb hr hlocks hS ⟨PM_mk (by rw [inc12_lt (by omega)]; exact h0) h1 h2 h3 h4 h5 h6 (note_part (by omega) e1) e2 (fun u hu => e3 u (by omega)), fG, h5, e3⟩ dX4_note_71
  · subst c1
    refine lv_aload_n hx hb dX4_note_9 rfl (lv_at hl 0 rfl) ?_
    refine r_get (C := RX4) (T := TX4) (N := 10) hx hb hts iiX4_note_4 hown hK h0 rfl 2 (by decide) (hts (.fieldLink RX4 13 "HopMeetModel" "back" "[I") (List.mem_of_getElem? (i := 2) rfl)) rfl dX4_note_10 ?_
    refine lv_bipush (v := nI 60) hx hb dX4_note_13 (by decide) ?_
    refine lv_aload_n hx hb dX4_note_15 rfl (lv_at hl 0 rfl) ?_
    refine r_get (C := RX4) (T := TX4) (N := 10) hx hb hts iiX4_note_4 hown hK h0 rfl 2 (by decide) (hts (.fieldLink RX4 13 "HopMeetModel" "back" "[I") (List.mem_of_getElem? (i := 2) rfl)) rfl dX4_note_16 ?_
    refine lv_iconst (v := nI 0) hx hb dX4_note_19 (by decide) ?_
    refine lv_sipush (v := nI 660) hx hb dX4_note_20 (by decide) ?_
    refine r_mS (av := [.ref (d + 2), .int (nI 60), .ref (d + 2), .int (nI 0), .int (nI 660)]) (c_X4_bring2 l G t (d + 2) 720 60 660 fB (by decide) (by decide)) ⟨hx, hb, hml, hown, hts⟩ (va_cwS 5 hts gX4_note_X4_bring rfl rfl rfl (by decide +kernel) ⟨Nat.le_of_ble_eq_true rfl, Nat.le_of_ble_eq_true rfl⟩) mv_K ⟨hK, h2⟩ rfl hl (Nat.le_of_ble_eq_true rfl) ⟨Nat.le_of_ble_eq_true rfl, Nat.le_of_ble_eq_true rfl⟩ rfl dX4_note_23 hS (iv_sub (by omega) (by omega)) (fun H locs hP hz9 hk hS => ?_)
    have h0 := at_keptA h0 hk (iv_no (by omega))
    have h1 := at_keptA h1 hk (iv_no (by omega))
    have h3 := at_keptA h3 hk (iv_no (by omega))
    have h4 := at_keptA h4 hk (iv_no (by omega))
    have h5 := at_keptA h5 hk (iv_no (by omega))
    have h6 := at_keptA h6 hk (iv_no (by omega))
    have h2 := hP
    refine lv_aload_n hx hb dX4_note_26 rfl (lv_at hl 0 rfl) ?_
    refine lv_dup hx hb dX4_note_27 rfl ?_
    refine r_get (C := RX4) (T := TX4) (N := 10) hx hb hts iiX4_note_4 hown hK h0 rfl 1 (by decide) (hts (.fieldLink RX4 76 "HopMeetModel" "backs" "I") (List.mem_of_getElem? (i := 1) rfl)) rfl dX4_note_28 ?_
    refine lv_iconst (v := nI 1) hx hb dX4_note_31 (by decide) ?_
    refine r_isubN hx hb (by decide) dX4_note_32 ?_
    refine r_top (y := nI 11) rfl ?_
    refine r_put (ty := .int) (ci := 4) (C := RX4) (T := TX4) (N := 10) (fs' := [.ref (d + 1), .int (nI 11), .ref (d + 2), .ref (d + 3), .ref (d + 4), .int (nI sl), .int (nI (prN (cn z))), .ref (d + 5), .ref (d + 6), .long lo]) hx hb hts iiX4_note_4 tyX4 tyX4_ok nmX4 hown hK h0 ⟨by omega, by omega⟩ hS rfl 1 (by decide) (hts (.fieldLink RX4 76 "HopMeetModel" "backs" "I") (List.mem_of_getElem? (i := 1) rfl)) rfl (by decide +kernel) rfl rfl (Nat.le_of_ble_eq_true rfl) rfl dX4_note_33 (fun H locs h0 hz9 hq hS => ?_)
    have h1 := at_kept h1 (hq _ (by omega))
    have h3 := at_kept h3 (hq _ (by omega))
    have h4 := at_kept h4 (hq _ (by omega))
    have h5 := at_kept h5 (hq _ (by omega))
    have h6 := at_kept h6 (hq _ (by omega))
    have h2 := at_kept h2 (hq _ (by omega))
    refine lv_aload_n hx hb dX4_note_36 rfl (lv_at hl 0 rfl) ?_
    refine r_get (C := RX4) (T := TX4) (N := 10) hx hb hts iiX4_note_4 hown hK h0 rfl 0 (by decide) (hts (.fieldLink RX4 7 "HopMeetModel" "now" "[I") (List.mem_of_getElem? (i := 3) rfl)) rfl dX4_note_37 ?_
    refine lv_iconst (v := nI 0) hx hb dX4_note_40 (by decide) ?_
    refine lv_aload_n hx hb dX4_note_41 rfl (lv_at hl 0 rfl) ?_
    refine r_get (C := RX4) (T := TX4) (N := 10) hx hb hts iiX4_note_4 hown hK h0 rfl 2 (by decide) (hts (.fieldLink RX4 13 "HopMeetModel" "back" "[I") (List.mem_of_getElem? (i := 2) rfl)) rfl dX4_note_42 ?_
    refine lv_bipush (v := nI 60) hx hb dX4_note_45 (by decide) ?_
    refine lv_aload_n hx hb dX4_note_47 rfl (lv_at hl 0 rfl) ?_
    refine r_get (C := RX4) (T := TX4) (N := 10) hx hb hts iiX4_note_4 hown hK h0 rfl 1 (by decide) (hts (.fieldLink RX4 76 "HopMeetModel" "backs" "I") (List.mem_of_getElem? (i := 1) rfl)) rfl dX4_note_48 ?_
    refine r_imulN hx hb dX4_note_51 ?_
    refine lv_bipush (v := nI 60) hx hb dX4_note_52 (by decide) ?_
    refine r_mS (av := [.ref (d + 1), .int (nI 0), .ref (d + 2), .int (nI (60 * 11)), .int (nI 60)]) (c_X4_bring l G t (d + 1) (d + 2) 60 720 0 (60 * 11) 60 z (shF fB 60 660) (by omega) (by omega) (by omega) (by decide) (by decide)) ⟨hx, hb, hml, hown, hts⟩ (va_cwS 5 hts gX4_note_X4_bring rfl rfl rfl (by decide +kernel) ⟨Nat.le_of_ble_eq_true rfl, Nat.le_of_ble_eq_true rfl⟩) mv_K ⟨hK, h1, h2⟩ rfl hl (Nat.le_of_ble_eq_true rfl) ⟨Nat.le_of_ble_eq_true rfl, Nat.le_of_ble_eq_true rfl⟩ rfl dX4_note_54 hS (iv_sub (by omega) (by omega)) (fun H locs hP hz9 hk hS => ?_)
    have h0 := at_keptA h0 hk (iv_no (by omega))
    have h1 := at_keptA h1 hk (iv_no (by omega))
    have h3 := at_keptA h3 hk (iv_no (by omega))
    have h4 := at_keptA h4 hk (iv_no (by omega))
    have h5 := at_keptA h5 hk (iv_no (by omega))
    have h6 := at_keptA h6 hk (iv_no (by omega))
    have h2 := hP
    refine lv_aload_n hx hb dX4_note_57 rfl (lv_at hl 0 rfl) ?_
    refine lv_dup hx hb dX4_note_58 rfl ?_
    refine r_get (C := RX4) (T := TX4) (N := 10) hx hb hts iiX4_note_4 hown hK h0 rfl 1 (by decide) (hts (.fieldLink RX4 76 "HopMeetModel" "backs" "I") (List.mem_of_getElem? (i := 1) rfl)) rfl dX4_note_59 ?_
    refine lv_iconst (v := nI 1) hx hb dX4_note_62 (by decide) ?_
    refine r_iaddN hx hb dX4_note_63 ?_
    refine r_put (ty := .int) (ci := 4) (C := RX4) (T := TX4) (N := 10) (fs' := [.ref (d + 1), .int (nI (11 + 1)), .ref (d + 2), .ref (d + 3), .ref (d + 4), .int (nI sl), .int (nI (prN (cn z))), .ref (d + 5), .ref (d + 6), .long lo]) hx hb hts iiX4_note_4 tyX4 tyX4_ok nmX4 hown hK h0 ⟨by omega, by omega⟩ hS rfl 1 (by decide) (hts (.fieldLink RX4 76 "HopMeetModel" "backs" "I") (List.mem_of_getElem? (i := 1) rfl)) rfl (by decide +kernel) rfl rfl (Nat.le_of_ble_eq_true rfl) rfl dX4_note_64 (fun H locs h0 hz9 hq hS => ?_)
    have h1 := at_kept h1 (hq _ (by omega))
    have h3 := at_kept h3 (hq _ (by omega))
    have h4 := at_kept h4 (hq _ (by omega))
    have h5 := at_kept h5 (hq _ (by omega))
    have h6 := at_kept h6 (hq _ (by omega))
    have h2 := at_kept h2 (hq _ (by omega))
    refine lv_aload_n hx hb dX4_note_67 rfl (lv_at hl 0 rfl) ?_
    refine r_mV (av := []) (c_X4_anew l G t d (nI (11 + 1)) (nI sl) (nI (prN (cn z))) lo fG) ⟨hx, hb, hml, hown, hts⟩ (cwV 0 hts gX4_note_X4_anew rfl rfl rfl (by decide +kernel) ⟨Nat.le_of_ble_eq_true rfl, Nat.le_of_ble_eq_true rfl⟩) mv_K ⟨hK, h0, h5⟩ (at_recv hK h0 rfl) rfl hl (Nat.le_of_ble_eq_true rfl) ⟨Nat.le_of_ble_eq_true rfl, Nat.le_of_ble_eq_true rfl⟩ rfl dX4_note_68 hS (iv2_sub (by omega) (by omega)) (fun H locs hP hz9 hk hS => ?_)
    have h1 := at_keptA h1 hk (iv2_no (by omega) (by omega))
    have h3 := at_keptA h3 hk (iv2_no (by omega) (by omega))
    have h4 := at_keptA h4 hk (iv2_no (by omega) (by omega))
    have h6 := at_keptA h6 hk (iv2_no (by omega) (by omega))
    have h2 := at_keptA h2 hk (iv2_no (by omega) (by omega))
    obtain ⟨h0, fG, h5, e3⟩ := hP
    exact r_retV hx hb hr hlocks hS ⟨PM_mk h0 h1 h2 h3 h4 h5 h6 (note_full e1) e2 (fun u hu => e3 u (by omega)), fG, h5, e3⟩ dX4_note_71
