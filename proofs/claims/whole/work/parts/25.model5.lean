/-! the reference: what changes it, on (printed by wip/whole/m11.py) -/
set_option maxRecDepth 20000 in
theorem iiX4_open_4 : ∀ w ∈ wsX40, w ∈ wsX4_open := by decide +kernel
set_option maxHeartbeats 4000000 in
set_option maxRecDepth 100000 in
/-- which channels are open to a user -/
theorem c_X4_open (l : Launch) (G : va_G) (t : gT) (d : Nat) (z : Nat → Int32) (gr : Nat → Nat) (sl bc : Nat) (bk : Nat → Nat → Int32) (kp : Nat → Bool) (im : Nat → Nat → Int32) (hz : WF z) (hbc : bc ≤ 12) (u v : Int32) : Met l yX4_open wsX4_open ({ frames := 3, cells := 0, slots := 0, locals := 69 } : Room) (pc_ [.ref d, .int u, .int v] (fun U H => KK G t U ∧ PM G t d (z, gr, sl, bc, bk, kp, im) H)) (qi_ (fun r H => r = rOpen u v z ∧ PM G t d (oOpen u v z gr sl bc bk kp im) H) (iv d (d + 7))) 0 0 (iv d (d + 7)) := by
  refine Met.ofW (cc := cX4_open) (maxL := 3) (ret := (some .int)) (by decide) rfl ?_
  intro p e s m args below meth c s₁ B hml hv
  obtain ⟨rfl, hB⟩ := hv
  have hx := B.exec
  have hb := B.bytes
  have hr := B.returns
  have hts := atoms_spec (ws := wsX4_open) B.pre
  have hown : s.vm.findClass RX4 = some m.cls := findClass_of_methodNamed B.named
  have hlocks := B.notSynchronized
  have hK := hB.1
  obtain ⟨lo, fB, fI, fG, fM, h0, h1, h2, h3, h4, h5, h6, e1, e2, e3⟩ := hB.2
  have hn := hz.n
  have hu5 := hz.u5
  have hs8 := hz.s8
  have hpw := pow_le10 hn.2
  have hS : va_S (iv d (d + 7)) s.heap s.heap [] := va_S.rf
  have hl := lv_entry ([.ref d, .int u, .int v]) (n := 3) (Nat.le_of_ble_eq_true rfl)
  rw [lg_entry_eq]
  generalize (lg_sl ([.ref d, .int u, .int v]) ++ List.replicate (3 - (lg_sl ([.ref d, .int u, .int v])).length) Slot.unset).toArray = ls at hl ⊢
  have hl : lv_has ls 3 [(0, .ref d), (1, .int u), (2, .int v)] := hl
  refine lv_aload_n hx hb dX4_open_0 rfl (lv_at hl 0 rfl) ?_
  refine lv_iload_n hx hb dX4_open_1 rfl (lv_at hl 1 rfl) ?_
  refine r_cV (av := [.int u]) (c_X4_isUser l G t d z hz u) ⟨hx, hb, hml, hown, hts⟩ (cwV 1 hts gX4_open_X4_isUser rfl rfl rfl (by decide +kernel) ⟨Nat.le_of_ble_eq_true rfl, Nat.le_of_ble_eq_true rfl⟩) mv_K ⟨hK, ⟨_, _, _, h0, h1⟩⟩ (at_recv hK h0 rfl) rfl hl (Nat.le_of_ble_eq_true rfl) ⟨Nat.le_of_ble_eq_true rfl, Nat.le_of_ble_eq_true rfl⟩ rfl dX4_open_2 (fun r1 hr1 => ?_)
  subst hr1
  refine r_ifneB hx hb dX4_open_5 (tgt := 11) (by decide) (fun c1 => ?_) (fun c1 => ?_)
  · obtain ⟨k, hk, ek⟩ := usB_t hz c1
    have ekc : cl u = k := by rw [ek]; exact cl_N (by omega)
    refine lv_iload_n hx hb dX4_open_11 rfl (lv_at hl 2 rfl) ?_
    refine lv_iconst (v := nI 0) hx hb dX4_open_12 (by decide) ?_
    refine lv_aload_n hx hb dX4_open_13 rfl (lv_at hl 0 rfl) ?_
    refine r_cV (av := []) (c_X4_all l G t d z hz) ⟨hx, hb, hml, hown, hts⟩ (cwV 0 hts gX4_open_X4_all rfl rfl rfl (by decide +kernel) ⟨Nat.le_of_ble_eq_true rfl, Nat.le_of_ble_eq_true rfl⟩) mv_K ⟨hK, ⟨_, _, _, h0, h1⟩⟩ (at_recv hK h0 rfl) rfl hl (Nat.le_of_ble_eq_true rfl) ⟨Nat.le_of_ble_eq_true rfl, Nat.le_of_ble_eq_true rfl⟩ rfl dX4_open_14 (fun r2 hr2 => ?_)
    subst hr2
    refine r_cS (av := [.int v, .int (nI 0), .int (nI (2 ^ cn z - 1))]) (c_X4_in l G t v (nI 0) (nI (2 ^ cn z - 1))) ⟨hx, hb, hml, hown, hts⟩ (va_cwS 3 hts gX4_open_X4_in rfl rfl rfl (by decide +kernel) ⟨Nat.le_of_ble_eq_true rfl, Nat.le_of_ble_eq_true rfl⟩) mv_T trivial rfl hl (Nat.le_of_ble_eq_true rfl) ⟨Nat.le_of_ble_eq_true rfl, Nat.le_of_ble_eq_true rfl⟩ rfl dX4_open_17 (fun r3 hr3 => ?_)
    subst hr3
    refine r_ifeqB hx hb dX4_open_20 (tgt := 33) (by decide) (fun c4 => ?_) (fun c4 => ?_)
    · refine lv_ldc (v := (-1000000002)) hx hb hown (hts (.constant RX4 83 (-1000000002)) (List.mem_of_getElem? (i := 2) rfl)) dX4_open_33 ?_
      exact r_retI (v := (-1000000002)) hx hb hr hlocks hS ⟨by unfold rOpen; rw [c1, c4]; rfl, by unfold oOpen; rw [and_f2 c4]; exact hB.2⟩ dX4_open_35
    · refine lv_aload_n hx hb dX4_open_23 rfl (lv_at hl 0 rfl) ?_
      refine lv_iload_n hx hb dX4_open_24 rfl (lv_at hl 1 rfl) ?_
      refine r_top (y := nI k) ek ?_
      refine lv_iconst (v := nI 4) hx hb dX4_open_25 (by decide) ?_
      refine lv_iload_n hx hb dX4_open_26 rfl (lv_at hl 2 rfl) ?_
      refine r_mVi (av := [.int (nI k), .int (nI 4), .int v]) (c_X4_becomes l G t d z gr sl bc bk kp im hz hbc k 4 v hk (by decide)) ⟨hx, hb, hml, hown, hts⟩ (cwV 3 hts gX4_open_X4_becomes rfl rfl rfl (by decide +kernel) ⟨Nat.le_of_ble_eq_true rfl, Nat.le_of_ble_eq_true rfl⟩) mv_K hB (at_recv hK h0 rfl) rfl hl (Nat.le_of_ble_eq_true rfl) ⟨Nat.le_of_ble_eq_true rfl, Nat.le_of_ble_eq_true rfl⟩ rfl dX4_open_27 hS (fun q h => h) (fun r4 H locs hP hz9 hk hS => ?_)
      refine lv_goto (tgt := 35) hx hb dX4_open_30 (by decide) ?_
      exact r_retI (v := r4) hx hb hr hlocks hS ⟨by unfold rOpen; rw [c1, c4, ekc]; exact hP.1, by unfold oOpen; rw [and_t c1 c4, ekc]; exact hP.2⟩ dX4_open_35
  · refine lv_ldc (v := (-1000000001)) hx hb hown (hts (.constant RX4 96 (-1000000001)) (List.mem_of_getElem? (i := 1) rfl)) dX4_open_8 ?_
    exact r_retI (v := (-1000000001)) hx hb hr hlocks hS ⟨by unfold rOpen; rw [c1]; rfl, by unfold oOpen; rw [and_f1 c1]; exact hB.2⟩ dX4_open_10

set_option maxRecDepth 20000 in
theorem iiX4_set_4 : ∀ w ∈ wsX40, w ∈ wsX4_set := by decide +kernel
set_option maxHeartbeats 4000000 in
set_option maxRecDepth 100000 in
/-- what a user has becomes v -/
theorem c_X4_set (l : Launch) (G : va_G) (t : gT) (d : Nat) (z : Nat → Int32) (gr : Nat → Nat) (sl bc : Nat) (bk : Nat → Nat → Int32) (kp : Nat → Bool) (im : Nat → Nat → Int32) (hz : WF z) (hbc : bc ≤ 12) (u w v : Int32) : Met l yX4_set wsX4_set ({ frames := 3, cells := 0, slots := 0, locals := 69 } : Room) (pc_ [.ref d, .int u, .int w, .int v] (fun U H => KK G t U ∧ PM G t d (z, gr, sl, bc, bk, kp, im) H)) (qi_ (fun r H => r = rSet u w v z ∧ PM G t d (oSet u w v z gr sl bc bk kp im) H) (iv d (d + 7))) 0 0 (iv d (d + 7)) := by
  refine Met.ofW (cc := cX4_set) (maxL := 4) (ret := (some .int)) (by decide) rfl ?_
  intro p e s m args below meth c s₁ B hml hv
  obtain ⟨rfl, hB⟩ := hv
  have hx := B.exec
  have hb := B.bytes
  have hr := B.returns
  have hts := atoms_spec (ws := wsX4_set) B.pre
  have hown : s.vm.findClass RX4 = some m.cls := findClass_of_methodNamed B.named
  have hlocks := B.notSynchronized
  have hK := hB.1
  obtain ⟨lo, fB, fI, fG, fM, h0, h1, h2, h3, h4, h5, h6, e1, e2, e3⟩ := hB.2
  have hn := hz.n
  have hu5 := hz.u5
  have hs8 := hz.s8
  have hS : va_S (iv d (d + 7)) s.heap s.heap [] := va_S.rf
  have hl := lv_entry ([.ref d, .int u, .int w, .int v]) (n := 4) (Nat.le_of_ble_eq_true rfl)
  rw [lg_entry_eq]
  generalize (lg_sl ([.ref d, .int u, .int w, .int v]) ++ List.replicate (4 - (lg_sl ([.ref d, .int u, .int w, .int v])).length) Slot.unset).toArray = ls at hl ⊢
  have hl : lv_has ls 4 [(0, .ref d), (1, .int u), (2, .int w), (3, .int v)] := hl
  refine lv_aload_n hx hb dX4_set_0 rfl (lv_at hl 0 rfl) ?_
  refine lv_iload_n hx hb dX4_set_1 rfl (lv_at hl 1 rfl) ?_
  refine r_cV (av := [.int u]) (c_X4_isUser l G t d z hz u) ⟨hx, hb, hml, hown, hts⟩ (cwV 1 hts gX4_set_X4_isUser rfl rfl rfl (by decide +kernel) ⟨Nat.le_of_ble_eq_true rfl, Nat.le_of_ble_eq_true rfl⟩) mv_K ⟨hK, ⟨_, _, _, h0, h1⟩⟩ (at_recv hK h0 rfl) rfl hl (Nat.le_of_ble_eq_true rfl) ⟨Nat.le_of_ble_eq_true rfl, Nat.le_of_ble_eq_true rfl⟩ rfl dX4_set_2 (fun r1 hr1 => ?_)
  subst hr1
  refine r_ifneB hx hb dX4_set_5 (tgt := 11) (by decide) (fun c1 => ?_) (fun c1 => ?_)
  · obtain ⟨k, hk, ek⟩ := usB_t hz c1
    have ekc : cl u = k := by rw [ek]; exact cl_N (by omega)
    refine lv_iload_n hx hb dX4_set_11 rfl (lv_at hl 2 rfl) ?_
    refine lv_iconst (v := nI 0) hx hb dX4_set_12 (by decide) ?_
    refine lv_iconst (v := nI 3) hx hb dX4_set_13 (by decide) ?_
    refine r_cS (av := [.int w, .int (nI 0), .int (nI 3)]) (c_X4_in l G t w (nI 0) (nI 3)) ⟨hx, hb, hml, hown, hts⟩ (va_cwS 3 hts gX4_set_X4_in rfl rfl rfl (by decide +kernel) ⟨Nat.le_of_ble_eq_true rfl, Nat.le_of_ble_eq_true rfl⟩) mv_T trivial rfl hl (Nat.le_of_ble_eq_true rfl) ⟨Nat.le_of_ble_eq_true rfl, Nat.le_of_ble_eq_true rfl⟩ rfl dX4_set_14 (fun r2 hr2 => ?_)
    subst hr2
    refine r_ifeqB hx hb dX4_set_17 (tgt := 38) (by decide) (fun c2 => ?_) (fun c2 => ?_)
    · refine lv_ldc (v := (-1000000002)) hx hb hown (hts (.constant RX4 83 (-1000000002)) (List.mem_of_getElem? (i := 2) rfl)) dX4_set_38 ?_
      exact r_retI (v := (-1000000002)) hx hb hr hlocks hS (by have c4 : mhB w v = false := (by first | exact and_f1 c2 | exact and_f2 (by rw [ei]; exact c3)); exact ⟨by unfold rSet; rw [c1, c4]; rfl, by unfold oSet; rw [and_f2 c4]; exact hB.2⟩) dX4_set_40
    · obtain ⟨i, ia, ib, ei⟩ := in_of (by decide) (by decide) c2
      have eic : cl w = i := by rw [ei]; exact cl_N (by omega)
      refine lv_iload_n hx hb dX4_set_20 rfl (lv_at hl 2 rfl) ?_
      refine r_top (y := nI i) ei ?_
      refine lv_iload_n hx hb dX4_set_21 rfl (lv_at hl 3 rfl) ?_
      refine r_cS (av := [.int (nI i), .int v]) (c_X4_isBound l G t (nI i) v) ⟨hx, hb, hml, hown, hts⟩ (va_cwS 2 hts gX4_set_X4_isBound rfl rfl rfl (by decide +kernel) ⟨Nat.le_of_ble_eq_true rfl, Nat.le_of_ble_eq_true rfl⟩) mv_T trivial rfl hl (Nat.le_of_ble_eq_true rfl) ⟨Nat.le_of_ble_eq_true rfl, Nat.le_of_ble_eq_true rfl⟩ rfl dX4_set_22 (fun r3 hr3 => ?_)
      subst hr3
      refine r_ifeqB hx hb dX4_set_25 (tgt := 38) (by decide) (fun c3 => ?_) (fun c3 => ?_)
      · refine lv_ldc (v := (-1000000002)) hx hb hown (hts (.constant RX4 83 (-1000000002)) (List.mem_of_getElem? (i := 2) rfl)) dX4_set_38 ?_
        exact r_retI (v := (-1000000002)) hx hb hr hlocks hS (by have c4 : mhB w v = false := (by first | exact and_f1 c2 | exact and_f2 (by rw [ei]; exact c3)); exact ⟨by unfold rSet; rw [c1, c4]; rfl, by unfold oSet; rw [and_f2 c4]; exact hB.2⟩) dX4_set_40
      · have c4 : mhB w v = true := and_t c2 (by rw [ei]; exact c3)
        refine lv_aload_n hx hb dX4_set_28 rfl (lv_at hl 0 rfl) ?_
        refine lv_iload_n hx hb dX4_set_29 rfl (lv_at hl 1 rfl) ?_
        refine r_top (y := nI k) ek ?_
        refine lv_iload_n hx hb dX4_set_30 rfl (lv_at hl 2 rfl) ?_
        refine r_top (y := nI i) ei ?_
        refine lv_iload_n hx hb dX4_set_31 rfl (lv_at hl 3 rfl) ?_
        refine r_mVi (av := [.int (nI k), .int (nI i), .int v]) (c_X4_becomes l G t d z gr sl bc bk kp im hz hbc k i v hk (by omega)) ⟨hx, hb, hml, hown, hts⟩ (cwV 3 hts gX4_set_X4_becomes rfl rfl rfl (by decide +kernel) ⟨Nat.le_of_ble_eq_true rfl, Nat.le_of_ble_eq_true rfl⟩) mv_K hB (at_recv hK h0 rfl) rfl hl (Nat.le_of_ble_eq_true rfl) ⟨Nat.le_of_ble_eq_true rfl, Nat.le_of_ble_eq_true rfl⟩ rfl dX4_set_32 hS (fun q h => h) (fun r4 H locs hP hz9 hk hS => ?_)
        refine lv_goto (tgt := 40) hx hb dX4_set_35 (by decide) ?_
        exact r_retI (v := r4) hx hb hr hlocks hS ⟨by unfold rSet; rw [c1, c4, ekc, eic]; exact hP.1, by unfold oSet; rw [and_t c1 c4, ekc, eic]; exact hP.2⟩ dX4_set_40
  · refine lv_ldc (v := (-1000000001)) hx hb hown (hts (.constant RX4 96 (-1000000001)) (List.mem_of_getElem? (i := 1) rfl)) dX4_set_8 ?_
    exact r_retI (v := (-1000000001)) hx hb hr hlocks hS ⟨by unfold rSet; rw [c1]; rfl, by unfold oSet; rw [and_f1 c1]; exact hB.2⟩ dX4_set_10

set_option maxRecDepth 20000 in
theorem iiX4_shut_4 : ∀ w ∈ wsX40, w ∈ wsX4_shut := by decide +kernel
set_option maxHeartbeats 4000000 in
set_option maxRecDepth 100000 in
/-- a channel is shut for a while -/
theorem c_X4_shut (l : Launch) (G : va_G) (t : gT) (d : Nat) (z : Nat → Int32) (gr : Nat → Nat) (sl bc : Nat) (bk : Nat → Nat → Int32) (kp : Nat → Bool) (im : Nat → Nat → Int32) (hz : WF z) (hbc : bc ≤ 12) (u ch x y : Int32) : Met l yX4_shut wsX4_shut ({ frames := 2, cells := 0, slots := 0, locals := 45 } : Room) (pc_ [.ref d, .int u, .int ch, .int x, .int y] (fun U H => KK G t U ∧ PM G t d (z, gr, sl, bc, bk, kp, im) H)) (qi_ (fun r H => r = rShut u ch x y z ∧ PM G t d (oShut u ch x y z gr sl bc bk kp im) H) (iv d (d + 7))) 0 0 (iv d (d + 7)) := by
  refine Met.ofW (cc := cX4_shut) (maxL := 6) (ret := (some .int)) (by decide) rfl ?_
  intro p e s m args below meth c s₁ B hml hv
  obtain ⟨rfl, hB⟩ := hv
  have hx := B.exec
  have hb := B.bytes
  have hr := B.returns
  have hts := atoms_spec (ws := wsX4_shut) B.pre
  have hown : s.vm.findClass RX4 = some m.cls := findClass_of_methodNamed B.named
  have hlocks := B.notSynchronized
  have hK := hB.1
  obtain ⟨lo, fB, fI, fG, fM, h0, h1, h2, h3, h4, h5, h6, e1, e2, e3⟩ := hB.2
  have hn := hz.n
  have hu5 := hz.u5
  have hs8 := hz.s8
  have hS : va_S (iv d (d + 7)) s.heap s.heap [] := va_S.rf
  have hl := lv_entry ([.ref d, .int u, .int ch, .int x, .int y]) (n := 6) (Nat.le_of_ble_eq_true rfl)
  rw [lg_entry_eq]
  generalize (lg_sl ([.ref d, .int u, .int ch, .int x, .int y]) ++ List.replicate (6 - (lg_sl ([.ref d, .int u, .int ch, .int x, .int y])).length) Slot.unset).toArray = ls at hl ⊢
  have hl : lv_has ls 6 [(0, .ref d), (1, .int u), (2, .int ch), (3, .int x), (4, .int y)] := hl
  refine lv_iload_n hx hb dX4_shut_0 rfl (lv_at hl 1 rfl) ?_
  refine lv_iconst (v := (-1)) hx hb dX4_shut_1 (by decide) ?_
  refine lv_icmp_eq (tgt := 13) hx hb dX4_shut_2 (by decide) (fun c1 => ?_) (fun c1 => ?_)
  · have d1 : u = -1 ∨ usB z u = true := Or.inl c1
    refine lv_iload_n hx hb dX4_shut_13 rfl (lv_at hl 2 rfl) ?_
    refine lv_iconst (v := nI 0) hx hb dX4_shut_14 (by decide) ?_
    refine lv_aload_n hx hb dX4_shut_15 rfl (lv_at hl 0 rfl) ?_
    refine r_get (C := RX4) (T := TX4) (N := 10) hx hb hts iiX4_shut_4 hown hK h0 rfl 0 (by decide) (hts (.fieldLink RX4 7 "HopMeetModel" "now" "[I") (List.mem_of_getElem? (i := 1) rfl)) rfl dX4_shut_16 ?_
    refine lv_iconst (v := nI 0) hx hb dX4_shut_19 (by decide) ?_
    refine r_iald hx hb hK h1 rfl 0 (by omega) (by decide) (v := nI (cn z)) hz.1.1 dX4_shut_20 ?_
    refine lv_iconst (v := nI 1) hx hb dX4_shut_21 (by decide) ?_
    refine r_isubN hx hb (by omega) dX4_shut_22 ?_
    refine r_cS (av := [.int ch, .int (nI 0), .int (nI ((cn z) - 1))]) (c_X4_in l G t ch (nI 0) (nI (cn z - 1))) ⟨hx, hb, hml, hown, hts⟩ (va_cwS 3 hts gX4_shut_X4_in rfl rfl rfl (by decide +kernel) ⟨Nat.le_of_ble_eq_true rfl, Nat.le_of_ble_eq_true rfl⟩) mv_T trivial rfl hl (Nat.le_of_ble_eq_true rfl) ⟨Nat.le_of_ble_eq_true rfl, Nat.le_of_ble_eq_true rfl⟩ rfl dX4_shut_23 (fun r1 hr1 => ?_)
    subst hr1
    refine r_ifneB hx hb dX4_shut_26 (tgt := 32) (by decide) (fun c3 => ?_) (fun c3 => ?_)
    · have d2 := sh_in hz d1 c3
      refine lv_iload_n hx hb dX4_shut_32 rfl (lv_at hl 3 rfl) ?_
      refine lv_iconst (v := nI 0) hx hb dX4_shut_33 (by decide) ?_
      refine lv_sipush (v := nI 1500) hx hb dX4_shut_34 (by decide) ?_
      refine r_cS (av := [.int x, .int (nI 0), .int (nI 1500)]) (c_X4_in l G t x (nI 0) (nI 1500)) ⟨hx, hb, hml, hown, hts⟩ (va_cwS 3 hts gX4_shut_X4_in rfl rfl rfl (by decide +kernel) ⟨Nat.le_of_ble_eq_true rfl, Nat.le_of_ble_eq_true rfl⟩) mv_T trivial rfl hl (Nat.le_of_ble_eq_true rfl) ⟨Nat.le_of_ble_eq_true rfl, Nat.le_of_ble_eq_true rfl⟩ rfl dX4_shut_37 (fun r2 hr2 => ?_)
      subst hr2
      refine r_ifeqB hx hb dX4_shut_40 (tgt := 55) (by decide) (fun c5 => ?_) (fun c5 => ?_)
      · refine lv_ldc (v := (-1000000002)) hx hb hown (hts (.constant RX4 83 (-1000000002)) (List.mem_of_getElem? (i := 3) rfl)) dX4_shut_55 ?_
        exact r_retI (v := (-1000000002)) hx hb hr hlocks hS (by have d3 : okSpell x y = false := (by first | exact and_f1 c5 | exact and_f2 c6); exact ⟨by unfold rShut; rw [d2, d3]; rfl, by unfold oShut; rw [and_f2 (and_f1 d3)]; exact hB.2⟩) dX4_shut_57
      · refine lv_iload hx hb dX4_shut_43 (lv_at hl 4 rfl) ?_
        refine lv_iconst (v := nI 1) hx hb dX4_shut_45 (by decide) ?_
        refine lv_sipush (v := nI 500) hx hb dX4_shut_46 (by decide) ?_
        refine r_cS (av := [.int y, .int (nI 1), .int (nI 500)]) (c_X4_in l G t y (nI 1) (nI 500)) ⟨hx, hb, hml, hown, hts⟩ (va_cwS 3 hts gX4_shut_X4_in rfl rfl rfl (by decide +kernel) ⟨Nat.le_of_ble_eq_true rfl, Nat.le_of_ble_eq_true rfl⟩) mv_T trivial rfl hl (Nat.le_of_ble_eq_true rfl) ⟨Nat.le_of_ble_eq_true rfl, Nat.le_of_ble_eq_true rfl⟩ rfl dX4_shut_49 (fun r3 hr3 => ?_)
        subst hr3
        refine r_ifneB hx hb dX4_shut_52 (tgt := 58) (by decide) (fun c6 => ?_) (fun c6 => ?_)
        · have d3 : okSpell x y = true := and_t c5 c6
          refine lv_aload_n hx hb dX4_shut_58 rfl (lv_at hl 0 rfl) ?_
          refine r_get (C := RX4) (T := TX4) (N := 10) hx hb hts iiX4_shut_4 hown hK h0 rfl 0 (by decide) (hts (.fieldLink RX4 7 "HopMeetModel" "now" "[I") (List.mem_of_getElem? (i := 1) rfl)) rfl dX4_shut_59 ?_
          refine lv_iconst (v := nI 2) hx hb dX4_shut_62 (by decide) ?_
          refine r_iald hx hb hK h1 rfl 2 (by omega) (by decide) (v := nI (cs z)) hz.2.2.1.1 dX4_shut_63 ?_
          refine lv_bipush (v := nI 8) hx hb dX4_shut_64 (by decide) ?_
          refine r_neN hx hb (by omega) (by omega) dX4_shut_66 (tgt := 72) (by decide) (fun c9 => ?_) (fun c9 => ?_)
          · have hlt : cs z < 8 := by omega
            refine lv_aload_n hx hb dX4_shut_72 rfl (lv_at hl 0 rfl) ?_
            refine r_mV (av := []) (c_X4_note l G t d z gr sl bc bk kp im hz hbc) ⟨hx, hb, hml, hown, hts⟩ (cwV 0 hts gX4_shut_X4_note rfl rfl rfl (by decide +kernel) ⟨Nat.le_of_ble_eq_true rfl, Nat.le_of_ble_eq_true rfl⟩) mv_K hB (at_recv hK h0 rfl) rfl hl (Nat.le_of_ble_eq_true rfl) ⟨Nat.le_of_ble_eq_true rfl, Nat.le_of_ble_eq_true rfl⟩ rfl dX4_shut_73 hS (fun q h => h) (fun H locs hP hz9 hk hS => ?_)
            obtain ⟨⟨lo, fB, fI, fG0, fM, h0, h1, h2, h3, h4, h50, h6, e1, e2, e30⟩, fG, h5, e3⟩ := hP
            refine lv_bipush (v := nI 28) hx hb dX4_shut_76 (by decide) ?_
            refine lv_iconst (v := nI 4) hx hb dX4_shut_78 (by decide) ?_
            refine lv_aload_n hx hb dX4_shut_79 rfl (lv_at hl 0 rfl) ?_
            refine r_get (C := RX4) (T := TX4) (N := 10) hx hb hts iiX4_shut_4 hown hK h0 rfl 0 (by decide) (hts (.fieldLink RX4 7 "HopMeetModel" "now" "[I") (List.mem_of_getElem? (i := 1) rfl)) rfl dX4_shut_80 ?_
            refine lv_iconst (v := nI 2) hx hb dX4_shut_83 (by decide) ?_
            refine r_iald hx hb hK h1 rfl 2 (by omega) (by decide) (v := nI (cs z)) hz.2.2.1.1 dX4_shut_84 ?_
            refine r_imulN hx hb dX4_shut_85 ?_
            refine r_iaddN hx hb dX4_shut_86 ?_
            refine lv_istore (lv' := [(5, .int (nI (28 + (4 * (cs z))))), (0, .ref d), (1, .int u), (2, .int ch), (3, .int x), (4, .int y)]) hx hb dX4_shut_87 hl (by decide) rfl (fun ls hl => ?_)
            refine lv_aload_n hx hb dX4_shut_89 rfl (lv_at hl 1 rfl) ?_
            refine r_get (C := RX4) (T := TX4) (N := 10) hx hb hts iiX4_shut_4 hown hK h0 rfl 0 (by decide) (hts (.fieldLink RX4 7 "HopMeetModel" "now" "[I") (List.mem_of_getElem? (i := 1) rfl)) rfl dX4_shut_90 ?_
            refine lv_iload hx hb dX4_shut_93 (lv_at hl 0 rfl) ?_
            refine lv_iload_n hx hb dX4_shut_95 rfl (lv_at hl 2 rfl) ?_
            refine r_iast hx hb hK h1 ⟨by omega, by omega⟩ hS rfl (28 + (4 * (cs z))) (by omega) (by decide) dX4_shut_96 (fun H locs h1 hz9 hq hS => ?_)
            have h0 := at_kept h0 (hq _ (by omega))
            have h2 := at_kept h2 (hq _ (by omega))
            have h3 := at_kept h3 (hq _ (by omega))
            have h4 := at_kept h4 (hq _ (by omega))
            have h5 := at_kept h5 (hq _ (by omega))
            have h6 := at_kept h6 (hq _ (by omega))
            refine lv_aload_n hx hb dX4_shut_97 rfl (lv_at hl 1 rfl) ?_
            refine r_get (C := RX4) (T := TX4) (N := 10) hx hb hts iiX4_shut_4 hown hK h0 rfl 0 (by decide) (hts (.fieldLink RX4 7 "HopMeetModel" "now" "[I") (List.mem_of_getElem? (i := 1) rfl)) rfl dX4_shut_98 ?_
            refine lv_iload hx hb dX4_shut_101 (lv_at hl 0 rfl) ?_
            refine lv_iconst (v := nI 1) hx hb dX4_shut_103 (by decide) ?_
            refine r_iaddN hx hb dX4_shut_104 ?_
            refine lv_iload_n hx hb dX4_shut_105 rfl (lv_at hl 3 rfl) ?_
            refine r_iast hx hb hK h1 ⟨by omega, by omega⟩ hS rfl ((28 + (4 * (cs z))) + 1) (by omega) (by decide) dX4_shut_106 (fun H locs h1 hz9 hq hS => ?_)
            have h0 := at_kept h0 (hq _ (by omega))
            have h2 := at_kept h2 (hq _ (by omega))
            have h3 := at_kept h3 (hq _ (by omega))
            have h4 := at_kept h4 (hq _ (by omega))
            have h5 := at_kept h5 (hq _ (by omega))
            have h6 := at_kept h6 (hq _ (by omega))
            refine lv_aload_n hx hb dX4_shut_107 rfl (lv_at hl 1 rfl) ?_
            refine r_get (C := RX4) (T := TX4) (N := 10) hx hb hts iiX4_shut_4 hown hK h0 rfl 0 (by decide) (hts (.fieldLink RX4 7 "HopMeetModel" "now" "[I") (List.mem_of_getElem? (i := 1) rfl)) rfl dX4_shut_108 ?_
            refine lv_iload hx hb dX4_shut_111 (lv_at hl 0 rfl) ?_
            refine lv_iconst (v := nI 2) hx hb dX4_shut_113 (by decide) ?_
            refine r_iaddN hx hb dX4_shut_114 ?_
            refine lv_iload_n hx hb dX4_shut_115 rfl (lv_at hl 4 rfl) ?_
            refine r_iast hx hb hK h1 ⟨by omega, by omega⟩ hS rfl ((28 + (4 * (cs z))) + 2) (by omega) (by decide) dX4_shut_116 (fun H locs h1 hz9 hq hS => ?_)
            have h0 := at_kept h0 (hq _ (by omega))
            have h2 := at_kept h2 (hq _ (by omega))
            have h3 := at_kept h3 (hq _ (by omega))
            have h4 := at_kept h4 (hq _ (by omega))
            have h5 := at_kept h5 (hq _ (by omega))
            have h6 := at_kept h6 (hq _ (by omega))
            refine lv_aload_n hx hb dX4_shut_117 rfl (lv_at hl 1 rfl) ?_
            refine r_get (C := RX4) (T := TX4) (N := 10) hx hb hts iiX4_shut_4 hown hK h0 rfl 0 (by decide) (hts (.fieldLink RX4 7 "HopMeetModel" "now" "[I") (List.mem_of_getElem? (i := 1) rfl)) rfl dX4_shut_118 ?_
            refine lv_iload hx hb dX4_shut_121 (lv_at hl 0 rfl) ?_
            refine lv_iconst (v := nI 3) hx hb dX4_shut_123 (by decide) ?_
            refine r_iaddN hx hb dX4_shut_124 ?_
            refine lv_iload hx hb dX4_shut_125 (lv_at hl 5 rfl) ?_
            refine r_iast hx hb hK h1 ⟨by omega, by omega⟩ hS rfl ((28 + (4 * (cs z))) + 3) (by omega) (by decide) dX4_shut_127 (fun H locs h1 hz9 hq hS => ?_)
            have h0 := at_kept h0 (hq _ (by omega))
            have h2 := at_kept h2 (hq _ (by omega))
            have h3 := at_kept h3 (hq _ (by omega))
            have h4 := at_kept h4 (hq _ (by omega))
            have h5 := at_kept h5 (hq _ (by omega))
            have h6 := at_kept h6 (hq _ (by omega))
            refine lv_aload_n hx hb dX4_shut_128 rfl (lv_at hl 1 rfl) ?_
            refine r_get (C := RX4) (T := TX4) (N := 10) hx hb hts iiX4_shut_4 hown hK h0 rfl 0 (by decide) (hts (.fieldLink RX4 7 "HopMeetModel" "now" "[I") (List.mem_of_getElem? (i := 1) rfl)) rfl dX4_shut_129 ?_
            refine lv_iconst (v := nI 2) hx hb dX4_shut_132 (by decide) ?_
            refine lv_dup2_11 hx hb dX4_shut_133 rfl rfl ?_
            refine r_iald hx hb hK h1 rfl 2 (by omega) (by decide) (v := nI (cs z)) (s5_s hz) dX4_shut_134 ?_
            refine lv_iconst (v := nI 1) hx hb dX4_shut_135 (by decide) ?_
            refine r_iaddN hx hb dX4_shut_136 ?_
            refine r_iast hx hb hK h1 ⟨by omega, by omega⟩ hS rfl 2 (by omega) (by decide) dX4_shut_137 (fun H locs h1 hz9 hq hS => ?_)
            have h0 := at_kept h0 (hq _ (by omega))
            have h2 := at_kept h2 (hq _ (by omega))
            have h3 := at_kept h3 (hq _ (by omega))
            have h4 := at_kept h4 (hq _ (by omega))
            have h5 := at_kept h5 (hq _ (by omega))
            have h6 := at_kept h6 (hq _ (by omega))
            have h1 : at_ G (d + 1) (aI t 60 (zSpell z u ch x y)) H := h1
            refine lv_aload_n hx hb dX4_shut_138 rfl (lv_at hl 1 rfl) ?_
            refine r_get (C := RX4) (T := TX4) (N := 10) hx hb hts iiX4_shut_4 hown hK h0 rfl 0 (by decide) (hts (.fieldLink RX4 7 "HopMeetModel" "now" "[I") (List.mem_of_getElem? (i := 1) rfl)) rfl dX4_shut_139 ?_
            refine lv_iconst (v := nI 2) hx hb dX4_shut_142 (by decide) ?_
            refine r_iald hx hb hK h1 rfl 2 (by omega) (by decide) (v := nI (cs z + 1)) sp_2 dX4_shut_143 ?_
            exact r_retI (v := nI (cs z + 1)) hx hb hr hlocks hS ⟨by unfold rShut; rw [d2, d3, decide_eq_true hlt]; rfl, by unfold oShut; rw [and_t d2 (and_t d3 (decide_eq_true hlt))]; exact PM_mk (by rw [zSpell_n]; exact h0) h1 h2 h3 h4 h5 h6 e1 e2 (fun u hu => e3 u (by rw [zSpell_u] at hu; omega))⟩ dX4_shut_144
          · refine lv_ldc (v := (-1000000004)) hx hb hown (hts (.constant RX4 88 (-1000000004)) (List.mem_of_getElem? (i := 4) rfl)) dX4_shut_69 ?_
            exact r_retI (v := (-1000000004)) hx hb hr hlocks hS ⟨by unfold rShut; rw [d2, d3, decide_eq_false (by omega)]; rfl, by unfold oShut; rw [and_f2 (and_f2 (decide_eq_false (by omega)))]; exact hB.2⟩ dX4_shut_71
        · refine lv_ldc (v := (-1000000002)) hx hb hown (hts (.constant RX4 83 (-1000000002)) (List.mem_of_getElem? (i := 3) rfl)) dX4_shut_55 ?_
          exact r_retI (v := (-1000000002)) hx hb hr hlocks hS (by have d3 : okSpell x y = false := (by first | exact and_f1 c5 | exact and_f2 c6); exact ⟨by unfold rShut; rw [d2, d3]; rfl, by unfold oShut; rw [and_f2 (and_f1 d3)]; exact hB.2⟩) dX4_shut_57
    · refine lv_ldc (v := (-1000000001)) hx hb hown (hts (.constant RX4 96 (-1000000001)) (List.mem_of_getElem? (i := 2) rfl)) dX4_shut_29 ?_
      exact r_retI (v := (-1000000001)) hx hb hr hlocks hS (by have d2 : okShut u ch z = false := (by first | exact sh_f1 c1 c2 | exact sh_in0 hz c3); exact ⟨by unfold rShut; rw [d2]; rfl, by unfold oShut; rw [and_f1 d2]; exact hB.2⟩) dX4_shut_31
  · refine lv_aload_n hx hb dX4_shut_5 rfl (lv_at hl 0 rfl) ?_
    refine lv_iload_n hx hb dX4_shut_6 rfl (lv_at hl 1 rfl) ?_
    refine r_cV (av := [.int u]) (c_X4_isUser l G t d z hz u) ⟨hx, hb, hml, hown, hts⟩ (cwV 1 hts gX4_shut_X4_isUser rfl rfl rfl (by decide +kernel) ⟨Nat.le_of_ble_eq_true rfl, Nat.le_of_ble_eq_true rfl⟩) mv_K ⟨hK, ⟨_, _, _, h0, h1⟩⟩ (at_recv hK h0 rfl) rfl hl (Nat.le_of_ble_eq_true rfl) ⟨Nat.le_of_ble_eq_true rfl, Nat.le_of_ble_eq_true rfl⟩ rfl dX4_shut_7 (fun r4 hr4 => ?_)
    subst hr4
    refine r_ifeqB hx hb dX4_shut_10 (tgt := 29) (by decide) (fun c2 => ?_) (fun c2 => ?_)
    · refine lv_ldc (v := (-1000000001)) hx hb hown (hts (.constant RX4 96 (-1000000001)) (List.mem_of_getElem? (i := 2) rfl)) dX4_shut_29 ?_
      exact r_retI (v := (-1000000001)) hx hb hr hlocks hS (by have d2 : okShut u ch z = false := (by first | exact sh_f1 c1 c2 | exact sh_in0 hz c3); exact ⟨by unfold rShut; rw [d2]; rfl, by unfold oShut; rw [and_f1 d2]; exact hB.2⟩) dX4_shut_31
    · have d1 : u = -1 ∨ usB z u = true := Or.inr c2
      refine lv_iload_n hx hb dX4_shut_13 rfl (lv_at hl 2 rfl) ?_
      refine lv_iconst (v := nI 0) hx hb dX4_shut_14 (by decide) ?_
      refine lv_aload_n hx hb dX4_shut_15 rfl (lv_at hl 0 rfl) ?_
      refine r_get (C := RX4) (T := TX4) (N := 10) hx hb hts iiX4_shut_4 hown hK h0 rfl 0 (by decide) (hts (.fieldLink RX4 7 "HopMeetModel" "now" "[I") (List.mem_of_getElem? (i := 1) rfl)) rfl dX4_shut_16 ?_
      refine lv_iconst (v := nI 0) hx hb dX4_shut_19 (by decide) ?_
      refine r_iald hx hb hK h1 rfl 0 (by omega) (by decide) (v := nI (cn z)) hz.1.1 dX4_shut_20 ?_
      refine lv_iconst (v := nI 1) hx hb dX4_shut_21 (by decide) ?_
      refine r_isubN hx hb (by omega) dX4_shut_22 ?_
      refine r_cS (av := [.int ch, .int (nI 0), .int (nI ((cn z) - 1))]) (c_X4_in l G t ch (nI 0) (nI (cn z - 1))) ⟨hx, hb, hml, hown, hts⟩ (va_cwS 3 hts gX4_shut_X4_in rfl rfl rfl (by decide +kernel) ⟨Nat.le_of_ble_eq_true rfl, Nat.le_of_ble_eq_true rfl⟩) mv_T trivial rfl hl (Nat.le_of_ble_eq_true rfl) ⟨Nat.le_of_ble_eq_true rfl, Nat.le_of_ble_eq_true rfl⟩ rfl dX4_shut_23 (fun r5 hr5 => ?_)
      subst hr5
      refine r_ifneB hx hb dX4_shut_26 (tgt := 32) (by decide) (fun c3 => ?_) (fun c3 => ?_)
      · have d2 := sh_in hz d1 c3
        refine lv_iload_n hx hb dX4_shut_32 rfl (lv_at hl 3 rfl) ?_
        refine lv_iconst (v := nI 0) hx hb dX4_shut_33 (by decide) ?_
        refine lv_sipush (v := nI 1500) hx hb dX4_shut_34 (by decide) ?_
        refine r_cS (av := [.int x, .int (nI 0), .int (nI 1500)]) (c_X4_in l G t x (nI 0) (nI 1500)) ⟨hx, hb, hml, hown, hts⟩ (va_cwS 3 hts gX4_shut_X4_in rfl rfl rfl (by decide +kernel) ⟨Nat.le_of_ble_eq_true rfl, Nat.le_of_ble_eq_true rfl⟩) mv_T trivial rfl hl (Nat.le_of_ble_eq_true rfl) ⟨Nat.le_of_ble_eq_true rfl, Nat.le_of_ble_eq_true rfl⟩ rfl dX4_shut_37 (fun r6 hr6 => ?_)
        subst hr6
        refine r_ifeqB hx hb dX4_shut_40 (tgt := 55) (by decide) (fun c5 => ?_) (fun c5 => ?_)
        · refine lv_ldc (v := (-1000000002)) hx hb hown (hts (.constant RX4 83 (-1000000002)) (List.mem_of_getElem? (i := 3) rfl)) dX4_shut_55 ?_
          exact r_retI (v := (-1000000002)) hx hb hr hlocks hS (by have d3 : okSpell x y = false := (by first | exact and_f1 c5 | exact and_f2 c6); exact ⟨by unfold rShut; rw [d2, d3]; rfl, by unfold oShut; rw [and_f2 (and_f1 d3)]; exact hB.2⟩) dX4_shut_57
        · refine lv_iload hx hb dX4_shut_43 (lv_at hl 4 rfl) ?_
          refine lv_iconst (v := nI 1) hx hb dX4_shut_45 (by decide) ?_
          refine lv_sipush (v := nI 500) hx hb dX4_shut_46 (by decide) ?_
          refine r_cS (av := [.int y, .int (nI 1), .int (nI 500)]) (c_X4_in l G t y (nI 1) (nI 500)) ⟨hx, hb, hml, hown, hts⟩ (va_cwS 3 hts gX4_shut_X4_in rfl rfl rfl (by decide +kernel) ⟨Nat.le_of_ble_eq_true rfl, Nat.le_of_ble_eq_true rfl⟩) mv_T trivial rfl hl (Nat.le_of_ble_eq_true rfl) ⟨Nat.le_of_ble_eq_true rfl, Nat.le_of_ble_eq_true rfl⟩ rfl dX4_shut_49 (fun r7 hr7 => ?_)
          subst hr7
          refine r_ifneB hx hb dX4_shut_52 (tgt := 58) (by decide) (fun c6 => ?_) (fun c6 => ?_)
          · have d3 : okSpell x y = true := and_t c5 c6
            refine lv_aload_n hx hb dX4_shut_58 rfl (lv_at hl 0 rfl) ?_
            refine r_get (C := RX4) (T := TX4) (N := 10) hx hb hts iiX4_shut_4 hown hK h0 rfl 0 (by decide) (hts (.fieldLink RX4 7 "HopMeetModel" "now" "[I") (List.mem_of_getElem? (i := 1) rfl)) rfl dX4_shut_59 ?_
            refine lv_iconst (v := nI 2) hx hb dX4_shut_62 (by decide) ?_
            refine r_iald hx hb hK h1 rfl 2 (by omega) (by decide) (v := nI (cs z)) hz.2.2.1.1 dX4_shut_63 ?_
            refine lv_bipush (v := nI 8) hx hb dX4_shut_64 (by decide) ?_
            refine r_neN hx hb (by omega) (by omega) dX4_shut_66 (tgt := 72) (by decide) (fun c9 => ?_) (fun c9 => ?_)
            · have hlt : cs z < 8 := by omega
              refine lv_aload_n hx hb dX4_shut_72 rfl (lv_at hl 0 rfl) ?_
              refine r_mV (av := []) (c_X4_note l G t d z gr sl bc bk kp im hz hbc) ⟨hx, hb, hml, hown, hts⟩ (cwV 0 hts gX4_shut_X4_note rfl rfl rfl (by decide +kernel) ⟨Nat.le_of_ble_eq_true rfl, Nat.le_of_ble_eq_true rfl⟩) mv_K hB (at_recv hK h0 rfl) rfl hl (Nat.le_of_ble_eq_true rfl) ⟨Nat.le_of_ble_eq_true rfl, Nat.le_of_ble_eq_true rfl⟩ rfl dX4_shut_73 hS (fun q h => h) (fun H locs hP hz9 hk hS => ?_)
              obtain ⟨⟨lo, fB, fI, fG0, fM, h0, h1, h2, h3, h4, h50, h6, e1, e2, e30⟩, fG, h5, e3⟩ := hP
              refine lv_bipush (v := nI 28) hx hb dX4_shut_76 (by decide) ?_
              refine lv_iconst (v := nI 4) hx hb dX4_shut_78 (by decide) ?_
              refine lv_aload_n hx hb dX4_shut_79 rfl (lv_at hl 0 rfl) ?_
              refine r_get (C := RX4) (T := TX4) (N := 10) hx hb hts iiX4_shut_4 hown hK h0 rfl 0 (by decide) (hts (.fieldLink RX4 7 "HopMeetModel" "now" "[I") (List.mem_of_getElem? (i := 1) rfl)) rfl dX4_shut_80 ?_
              refine lv_iconst (v := nI 2) hx hb dX4_shut_83 (by decide) ?_
              refine r_iald hx hb hK h1 rfl 2 (by omega) (by decide) (v := nI (cs z)) hz.2.2.1.1 dX4_shut_84 ?_
              refine r_imulN hx hb dX4_shut_85 ?_
              refine r_iaddN hx hb dX4_shut_86 ?_
              refine lv_istore (lv' := [(5, .int (nI (28 + (4 * (cs z))))), (0, .ref d), (1, .int u), (2, .int ch), (3, .int x), (4, .int y)]) hx hb dX4_shut_87 hl (by decide) rfl (fun ls hl => ?_)
              refine lv_aload_n hx hb dX4_shut_89 rfl (lv_at hl 1 rfl) ?_
              refine r_get (C := RX4) (T := TX4) (N := 10) hx hb hts iiX4_shut_4 hown hK h0 rfl 0 (by decide) (hts (.fieldLink RX4 7 "HopMeetModel" "now" "[I") (List.mem_of_getElem? (i := 1) rfl)) rfl dX4_shut_90 ?_
              refine lv_iload hx hb dX4_shut_93 (lv_at hl 0 rfl) ?_
              refine lv_iload_n hx hb dX4_shut_95 rfl (lv_at hl 2 rfl) ?_
              refine r_iast hx hb hK h1 ⟨by omega, by omega⟩ hS rfl (28 + (4 * (cs z))) (by omega) (by decide) dX4_shut_96 (fun H locs h1 hz9 hq hS => ?_)
              have h0 := at_kept h0 (hq _ (by omega))
              have h2 := at_kept h2 (hq _ (by omega))
              have h3 := at_kept h3 (hq _ (by omega))
              have h4 := at_kept h4 (hq _ (by omega))
              have h5 := at_kept h5 (hq _ (by omega))
              have h6 := at_kept h6 (hq _ (by omega))
              refine lv_aload_n hx hb dX4_shut_97 rfl (lv_at hl 1 rfl) ?_
              refine r_get (C := RX4) (T := TX4) (N := 10) hx hb hts iiX4_shut_4 hown hK h0 rfl 0 (by decide) (hts (.fieldLink RX4 7 "HopMeetModel" "now" "[I") (List.mem_of_getElem? (i := 1) rfl)) rfl dX4_shut_98 ?_
              refine lv_iload hx hb dX4_shut_101 (lv_at hl 0 rfl) ?_
              refine lv_iconst (v := nI 1) hx hb dX4_shut_103 (by decide) ?_
              refine r_iaddN hx hb dX4_shut_104 ?_
              refine lv_iload_n hx hb dX4_shut_105 rfl (lv_at hl 3 rfl) ?_
              refine r_iast hx hb hK h1 ⟨by omega, by omega⟩ hS rfl ((28 + (4 * (cs z))) + 1) (by omega) (by decide) dX4_shut_106 (fun H locs h1 hz9 hq hS => ?_)
              have h0 := at_kept h0 (hq _ (by omega))
              have h2 := at_kept h2 (hq _ (by omega))
              have h3 := at_kept h3 (hq _ (by omega))
              have h4 := at_kept h4 (hq _ (by omega))
              have h5 := at_kept h5 (hq _ (by omega))
              have h6 := at_kept h6 (hq _ (by omega))
              refine lv_aload_n hx hb dX4_shut_107 rfl (lv_at hl 1 rfl) ?_
              refine r_get (C := RX4) (T := TX4) (N := 10) hx hb hts iiX4_shut_4 hown hK h0 rfl 0 (by decide) (hts (.fieldLink RX4 7 "HopMeetModel" "now" "[I") (List.mem_of_getElem? (i := 1) rfl)) rfl dX4_shut_108 ?_
              refine lv_iload hx hb dX4_shut_111 (lv_at hl 0 rfl) ?_
              refine lv_iconst (v := nI 2) hx hb dX4_shut_113 (by decide) ?_
              refine r_iaddN hx hb dX4_shut_114 ?_
              refine lv_iload_n hx hb dX4_shut_115 rfl (lv_at hl 4 rfl) ?_
              refine r_iast hx hb hK h1 ⟨by omega, by omega⟩ hS rfl ((28 + (4 * (cs z))) + 2) (by omega) (by decide) dX4_shut_116 (fun H locs h1 hz9 hq hS => ?_)
              have h0 := at_kept h0 (hq _ (by omega))
              have h2 := at_kept h2 (hq _ (by omega))
              have h3 := at_kept h3 (hq _ (by omega))
              have h4 := at_kept h4 (hq _ (by omega))
              have h5 := at_kept h5 (hq _ (by omega))
              have h6 := at_kept h6 (hq _ (by omega))
              refine lv_aload_n hx hb dX4_shut_117 rfl (lv_at hl 1 rfl) ?_
              refine r_get (C := RX4) (T := TX4) (N := 10) hx hb hts iiX4_shut_4 hown hK h0 rfl 0 (by decide) (hts (.fieldLink RX4 7 "HopMeetModel" "now" "[I") (List.mem_of_getElem? (i := 1) rfl)) rfl dX4_shut_118 ?_
              refine lv_iload hx hb dX4_shut_121 (lv_at hl 0 rfl) ?_
              refine lv_iconst (v := nI 3) hx hb dX4_shut_123 (by decide) ?_
              refine r_iaddN hx hb dX4_shut_124 ?_
              refine lv_iload hx hb dX4_shut_125 (lv_at hl 5 rfl) ?_
              refine r_iast hx hb hK h1 ⟨by omega, by omega⟩ hS rfl ((28 + (4 * (cs z))) + 3) (by omega) (by decide) dX4_shut_127 (fun H locs h1 hz9 hq hS => ?_)
              have h0 := at_kept h0 (hq _ (by omega))
              have h2 := at_kept h2 (hq _ (by omega))
              have h3 := at_kept h3 (hq _ (by omega))
              have h4 := at_kept h4 (hq _ (by omega))
              have h5 := at_kept h5 (hq _ (by omega))
              have h6 := at_kept h6 (hq _ (by omega))
              refine lv_aload_n hx hb dX4_shut_128 rfl (lv_at hl 1 rfl) ?_
              refine r_get (C := RX4) (T := TX4) (N := 10) hx hb hts iiX4_shut_4 hown hK h0 rfl 0 (by decide) (hts (.fieldLink RX4 7 "HopMeetModel" "now" "[I") (List.mem_of_getElem? (i := 1) rfl)) rfl dX4_shut_129 ?_
              refine lv_iconst (v := nI 2) hx hb dX4_shut_132 (by decide) ?_
              refine lv_dup2_11 hx hb dX4_shut_133 rfl rfl ?_
              refine r_iald hx hb hK h1 rfl 2 (by omega) (by decide) (v := nI (cs z)) (s5_s hz) dX4_shut_134 ?_
              refine lv_iconst (v := nI 1) hx hb dX4_shut_135 (by decide) ?_
              refine r_iaddN hx hb dX4_shut_136 ?_
              refine r_iast hx hb hK h1 ⟨by omega, by omega⟩ hS rfl 2 (by omega) (by decide) dX4_shut_137 (fun H locs h1 hz9 hq hS => ?_)
              have h0 := at_kept h0 (hq _ (by omega))
              have h2 := at_kept h2 (hq _ (by omega))
              have h3 := at_kept h3 (hq _ (by omega))
              have h4 := at_kept h4 (hq _ (by omega))
              have h5 := at_kept h5 (hq _ (by omega))
              have h6 := at_kept h6 (hq _ (by omega))
              have h1 : at_ G (d + 1) (aI t 60 (zSpell z u ch x y)) H := h1
              refine lv_aload_n hx hb dX4_shut_138 rfl (lv_at hl 1 rfl) ?_
              refine r_get (C := RX4) (T := TX4) (N := 10) hx hb hts iiX4_shut_4 hown hK h0 rfl 0 (by decide) (hts (.fieldLink RX4 7 "HopMeetModel" "now" "[I") (List.mem_of_getElem? (i := 1) rfl)) rfl dX4_shut_139 ?_
              refine lv_iconst (v := nI 2) hx hb dX4_shut_142 (by decide) ?_
              refine r_iald hx hb hK h1 rfl 2 (by omega) (by decide) (v := nI (cs z + 1)) sp_2 dX4_shut_143 ?_
              exact r_retI (v := nI (cs z + 1)) hx hb hr hlocks hS ⟨by unfold rShut; rw [d2, d3, decide_eq_true hlt]; rfl, by unfold oShut; rw [and_t d2 (and_t d3 (decide_eq_true hlt))]; exact PM_mk (by rw [zSpell_n]; exact h0) h1 h2 h3 h4 h5 h6 e1 e2 (fun u hu => e3 u (by rw [zSpell_u] at hu; omega))⟩ dX4_shut_144
            · refine lv_ldc (v := (-1000000004)) hx hb hown (hts (.constant RX4 88 (-1000000004)) (List.mem_of_getElem? (i := 4) rfl)) dX4_shut_69 ?_
              exact r_retI (v := (-1000000004)) hx hb hr hlocks hS ⟨by unfold rShut; rw [d2, d3, decide_eq_false (by omega)]; rfl, by unfold oShut; rw [and_f2 (and_f2 (decide_eq_false (by omega)))]; exact hB.2⟩ dX4_shut_71
          · refine lv_ldc (v := (-1000000002)) hx hb hown (hts (.constant RX4 83 (-1000000002)) (List.mem_of_getElem? (i := 3) rfl)) dX4_shut_55 ?_
            exact r_retI (v := (-1000000002)) hx hb hr hlocks hS (by have d3 : okSpell x y = false := (by first | exact and_f1 c5 | exact and_f2 c6); exact ⟨by unfold rShut; rw [d2, d3]; rfl, by unfold oShut; rw [and_f2 (and_f1 d3)]; exact hB.2⟩) dX4_shut_57
      · refine lv_ldc (v := (-1000000001)) hx hb hown (hts (.constant RX4 96 (-1000000001)) (List.mem_of_getElem? (i := 2) rfl)) dX4_shut_29 ?_
        exact r_retI (v := (-1000000001)) hx hb hr hlocks hS (by have d2 : okShut u ch z = false := (by first | exact sh_f1 c1 c2 | exact sh_in0 hz c3); exact ⟨by unfold rShut; rw [d2]; rfl, by unfold oShut; rw [and_f1 d2]; exact hB.2⟩) dX4_shut_31

set_option maxRecDepth 20000 in
theorem iiX4_drift_4 : ∀ w ∈ wsX40, w ∈ wsX4_drift := by decide +kernel
set_option maxHeartbeats 4000000 in
set_option maxRecDepth 100000 in
/-- users by lots -/
theorem c_X4_drift (l : Launch) (G : va_G) (t : gT) (d : Nat) (z : Nat → Int32) (gr : Nat → Nat) (sl bc : Nat) (bk : Nat → Nat → Int32) (kp : Nat → Bool) (im : Nat → Nat → Int32) (hz : WF z) (hbc : bc ≤ 12) (x : Int32) : Met l yX4_drift wsX4_drift ({ frames := 2, cells := 0, slots := 0, locals := 45 } : Room) (pc_ [.ref d, .int x] (fun U H => KK G t U ∧ PM G t d (z, gr, sl, bc, bk, kp, im) H)) (qi_ (fun r H => r = rDrift x z ∧ PM G t d (oDrift x z gr sl bc bk kp im) H) (iv d (d + 7))) 0 0 (iv d (d + 7)) := by
  refine Met.ofW (cc := cX4_drift) (maxL := 4) (ret := (some .int)) (by decide) rfl ?_
  intro p e s m args below meth c s₁ B hml hv
  obtain ⟨rfl, hB⟩ := hv
  have hx := B.exec
  have hb := B.bytes
  have hr := B.returns
  have hts := atoms_spec (ws := wsX4_drift) B.pre
  have hown : s.vm.findClass RX4 = some m.cls := findClass_of_methodNamed B.named
  have hlocks := B.notSynchronized
  have hK := hB.1
  obtain ⟨lo, fB, fI, fG, fM, h0, h1, h2, h3, h4, h5, h6, e1, e2, e3⟩ := hB.2
  have hn := hz.n
  have hu5 := hz.u5
  have hs8 := hz.s8
  have hpw := pow_le10 hn.2
  have hpw2 := Nat.two_pow_pos (cn z)
  have hS : va_S (iv d (d + 7)) s.heap s.heap [] := va_S.rf
  have hl := lv_entry ([.ref d, .int x]) (n := 4) (Nat.le_of_ble_eq_true rfl)
  rw [lg_entry_eq]
  generalize (lg_sl ([.ref d, .int x]) ++ List.replicate (4 - (lg_sl ([.ref d, .int x])).length) Slot.unset).toArray = ls at hl ⊢
  have hl : lv_has ls 4 [(0, .ref d), (1, .int x)] := hl
  refine lv_iload_n hx hb dX4_drift_0 rfl (lv_at hl 1 rfl) ?_
  refine lv_iconst (v := nI 1) hx hb dX4_drift_1 (by decide) ?_
  refine lv_ldc (v := (999999)) hx hb hown (hts (.constant RX4 109 (999999)) (List.mem_of_getElem? (i := 1) rfl)) dX4_drift_2 ?_
  refine r_top (y := nI 999999) rfl ?_
  refine r_cS (av := [.int x, .int (nI 1), .int (nI 999999)]) (c_X4_in l G t x (nI 1) (nI 999999)) ⟨hx, hb, hml, hown, hts⟩ (va_cwS 3 hts gX4_drift_X4_in rfl rfl rfl (by decide +kernel) ⟨Nat.le_of_ble_eq_true rfl, Nat.le_of_ble_eq_true rfl⟩) mv_T trivial rfl hl (Nat.le_of_ble_eq_true rfl) ⟨Nat.le_of_ble_eq_true rfl, Nat.le_of_ble_eq_true rfl⟩ rfl dX4_drift_4 (fun r1 hr1 => ?_)
  subst hr1
  refine r_ifneB hx hb dX4_drift_7 (tgt := 13) (by decide) (fun c1 => ?_) (fun c1 => ?_)
  · obtain ⟨j, ja, jb, ej⟩ := in_of (by decide) (by decide) c1
    have ejc : cl x = j := by rw [ej]; exact cl_N (by omega)
    refine lv_aload_n hx hb dX4_drift_13 rfl (lv_at hl 0 rfl) ?_
    refine r_get (C := RX4) (T := TX4) (N := 10) hx hb hts iiX4_drift_4 hown hK h0 rfl 0 (by decide) (hts (.fieldLink RX4 7 "HopMeetModel" "now" "[I") (List.mem_of_getElem? (i := 3) rfl)) rfl dX4_drift_14 ?_
    refine lv_iconst (v := nI 1) hx hb dX4_drift_17 (by decide) ?_
    refine r_iald hx hb hK h1 rfl 1 (by omega) (by decide) (v := nI (cu z)) hz.2.1.1 dX4_drift_18 ?_
    refine r_ifneN hx hb (by omega) dX4_drift_19 (tgt := 25) (by decide) (fun c2 => ?_) (fun c2 => ?_)
    · refine lv_aload_n hx hb dX4_drift_25 rfl (lv_at hl 0 rfl) ?_
      refine r_mV (av := []) (c_X4_note l G t d z gr sl bc bk kp im hz hbc) ⟨hx, hb, hml, hown, hts⟩ (cwV 0 hts gX4_drift_X4_note rfl rfl rfl (by decide +kernel) ⟨Nat.le_of_ble_eq_true rfl, Nat.le_of_ble_eq_true rfl⟩) mv_K hB (at_recv hK h0 rfl) rfl hl (Nat.le_of_ble_eq_true rfl) ⟨Nat.le_of_ble_eq_true rfl, Nat.le_of_ble_eq_true rfl⟩ rfl dX4_drift_26 hS (fun q h => h) (fun H locs hP hz9 hk hS => ?_)
      obtain ⟨⟨lo, fB, fI, fG0, fM, h0, h1, h2, h3, h4, h50, h6, e1, e2, e30⟩, fG, h5, e3⟩ := hP
      refine lv_aload_n hx hb dX4_drift_29 rfl (lv_at hl 0 rfl) ?_
      refine lv_iload_n hx hb dX4_drift_30 rfl (lv_at hl 1 rfl) ?_
      refine r_top (y := nI j) ej ?_
      refine lv_i2l (v := lN j) hx hb dX4_drift_31 (nI_l (by omega)) ?_
      refine r_put (ty := .long) (ci := 4) (C := RX4) (T := TX4) (N := 10) (fs' := [.ref (d + 1), .int (nI (inc12 bc)), .ref (d + 2), .ref (d + 3), .ref (d + 4), .int (nI 0), .int (nI (prN (cn z))), .ref (d + 5), .ref (d + 6), .long (lN j)]) hx hb hts iiX4_drift_4 tyX4 tyX4_ok nmX4 hown hK h0 ⟨by omega, by omega⟩ hS rfl 9 (by decide) (hts (.fieldLink RX4 101 "HopMeetModel" "lots" "J") (List.mem_of_getElem? (i := 5) rfl)) rfl (by decide +kernel) rfl rfl (Nat.le_of_ble_eq_true rfl) rfl dX4_drift_32 (fun H locs h0 hz9 hq hS => ?_)
      have h1 := at_kept h1 (hq _ (by omega))
      have h2 := at_kept h2 (hq _ (by omega))
      have h3 := at_kept h3 (hq _ (by omega))
      have h4 := at_kept h4 (hq _ (by omega))
      have h5 := at_kept h5 (hq _ (by omega))
      have h6 := at_kept h6 (hq _ (by omega))
      refine lv_iconst (v := nI 0) hx hb dX4_drift_35 (by decide) ?_
      refine lv_istore_n (lv' := [(2, .int (nI 0)), (0, .ref d), (1, .int x)]) hx hb dX4_drift_36 rfl hl (by decide) rfl (fun ls hl => ?_)
      have loop37 : ∀ (fu : Nat) (i : Nat) (hi : i ≤ cu z) (hfu : cu z - i < fu) (H : Heap) (locs : List Loc) (h0 : at_ G d (.inr (4, [.ref (d + 1), .int (nI (inc12 bc)), .ref (d + 2), .ref (d + 3), .ref (d + 4), .int (nI 0), .int (nI (prN (cn z))), .ref (d + 5), .ref (d + 6), .long (lN (drX j i))])) H) (h1 : at_ G (d + 1) (aI t 60 (zDrift z j i)) H) (h2 : at_ G (d + 2) (aI t 720 fB) H) (h3 : at_ G (d + 3) (aI t 120 fI) H) (h4 : at_ G (d + 4) (aZ t 2 (fun i => bI (kp i))) H) (h5 : at_ G (d + 5) (aI t 5 fG) H) (h6 : at_ G (d + 6) (aI t 10 fM) H)  (hS : va_S (iv d (d + 7)) s.heap H locs) (ls : Array Slot) (hl : lv_has ls 4 [(0, .ref d), (1, .int x), (2, .int (nI i))]), W p l e (headSpec wsX4_drift ({ frames := 2, cells := 0, slots := 0, locals := 45 } : Room)).room s m ([.ref d, .int x] : List Value).toArray below meth c H locs 0 0 (MQ below (qi_ (fun r H => r = rDrift x z ∧ PM G t d (oDrift x z gr sl bc bk kp im) H) (iv d (d + 7))) ([.ref d, .int x] : List Value).toArray s 0 0 (iv d (d + 7))) (F0 m 37 ls []) := by
        intro fu
        induction fu with
        | zero => intro i hi hfu; exact absurd hfu (Nat.not_lt_zero _)
        | succ fu37 ih37 =>
          intro i hi hfu H locs h0 h1 h2 h3 h4 h5 h6 hS ls hl
          have hdx := drX_lt (x := j) (by omega) i
          refine lv_iload_n hx hb dX4_drift_37 rfl (lv_at hl 2 rfl) ?_
          refine lv_aload_n hx hb dX4_drift_38 rfl (lv_at hl 0 rfl) ?_
          refine r_get (C := RX4) (T := TX4) (N := 10) hx hb hts iiX4_drift_4 hown hK h0 rfl 0 (by decide) (hts (.fieldLink RX4 7 "HopMeetModel" "now" "[I") (List.mem_of_getElem? (i := 3) rfl)) rfl dX4_drift_39 ?_
          refine lv_iconst (v := nI 1) hx hb dX4_drift_42 (by decide) ?_
          refine r_iald hx hb hK h1 rfl 1 (by omega) (by decide) (v := nI (cu z)) ((zDrift_lo (by decide) i).trans hz.2.1.1) dX4_drift_43 ?_
          refine r_geN hx hb (by omega) (by omega) dX4_drift_44 (tgt := 121) (by decide) (fun c3 => ?_) (fun c3 => ?_)
          · refine lv_aload_n hx hb dX4_drift_121 rfl (lv_at hl 0 rfl) ?_
            refine r_cV (av := []) (c_X4_common l G t d (zDrift z j i) (by rw [show i = cu z by omega]; exact WF_drift hz)) ⟨hx, hb, hml, hown, hts⟩ (cwV 0 hts gX4_drift_X4_common rfl rfl rfl (by decide +kernel) ⟨Nat.le_of_ble_eq_true rfl, Nat.le_of_ble_eq_true rfl⟩) mv_K ⟨hK, ⟨nI (inc12 bc), nI 0, lN (drX j i), by rw [zDrift_n]; exact h0, h1⟩⟩ (at_recv hK h0 rfl) rfl hl (Nat.le_of_ble_eq_true rfl) ⟨Nat.le_of_ble_eq_true rfl, Nat.le_of_ble_eq_true rfl⟩ rfl dX4_drift_122 (fun r2 hr2 => ?_)
            subst hr2
            exact r_retI (v := nI (comN (zDrift z j i) (cu (zDrift z j i)))) hx hb hr hlocks hS (dr_fin (i := i) (by omega) c1 c2 ejc (PM_mk (by rw [zDrift_n]; exact h0) h1 h2 h3 h4 h5 h6 e1 e2 (fun u hu => e3 u (by rw [zDrift_u] at hu; omega)))) dX4_drift_125
          · refine lv_iconst (v := nI 3) hx hb dX4_drift_47 (by decide) ?_
            refine lv_iconst (v := nI 5) hx hb dX4_drift_48 (by decide) ?_
            refine lv_iload_n hx hb dX4_drift_49 rfl (lv_at hl 2 rfl) ?_
            refine r_imulN hx hb dX4_drift_50 ?_
            refine r_iaddN hx hb dX4_drift_51 ?_
            refine lv_istore_n (lv' := [(3, .int (nI (3 + (5 * i)))), (0, .ref d), (1, .int x), (2, .int (nI i))]) hx hb dX4_drift_52 rfl hl (by decide) rfl (fun ls hl => ?_)
            refine lv_aload_n hx hb dX4_drift_53 rfl (lv_at hl 1 rfl) ?_
            refine r_get (C := RX4) (T := TX4) (N := 10) hx hb hts iiX4_drift_4 hown hK h0 rfl 0 (by decide) (hts (.fieldLink RX4 7 "HopMeetModel" "now" "[I") (List.mem_of_getElem? (i := 3) rfl)) rfl dX4_drift_54 ?_
            refine lv_iload_n hx hb dX4_drift_57 rfl (lv_at hl 0 rfl) ?_
            refine lv_iconst (v := nI 4) hx hb dX4_drift_58 (by decide) ?_
            refine r_iaddN hx hb dX4_drift_59 ?_
            refine lv_aload_n hx hb dX4_drift_60 rfl (lv_at hl 1 rfl) ?_
            refine lv_iconst (v := nI 1) hx hb dX4_drift_61 (by decide) ?_
            refine lv_aload_n hx hb dX4_drift_62 rfl (lv_at hl 1 rfl) ?_
            refine r_get (C := RX4) (T := TX4) (N := 10) hx hb hts iiX4_drift_4 hown hK h0 rfl 0 (by decide) (hts (.fieldLink RX4 7 "HopMeetModel" "now" "[I") (List.mem_of_getElem? (i := 3) rfl)) rfl dX4_drift_63 ?_
            refine lv_iconst (v := nI 0) hx hb dX4_drift_66 (by decide) ?_
            refine r_iald hx hb hK h1 rfl 0 (by omega) (by decide) (v := nI (cn z)) ((zDrift_lo (by decide) i).trans hz.1.1) dX4_drift_67 ?_
            refine lv_ishl hx hb dX4_drift_68 ?_
            refine r_top (y := nI (2 ^ cn z)) (i_shl1 hn.2) ?_
            refine r_mVi (av := [.int (nI (2 ^ cn z))]) (c_X4_drawn l G t d (drX j i) (2 ^ cn z) (nI (inc12 bc)) (nI 0) (nI (prN (cn z))) hdx (by omega) (by omega)) ⟨hx, hb, hml, hown, hts⟩ (cwV 1 hts gX4_drift_X4_drawn rfl rfl rfl (by decide +kernel) ⟨Nat.le_of_ble_eq_true rfl, Nat.le_of_ble_eq_true rfl⟩) mv_K ⟨hK, h0⟩ (at_recv hK h0 rfl) rfl hl (Nat.le_of_ble_eq_true rfl) ⟨Nat.le_of_ble_eq_true rfl, Nat.le_of_ble_eq_true rfl⟩ rfl dX4_drift_69 hS (iv_sub (by omega) (by omega)) (fun r3 H locs hP hz9 hk hS => ?_)
            have h1 := at_keptA h1 hk (iv_no (by omega))
            have h2 := at_keptA h2 hk (iv_no (by omega))
            have h3 := at_keptA h3 hk (iv_no (by omega))
            have h4 := at_keptA h4 hk (iv_no (by omega))
            have h5 := at_keptA h5 hk (iv_no (by omega))
            have h6 := at_keptA h6 hk (iv_no (by omega))
            obtain ⟨hp1, h0⟩ := hP
            refine r_top (y := nI (lotN (drX j i) % (2 ^ cn z))) hp1 ?_
            refine r_iast hx hb hK h1 ⟨by omega, by omega⟩ hS rfl ((3 + (5 * i)) + 4) (by omega) (by decide) dX4_drift_72 (fun H locs h1 hz9 hq hS => ?_)
            have h2 := at_kept h2 (hq _ (by omega))
            have h3 := at_kept h3 (hq _ (by omega))
            have h4 := at_kept h4 (hq _ (by omega))
            have h5 := at_kept h5 (hq _ (by omega))
            have h6 := at_kept h6 (hq _ (by omega))
            have h0 := at_kept h0 (hq _ (by omega))
            refine lv_aload_n hx hb dX4_drift_73 rfl (lv_at hl 1 rfl) ?_
            refine r_get (C := RX4) (T := TX4) (N := 10) hx hb hts iiX4_drift_4 hown hK h0 rfl 0 (by decide) (hts (.fieldLink RX4 7 "HopMeetModel" "now" "[I") (List.mem_of_getElem? (i := 3) rfl)) rfl dX4_drift_74 ?_
            refine lv_iload_n hx hb dX4_drift_77 rfl (lv_at hl 0 rfl) ?_
            refine lv_iconst (v := nI 1) hx hb dX4_drift_78 (by decide) ?_
            refine r_iaddN hx hb dX4_drift_79 ?_
            refine lv_aload_n hx hb dX4_drift_80 rfl (lv_at hl 1 rfl) ?_
            refine lv_bipush (v := nI 100) hx hb dX4_drift_81 (by decide) ?_
            refine r_mVi (av := [.int (nI 100)]) (c_X4_drawn l G t d (lotN (drX j i)) 100 (nI (inc12 bc)) (nI 0) (nI (prN (cn z))) (lotN_lt _) (by omega) (by omega)) ⟨hx, hb, hml, hown, hts⟩ (cwV 1 hts gX4_drift_X4_drawn rfl rfl rfl (by decide +kernel) ⟨Nat.le_of_ble_eq_true rfl, Nat.le_of_ble_eq_true rfl⟩) mv_K ⟨hK, h0⟩ (at_recv hK h0 rfl) rfl hl (Nat.le_of_ble_eq_true rfl) ⟨Nat.le_of_ble_eq_true rfl, Nat.le_of_ble_eq_true rfl⟩ rfl dX4_drift_83 hS (iv_sub (by omega) (by omega)) (fun r4 H locs hP hz9 hk hS => ?_)
            have h1 := at_keptA h1 hk (iv_no (by omega))
            have h2 := at_keptA h2 hk (iv_no (by omega))
            have h3 := at_keptA h3 hk (iv_no (by omega))
            have h4 := at_keptA h4 hk (iv_no (by omega))
            have h5 := at_keptA h5 hk (iv_no (by omega))
            have h6 := at_keptA h6 hk (iv_no (by omega))
            obtain ⟨hp1, h0⟩ := hP
            refine r_top (y := nI (lotN (lotN (drX j i)) % 100)) hp1 ?_
            refine r_iast hx hb hK h1 ⟨by omega, by omega⟩ hS rfl ((3 + (5 * i)) + 1) (by omega) (by decide) dX4_drift_86 (fun H locs h1 hz9 hq hS => ?_)
            have h2 := at_kept h2 (hq _ (by omega))
            have h3 := at_kept h3 (hq _ (by omega))
            have h4 := at_kept h4 (hq _ (by omega))
            have h5 := at_kept h5 (hq _ (by omega))
            have h6 := at_kept h6 (hq _ (by omega))
            have h0 := at_kept h0 (hq _ (by omega))
            refine lv_aload_n hx hb dX4_drift_87 rfl (lv_at hl 1 rfl) ?_
            refine r_get (C := RX4) (T := TX4) (N := 10) hx hb hts iiX4_drift_4 hown hK h0 rfl 0 (by decide) (hts (.fieldLink RX4 7 "HopMeetModel" "now" "[I") (List.mem_of_getElem? (i := 3) rfl)) rfl dX4_drift_88 ?_
            refine lv_iload_n hx hb dX4_drift_91 rfl (lv_at hl 0 rfl) ?_
            refine lv_iconst (v := nI 2) hx hb dX4_drift_92 (by decide) ?_
            refine r_iaddN hx hb dX4_drift_93 ?_
            refine lv_aload_n hx hb dX4_drift_94 rfl (lv_at hl 1 rfl) ?_
            refine lv_bipush (v := nI 100) hx hb dX4_drift_95 (by decide) ?_
            refine r_mVi (av := [.int (nI 100)]) (c_X4_drawn l G t d (lotN (lotN (drX j i))) 100 (nI (inc12 bc)) (nI 0) (nI (prN (cn z))) (lotN_lt _) (by omega) (by omega)) ⟨hx, hb, hml, hown, hts⟩ (cwV 1 hts gX4_drift_X4_drawn rfl rfl rfl (by decide +kernel) ⟨Nat.le_of_ble_eq_true rfl, Nat.le_of_ble_eq_true rfl⟩) mv_K ⟨hK, h0⟩ (at_recv hK h0 rfl) rfl hl (Nat.le_of_ble_eq_true rfl) ⟨Nat.le_of_ble_eq_true rfl, Nat.le_of_ble_eq_true rfl⟩ rfl dX4_drift_97 hS (iv_sub (by omega) (by omega)) (fun r5 H locs hP hz9 hk hS => ?_)
            have h1 := at_keptA h1 hk (iv_no (by omega))
            have h2 := at_keptA h2 hk (iv_no (by omega))
            have h3 := at_keptA h3 hk (iv_no (by omega))
            have h4 := at_keptA h4 hk (iv_no (by omega))
            have h5 := at_keptA h5 hk (iv_no (by omega))
            have h6 := at_keptA h6 hk (iv_no (by omega))
            obtain ⟨hp1, h0⟩ := hP
            refine r_top (y := nI (lotN (lotN (lotN (drX j i))) % 100)) hp1 ?_
            refine r_iast hx hb hK h1 ⟨by omega, by omega⟩ hS rfl ((3 + (5 * i)) + 2) (by omega) (by decide) dX4_drift_100 (fun H locs h1 hz9 hq hS => ?_)
            have h2 := at_kept h2 (hq _ (by omega))
            have h3 := at_kept h3 (hq _ (by omega))
            have h4 := at_kept h4 (hq _ (by omega))
            have h5 := at_kept h5 (hq _ (by omega))
            have h6 := at_kept h6 (hq _ (by omega))
            have h0 := at_kept h0 (hq _ (by omega))
            refine lv_aload_n hx hb dX4_drift_101 rfl (lv_at hl 1 rfl) ?_
            refine r_get (C := RX4) (T := TX4) (N := 10) hx hb hts iiX4_drift_4 hown hK h0 rfl 0 (by decide) (hts (.fieldLink RX4 7 "HopMeetModel" "now" "[I") (List.mem_of_getElem? (i := 3) rfl)) rfl dX4_drift_102 ?_
            refine lv_iload_n hx hb dX4_drift_105 rfl (lv_at hl 0 rfl) ?_
            refine lv_iconst (v := nI 3) hx hb dX4_drift_106 (by decide) ?_
            refine r_iaddN hx hb dX4_drift_107 ?_
            refine lv_aload_n hx hb dX4_drift_108 rfl (lv_at hl 1 rfl) ?_
            refine lv_bipush (v := nI 50) hx hb dX4_drift_109 (by decide) ?_
            refine r_mVi (av := [.int (nI 50)]) (c_X4_drawn l G t d (lotN (lotN (lotN (drX j i)))) 50 (nI (inc12 bc)) (nI 0) (nI (prN (cn z))) (lotN_lt _) (by omega) (by omega)) ⟨hx, hb, hml, hown, hts⟩ (cwV 1 hts gX4_drift_X4_drawn rfl rfl rfl (by decide +kernel) ⟨Nat.le_of_ble_eq_true rfl, Nat.le_of_ble_eq_true rfl⟩) mv_K ⟨hK, h0⟩ (at_recv hK h0 rfl) rfl hl (Nat.le_of_ble_eq_true rfl) ⟨Nat.le_of_ble_eq_true rfl, Nat.le_of_ble_eq_true rfl⟩ rfl dX4_drift_111 hS (iv_sub (by omega) (by omega)) (fun r6 H locs hP hz9 hk hS => ?_)
            have h1 := at_keptA h1 hk (iv_no (by omega))
            have h2 := at_keptA h2 hk (iv_no (by omega))
            have h3 := at_keptA h3 hk (iv_no (by omega))
            have h4 := at_keptA h4 hk (iv_no (by omega))
            have h5 := at_keptA h5 hk (iv_no (by omega))
            have h6 := at_keptA h6 hk (iv_no (by omega))
            obtain ⟨hp1, h0⟩ := hP
            refine r_top (y := nI (lotN (lotN (lotN (lotN (drX j i)))) % 50)) hp1 ?_
            refine r_iast hx hb hK h1 ⟨by omega, by omega⟩ hS rfl ((3 + (5 * i)) + 3) (by omega) (by decide) dX4_drift_114 (fun H locs h1 hz9 hq hS => ?_)
            have h2 := at_kept h2 (hq _ (by omega))
            have h3 := at_kept h3 (hq _ (by omega))
            have h4 := at_kept h4 (hq _ (by omega))
            have h5 := at_kept h5 (hq _ (by omega))
            have h6 := at_kept h6 (hq _ (by omega))
            have h0 := at_kept h0 (hq _ (by omega))
            refine lv_iinc (v := nI (i + 1)) (lv' := [(2, .int (nI (i + 1))), (3, .int (nI (3 + (5 * i)))), (0, .ref d), (1, .int x)]) hx hb dX4_drift_115 hl (k := 3) rfl (nI_1 _) (by decide) rfl (fun ls hl => ?_)
            refine lv_goto (tgt := 37) hx hb dX4_drift_118 (by decide) ?_
            exact ih37 (i + 1) (by omega) (by omega) _ _ h0 h1 h2 h3 h4 h5 h6 hS ls (lv_sub hl [2, 3, 0] rfl)
      exact loop37 _ 0 (Nat.zero_le _) (Nat.lt_succ_self _) _ _ h0 h1 h2 h3 h4 h5 h6 hS ls (lv_sub hl [1, 2, 0] rfl)
    · refine lv_ldc (v := (-1000000003)) hx hb hown (hts (.constant RX4 110 (-1000000003)) (List.mem_of_getElem? (i := 4) rfl)) dX4_drift_22 ?_
      exact r_retI (v := (-1000000003)) hx hb hr hlocks hS ⟨by unfold rDrift; rw [c1, decide_eq_true c2]; rfl, by unfold oDrift; rw [and_f2 (by rw [decide_eq_true c2]; rfl)]; exact hB.2⟩ dX4_drift_24
  · refine lv_ldc (v := (-1000000002)) hx hb hown (hts (.constant RX4 83 (-1000000002)) (List.mem_of_getElem? (i := 2) rfl)) dX4_drift_10 ?_
    exact r_retI (v := (-1000000002)) hx hb hr hlocks hS ⟨by unfold rDrift; rw [c1]; rfl, by unfold oDrift; rw [and_f1 c1]; exact hB.2⟩ dX4_drift_12

set_option maxRecDepth 20000 in
theorem iiX4_undo_4 : ∀ w ∈ wsX40, w ∈ wsX4_undo := by decide +kernel
set_option maxHeartbeats 4000000 in
set_option maxRecDepth 100000 in
/-- the latest is undone -/
theorem c_X4_undo (l : Launch) (G : va_G) (t : gT) (d : Nat) (z : Nat → Int32) (gr : Nat → Nat) (sl bc : Nat) (bk : Nat → Nat → Int32) (kp : Nat → Bool) (im : Nat → Nat → Int32) (hz : WF z) (hbc : bc ≤ 12) (hw : ∀ j, j < bc → WF (bk j)) (hcn : ∀ j, j < bc → cn (bk j) = cn z) : Met l yX4_undo wsX4_undo ({ frames := 1, cells := 0, slots := 0, locals := 25 } : Room) (pc_ [.ref d] (fun U H => KK G t U ∧ PM G t d (z, gr, sl, bc, bk, kp, im) H)) (qi_ (fun r H => r = rUndo bc ∧ PM G t d (oUndo z gr sl bc bk kp im) H) (iv d (d + 7))) 0 0 (iv d (d + 7)) := by
  refine Met.ofW (cc := cX4_undo) (maxL := 1) (ret := (some .int)) (by decide) rfl ?_
  intro p e s m args below meth c s₁ B hml hv
  obtain ⟨rfl, hB⟩ := hv
  have hx := B.exec
  have hb := B.bytes
  have hr := B.returns
  have hts := atoms_spec (ws := wsX4_undo) B.pre
  have hown : s.vm.findClass RX4 = some m.cls := findClass_of_methodNamed B.named
  have hlocks := B.notSynchronized
  have hK := hB.1
  obtain ⟨lo, fB, fI, fG, fM, h0, h1, h2, h3, h4, h5, h6, e1, e2, e3⟩ := hB.2
  have hn := hz.n
  have hu5 := hz.u5
  have hs8 := hz.s8
  have hS : va_S (iv d (d + 7)) s.heap s.heap [] := va_S.rf
  have hl := lv_entry ([.ref d]) (n := 1) (Nat.le_of_ble_eq_true rfl)
  rw [lg_entry_eq]
  generalize (lg_sl ([.ref d]) ++ List.replicate (1 - (lg_sl ([.ref d])).length) Slot.unset).toArray = ls at hl ⊢
  have hl : lv_has ls 1 [(0, .ref d)] := hl
  refine lv_aload_n hx hb dX4_undo_0 rfl (lv_at hl 0 rfl) ?_
  refine r_get (C := RX4) (T := TX4) (N := 10) hx hb hts iiX4_undo_4 hown hK h0 rfl 1 (by decide) (hts (.fieldLink RX4 76 "HopMeetModel" "backs" "I") (List.mem_of_getElem? (i := 1) rfl)) rfl dX4_undo_1 ?_
  refine r_ifneN hx hb (by omega) dX4_undo_4 (tgt := 10) (by decide) (fun c1 => ?_) (fun c1 => ?_)
  · have h05 := (hw 0 (Nat.pos_of_ne_zero c1)).u5
    have hcn0 := hcn 0 (Nat.pos_of_ne_zero c1)
    refine lv_aload_n hx hb dX4_undo_10 rfl (lv_at hl 0 rfl) ?_
    refine lv_dup hx hb dX4_undo_11 rfl ?_
    refine r_get (C := RX4) (T := TX4) (N := 10) hx hb hts iiX4_undo_4 hown hK h0 rfl 1 (by decide) (hts (.fieldLink RX4 76 "HopMeetModel" "backs" "I") (List.mem_of_getElem? (i := 1) rfl)) rfl dX4_undo_12 ?_
    refine lv_iconst (v := nI 1) hx hb dX4_undo_15 (by decide) ?_
    refine r_isubN hx hb (by omega) dX4_undo_16 ?_
    refine r_put (ty := .int) (ci := 4) (C := RX4) (T := TX4) (N := 10) (fs' := [.ref (d + 1), .int (nI (bc - 1)), .ref (d + 2), .ref (d + 3), .ref (d + 4), .int (nI sl), .int (nI (prN (cn z))), .ref (d + 5), .ref (d + 6), .long lo]) hx hb hts iiX4_undo_4 tyX4 tyX4_ok nmX4 hown hK h0 ⟨by omega, by omega⟩ hS rfl 1 (by decide) (hts (.fieldLink RX4 76 "HopMeetModel" "backs" "I") (List.mem_of_getElem? (i := 1) rfl)) rfl (by decide +kernel) rfl rfl (Nat.le_of_ble_eq_true rfl) rfl dX4_undo_17 (fun H locs h0 hz9 hq hS => ?_)
    have h1 := at_kept h1 (hq _ (by omega))
    have h2 := at_kept h2 (hq _ (by omega))
    have h3 := at_kept h3 (hq _ (by omega))
    have h4 := at_kept h4 (hq _ (by omega))
    have h5 := at_kept h5 (hq _ (by omega))
    have h6 := at_kept h6 (hq _ (by omega))
    refine lv_aload_n hx hb dX4_undo_20 rfl (lv_at hl 0 rfl) ?_
    refine r_get (C := RX4) (T := TX4) (N := 10) hx hb hts iiX4_undo_4 hown hK h0 rfl 2 (by decide) (hts (.fieldLink RX4 13 "HopMeetModel" "back" "[I") (List.mem_of_getElem? (i := 3) rfl)) rfl dX4_undo_21 ?_
    refine lv_bipush (v := nI 60) hx hb dX4_undo_24 (by decide) ?_
    refine lv_aload_n hx hb dX4_undo_26 rfl (lv_at hl 0 rfl) ?_
    refine r_get (C := RX4) (T := TX4) (N := 10) hx hb hts iiX4_undo_4 hown hK h0 rfl 1 (by decide) (hts (.fieldLink RX4 76 "HopMeetModel" "backs" "I") (List.mem_of_getElem? (i := 1) rfl)) rfl dX4_undo_27 ?_
    refine r_imulN hx hb dX4_undo_30 ?_
    refine lv_aload_n hx hb dX4_undo_31 rfl (lv_at hl 0 rfl) ?_
    refine r_get (C := RX4) (T := TX4) (N := 10) hx hb hts iiX4_undo_4 hown hK h0 rfl 0 (by decide) (hts (.fieldLink RX4 7 "HopMeetModel" "now" "[I") (List.mem_of_getElem? (i := 4) rfl)) rfl dX4_undo_32 ?_
    refine lv_iconst (v := nI 0) hx hb dX4_undo_35 (by decide) ?_
    refine lv_bipush (v := nI 60) hx hb dX4_undo_36 (by decide) ?_
    refine r_mS (av := [.ref (d + 2), .int (nI (60 * (bc - 1))), .ref (d + 1), .int (nI 0), .int (nI 60)]) (c_X4_bring l G t (d + 2) (d + 1) 720 60 (60 * (bc - 1)) 0 60 fB z (by omega) (by omega) (by omega) (by decide) (by decide)) ⟨hx, hb, hml, hown, hts⟩ (va_cwS 5 hts gX4_undo_X4_bring rfl rfl rfl (by decide +kernel) ⟨Nat.le_of_ble_eq_true rfl, Nat.le_of_ble_eq_true rfl⟩) mv_K ⟨hK, h2, h1⟩ rfl hl (Nat.le_of_ble_eq_true rfl) ⟨Nat.le_of_ble_eq_true rfl, Nat.le_of_ble_eq_true rfl⟩ rfl dX4_undo_38 hS (iv_sub (by omega) (by omega)) (fun H locs hP hz9 hk hS => ?_)
    have h0 := at_keptA h0 hk (iv_no (by omega))
    have h2 := at_keptA h2 hk (iv_no (by omega))
    have h3 := at_keptA h3 hk (iv_no (by omega))
    have h4 := at_keptA h4 hk (iv_no (by omega))
    have h5 := at_keptA h5 hk (iv_no (by omega))
    have h6 := at_keptA h6 hk (iv_no (by omega))
    have h1 := at_ext hP (und1 (Nat.pos_of_ne_zero c1) e1)
    refine lv_aload_n hx hb dX4_undo_41 rfl (lv_at hl 0 rfl) ?_
    refine r_mV (av := []) (c_X4_anew l G t d (nI (bc - 1)) (nI sl) (nI (prN (cn z))) lo fG) ⟨hx, hb, hml, hown, hts⟩ (cwV 0 hts gX4_undo_X4_anew rfl rfl rfl (by decide +kernel) ⟨Nat.le_of_ble_eq_true rfl, Nat.le_of_ble_eq_true rfl⟩) mv_K ⟨hK, h0, h5⟩ (at_recv hK h0 rfl) rfl hl (Nat.le_of_ble_eq_true rfl) ⟨Nat.le_of_ble_eq_true rfl, Nat.le_of_ble_eq_true rfl⟩ rfl dX4_undo_42 hS (iv2_sub (by omega) (by omega)) (fun H locs hP hz9 hk hS => ?_)
    have h2 := at_keptA h2 hk (iv2_no (by omega) (by omega))
    have h3 := at_keptA h3 hk (iv2_no (by omega) (by omega))
    have h4 := at_keptA h4 hk (iv2_no (by omega) (by omega))
    have h6 := at_keptA h6 hk (iv2_no (by omega) (by omega))
    have h1 := at_keptA h1 hk (iv2_no (by omega) (by omega))
    obtain ⟨h0, fG, h5, e3⟩ := hP
    refine lv_aload_n hx hb dX4_undo_45 rfl (lv_at hl 0 rfl) ?_
    refine r_get (C := RX4) (T := TX4) (N := 10) hx hb hts iiX4_undo_4 hown hK h0 rfl 1 (by decide) (hts (.fieldLink RX4 76 "HopMeetModel" "backs" "I") (List.mem_of_getElem? (i := 1) rfl)) rfl dX4_undo_46 ?_
    exact r_retI (v := nI (bc - 1)) hx hb hr hlocks hS ⟨by unfold rUndo; rw [decide_eq_false c1]; rfl, by unfold oUndo; rw [decide_eq_false c1]; exact PM_mk (by rw [hcn0]; exact h0) h1 h2 h3 h4 h5 h6 (und2 e1) e2 (fun u hu => e3 u (by omega))⟩ dX4_undo_49
  · refine lv_ldc (v := (-1000000003)) hx hb hown (hts (.constant RX4 110 (-1000000003)) (List.mem_of_getElem? (i := 2) rfl)) dX4_undo_7 ?_
    exact r_retI (v := (-1000000003)) hx hb hr hlocks hS ⟨by unfold rUndo; rw [decide_eq_true c1]; rfl, by unfold oUndo; rw [decide_eq_true c1]; exact hB.2⟩ dX4_undo_9

set_option maxRecDepth 20000 in
theorem iiX4_join_4 : ∀ w ∈ wsX40, w ∈ wsX4_join := by decide +kernel
set_option maxHeartbeats 4000000 in
set_option maxRecDepth 100000 in
/-- two groups become one -/
theorem c_X4_join (l : Launch) (G : va_G) (t : gT) (d : Nat) (z : Nat → Int32) (gr : Nat → Nat) (sl bc : Nat) (bk : Nat → Nat → Int32) (kp : Nat → Bool) (im : Nat → Nat → Int32) (hz : WF z) (hg : ∀ u, gr u ≤ u) (k k2 : Nat) (hk : k < 5) (hk2 : k2 < 5) : Met l yX4_join wsX4_join ({ frames := 0, cells := 0, slots := 0, locals := 0 } : Room) (pc_ [.ref d, .int (nI k), .int (nI k2)] (fun U H => KK G t U ∧ PM G t d (z, gr, sl, bc, bk, kp, im) H)) (qv_ (fun H => PM G t d (z, jnN gr k k2, sl, bc, bk, kp, im) H) (iv d (d + 7))) 0 0 (iv d (d + 7)) := by
  refine Met.ofW (cc := cX4_join) (maxL := 4) (ret := none) (by decide) rfl ?_
  intro p e s m args below meth c s₁ B hml hv
  obtain ⟨rfl, hB⟩ := hv
  have hx := B.exec
  have hb := B.bytes
  have hr := B.returns
  have hts := atoms_spec (ws := wsX4_join) B.pre
  have hown : s.vm.findClass RX4 = some m.cls := findClass_of_methodNamed B.named
  have hlocks := B.notSynchronized
  have hK := hB.1
  obtain ⟨lo, fB, fI, fG, fM, h0, h1, h2, h3, h4, h5, h6, e1, e2, e3⟩ := hB.2
  have hn := hz.n
  have hu5 := hz.u5
  have hs8 := hz.s8
  have hS : va_S (iv d (d + 7)) s.heap s.heap [] := va_S.rf
  have hl := lv_entry ([.ref d, .int (nI k), .int (nI k2)]) (n := 4) (Nat.le_of_ble_eq_true rfl)
  rw [lg_entry_eq]
  generalize (lg_sl ([.ref d, .int (nI k), .int (nI k2)]) ++ List.replicate (4 - (lg_sl ([.ref d, .int (nI k), .int (nI k2)])).length) Slot.unset).toArray = ls at hl ⊢
  have hl : lv_has ls 4 [(0, .ref d), (1, .int (nI k)), (2, .int (nI k2))] := hl
  refine lv_iconst (v := nI 0) hx hb dX4_join_0 (by decide) ?_
  refine lv_istore_n (lv' := [(3, .int (nI 0)), (0, .ref d), (1, .int (nI k)), (2, .int (nI k2))]) hx hb dX4_join_1 rfl hl (by decide) rfl (fun ls hl => ?_)
  have loop2 : ∀ (fu : Nat) (i : Nat) (f : Nat → Int32) (hi : i ≤ cu z) (hf : ∀ w, w < cu z → f w = nI (if w < i then jnN gr k k2 w else gr w)) (hfu : cu z - i < fu) (H : Heap) (locs : List Loc) (h0 : at_ G d (.inr (4, [.ref (d + 1), .int (nI bc), .ref (d + 2), .ref (d + 3), .ref (d + 4), .int (nI sl), .int (nI (prN (cn z))), .ref (d + 5), .ref (d + 6), .long lo])) H) (h1 : at_ G (d + 1) (aI t 60 z) H) (h2 : at_ G (d + 2) (aI t 720 fB) H) (h3 : at_ G (d + 3) (aI t 120 fI) H) (h4 : at_ G (d + 4) (aZ t 2 (fun i => bI (kp i))) H) (h5 : at_ G (d + 5) (aI t 5 f) H) (h6 : at_ G (d + 6) (aI t 10 fM) H)  (hS : va_S (iv d (d + 7)) s.heap H locs) (ls : Array Slot) (hl : lv_has ls 4 [(0, .ref d), (1, .int (nI k)), (2, .int (nI k2)), (3, .int (nI i))]), W p l e (headSpec wsX4_join ({ frames := 0, cells := 0, slots := 0, locals := 0 } : Room)).room s m ([.ref d, .int (nI k), .int (nI k2)] : List Value).toArray below meth c H locs 0 0 (MQ below (qv_ (fun H => PM G t d (z, jnN gr k k2, sl, bc, bk, kp, im) H) (iv d (d + 7))) ([.ref d, .int (nI k), .int (nI k2)] : List Value).toArray s 0 0 (iv d (d + 7))) (F0 m 2 ls []) := by
    intro fu
    induction fu with
    | zero => intro i f hi hf hfu; exact absurd hfu (Nat.not_lt_zero _)
    | succ fu2 ih2 =>
      intro i f hi hf hfu H locs h0 h1 h2 h3 h4 h5 h6 hS ls hl
      have hgi := hg i
      refine lv_iload_n hx hb dX4_join_2 rfl (lv_at hl 3 rfl) ?_
      refine lv_aload_n hx hb dX4_join_3 rfl (lv_at hl 0 rfl) ?_
      refine r_get (C := RX4) (T := TX4) (N := 10) hx hb hts iiX4_join_4 hown hK h0 rfl 0 (by decide) (hts (.fieldLink RX4 7 "HopMeetModel" "now" "[I") (List.mem_of_getElem? (i := 1) rfl)) rfl dX4_join_4 ?_
      refine lv_iconst (v := nI 1) hx hb dX4_join_7 (by decide) ?_
      refine r_iald hx hb hK h1 rfl 1 (by omega) (by decide) (v := nI (cu z)) hz.2.1.1 dX4_join_8 ?_
      refine r_geN hx hb (by omega) (by omega) dX4_join_9 (tgt := 44) (by decide) (fun c1 => ?_) (fun c1 => ?_)
      · exact r_retV hx hb hr hlocks hS (PM_mk h0 h1 h2 h3 h4 h5 h6 e1 e2 (fun w hw => by rw [hf w hw, if_pos (by omega)])) dX4_join_44
      · refine lv_aload_n hx hb dX4_join_12 rfl (lv_at hl 0 rfl) ?_
        refine r_get (C := RX4) (T := TX4) (N := 10) hx hb hts iiX4_join_4 hown hK h0 rfl 7 (by decide) (hts (.fieldLink RX4 23 "HopMeetModel" "group" "[I") (List.mem_of_getElem? (i := 2) rfl)) rfl dX4_join_13 ?_
        refine lv_iload_n hx hb dX4_join_16 rfl (lv_at hl 3 rfl) ?_
        refine lv_aload_n hx hb dX4_join_17 rfl (lv_at hl 0 rfl) ?_
        refine r_get (C := RX4) (T := TX4) (N := 10) hx hb hts iiX4_join_4 hown hK h0 rfl 7 (by decide) (hts (.fieldLink RX4 23 "HopMeetModel" "group" "[I") (List.mem_of_getElem? (i := 2) rfl)) rfl dX4_join_18 ?_
        refine lv_iload_n hx hb dX4_join_21 rfl (lv_at hl 3 rfl) ?_
        refine r_iald hx hb hK h5 rfl i (by omega) (by decide) (v := nI (gr i)) (by rw [hf i (by omega), if_neg (Nat.lt_irrefl _)]) dX4_join_22 ?_
        refine lv_iload_n hx hb dX4_join_23 rfl (lv_at hl 2 rfl) ?_
        refine r_neN hx hb (by omega) (by omega) dX4_join_24 (tgt := 31) (by decide) (fun c2 => ?_) (fun c2 => ?_)
        · refine lv_aload_n hx hb dX4_join_31 rfl (lv_at hl 0 rfl) ?_
          refine r_get (C := RX4) (T := TX4) (N := 10) hx hb hts iiX4_join_4 hown hK h0 rfl 7 (by decide) (hts (.fieldLink RX4 23 "HopMeetModel" "group" "[I") (List.mem_of_getElem? (i := 2) rfl)) rfl dX4_join_32 ?_
          refine lv_iload_n hx hb dX4_join_35 rfl (lv_at hl 3 rfl) ?_
          refine r_iald hx hb hK h5 rfl i (by omega) (by decide) (v := nI (gr i)) (by rw [hf i (by omega), if_neg (Nat.lt_irrefl _)]) dX4_join_36 ?_
          refine r_iast hx hb hK h5 ⟨by omega, by omega⟩ hS rfl i (by omega) (by decide) dX4_join_37 (fun H locs h5 hz9 hq hS => ?_)
          have h0 := at_kept h0 (hq _ (by omega))
          have h1 := at_kept h1 (hq _ (by omega))
          have h2 := at_kept h2 (hq _ (by omega))
          have h3 := at_kept h3 (hq _ (by omega))
          have h4 := at_kept h4 (hq _ (by omega))
          have h6 := at_kept h6 (hq _ (by omega))
          refine lv_iinc (v := nI (i + 1)) (lv' := [(3, .int (nI (i + 1))), (0, .ref d), (1, .int (nI k)), (2, .int (nI k2))]) hx hb dX4_join_38 hl (k := 3) rfl (nI_1 _) (by decide) rfl (fun ls hl => ?_)
          refine lv_goto (tgt := 2) hx hb dX4_join_41 (by decide) ?_
          exact ih2 (i + 1) (upd f i (nI (gr i))) (by omega) (jn_n hf c2) (by omega) _ _ h0 h1 h2 h3 h4 h5 h6 hS ls (lv_sub hl [1, 2, 3, 0] rfl)
        · refine lv_iload_n hx hb dX4_join_27 rfl (lv_at hl 1 rfl) ?_
          refine lv_goto (tgt := 37) hx hb dX4_join_28 (by decide) ?_
          refine r_iast hx hb hK h5 ⟨by omega, by omega⟩ hS rfl i (by omega) (by decide) dX4_join_37 (fun H locs h5 hz9 hq hS => ?_)
          have h0 := at_kept h0 (hq _ (by omega))
          have h1 := at_kept h1 (hq _ (by omega))
          have h2 := at_kept h2 (hq _ (by omega))
          have h3 := at_kept h3 (hq _ (by omega))
          have h4 := at_kept h4 (hq _ (by omega))
          have h6 := at_kept h6 (hq _ (by omega))
          refine lv_iinc (v := nI (i + 1)) (lv' := [(3, .int (nI (i + 1))), (0, .ref d), (1, .int (nI k)), (2, .int (nI k2))]) hx hb dX4_join_38 hl (k := 3) rfl (nI_1 _) (by decide) rfl (fun ls hl => ?_)
          refine lv_goto (tgt := 2) hx hb dX4_join_41 (by decide) ?_
          exact ih2 (i + 1) (upd f i (nI k)) (by omega) (jn_y hf c2) (by omega) _ _ h0 h1 h2 h3 h4 h5 h6 hS ls (lv_sub hl [1, 2, 3, 0] rfl)
  exact loop2 _ 0 fG (Nat.zero_le _) (fun w hw => by rw [if_neg (Nat.not_lt_zero _)]; exact e3 w hw) (Nat.lt_succ_self _) _ _ h0 h1 h2 h3 h4 h5 h6 hS ls (lv_sub hl [1, 2, 3, 0] rfl)

set_option maxRecDepth 20000 in
theorem iiX4_slot_4 : ∀ w ∈ wsX40, w ∈ wsX4_slot := by decide +kernel
set_option maxHeartbeats 4000000 in
set_option maxRecDepth 100000 in
/-- a slot is run -/
theorem c_X4_slot (l : Launch) (G : va_G) (t : gT) (d : Nat) (z : Nat → Int32) (gr : Nat → Nat) (sl bc : Nat) (bk : Nat → Nat → Int32) (kp : Nat → Bool) (im : Nat → Nat → Int32) (hz : WF z) (hg : ∀ u, gr u ≤ u) (hg2 : ∀ u, gr (gr u) = gr u) (hs3 : sl ≤ 3000) : Met l yX4_slot wsX4_slot ({ frames := 6, cells := 0, slots := 0, locals := 146 } : Room) (pc_ [.ref d] (fun U H => KK G t U ∧ PM G t d (z, gr, sl, bc, bk, kp, im) H)) (qv_ (fun H => PM G t d (z, grS z gr sl, sl + 1, bc, bk, kp, im) H) (iv d (d + 7))) 0 0 (iv d (d + 7)) := by
  refine Met.ofW (cc := cX4_slot) (maxL := 3) (ret := none) (by decide) rfl ?_
  intro p e s m args below meth c s₁ B hml hv
  obtain ⟨rfl, hB⟩ := hv
  have hx := B.exec
  have hb := B.bytes
  have hr := B.returns
  have hts := atoms_spec (ws := wsX4_slot) B.pre
  have hown : s.vm.findClass RX4 = some m.cls := findClass_of_methodNamed B.named
  have hlocks := B.notSynchronized
  have hK := hB.1
  obtain ⟨lo, fB, fI, fG, fM, h0, h1, h2, h3, h4, h5, h6, e1, e2, e3⟩ := hB.2
  have hn := hz.n
  have hu5 := hz.u5
  have hs8 := hz.s8
  have hPM := hB.2
  have hS : va_S (iv d (d + 7)) s.heap s.heap [] := va_S.rf
  have hl := lv_entry ([.ref d]) (n := 3) (Nat.le_of_ble_eq_true rfl)
  rw [lg_entry_eq]
  generalize (lg_sl ([.ref d]) ++ List.replicate (3 - (lg_sl ([.ref d])).length) Slot.unset).toArray = ls at hl ⊢
  have hl : lv_has ls 3 [(0, .ref d)] := hl
  refine lv_iconst (v := nI 0) hx hb dX4_slot_0 (by decide) ?_
  refine lv_istore_n (lv' := [(1, .int (nI 0)), (0, .ref d)]) hx hb dX4_slot_1 rfl hl (by decide) rfl (fun ls hl => ?_)
  have loop2 : ∀ (fu : Nat) (i : Nat) (hi : i ≤ cu z) (hfu : cu z - i < fu) (H : Heap) (locs : List Loc)  (hPM : PM G t d (z, mI z gr sl i, sl, bc, bk, kp, im) H) (hS : va_S (iv d (d + 7)) s.heap H locs) (ls : Array Slot) (hl : lv_has ls 3 [(0, .ref d), (1, .int (nI i))]), W p l e (headSpec wsX4_slot ({ frames := 6, cells := 0, slots := 0, locals := 146 } : Room)).room s m ([.ref d] : List Value).toArray below meth c H locs 0 0 (MQ below (qv_ (fun H => PM G t d (z, grS z gr sl, sl + 1, bc, bk, kp, im) H) (iv d (d + 7))) ([.ref d] : List Value).toArray s 0 0 (iv d (d + 7))) (F0 m 2 ls []) := by
    intro fu
    induction fu with
    | zero => intro i hi hfu; exact absurd hfu (Nat.not_lt_zero _)
    | succ fu2 ih2 =>
      intro i hi hfu H locs hPM hS ls hl
      obtain ⟨lo, fB, fI, fG, fM, h0, h1, h2, h3, h4, h5, h6, e1, e2, e3⟩ := id hPM
      refine lv_iload_n hx hb dX4_slot_2 rfl (lv_at hl 1 rfl) ?_
      refine lv_aload_n hx hb dX4_slot_3 rfl (lv_at hl 0 rfl) ?_
      refine r_get (C := RX4) (T := TX4) (N := 10) hx hb hts iiX4_slot_4 hown hK h0 rfl 0 (by decide) (hts (.fieldLink RX4 7 "HopMeetModel" "now" "[I") (List.mem_of_getElem? (i := 1) rfl)) rfl dX4_slot_4 ?_
      refine lv_iconst (v := nI 1) hx hb dX4_slot_7 (by decide) ?_
      refine r_iald hx hb hK h1 rfl 1 (by omega) (by decide) (v := nI (cu z)) hz.2.1.1 dX4_slot_8 ?_
      refine r_geN hx hb (by omega) (by omega) dX4_slot_9 (tgt := 77) (by decide) (fun c1 => ?_) (fun c1 => ?_)
      · refine lv_aload_n hx hb dX4_slot_77 rfl (lv_at hl 0 rfl) ?_
        refine lv_dup hx hb dX4_slot_78 rfl ?_
        refine r_get (C := RX4) (T := TX4) (N := 10) hx hb hts iiX4_slot_4 hown hK h0 rfl 5 (by decide) (hts (.fieldLink RX4 73 "HopMeetModel" "slots" "I") (List.mem_of_getElem? (i := 3) rfl)) rfl dX4_slot_79 ?_
        refine lv_iconst (v := nI 1) hx hb dX4_slot_82 (by decide) ?_
        refine r_iaddN hx hb dX4_slot_83 ?_
        refine r_put (ty := .int) (ci := 4) (C := RX4) (T := TX4) (N := 10) (fs' := [.ref (d + 1), .int (nI bc), .ref (d + 2), .ref (d + 3), .ref (d + 4), .int (nI (sl + 1)), .int (nI (prN (cn z))), .ref (d + 5), .ref (d + 6), .long lo]) hx hb hts iiX4_slot_4 tyX4 tyX4_ok nmX4 hown hK h0 ⟨by omega, by omega⟩ hS rfl 5 (by decide) (hts (.fieldLink RX4 73 "HopMeetModel" "slots" "I") (List.mem_of_getElem? (i := 3) rfl)) rfl (by decide +kernel) rfl rfl (Nat.le_of_ble_eq_true rfl) rfl dX4_slot_84 (fun H locs h0 hz9 hq hS => ?_)
        have h1 := at_kept h1 (hq _ (by omega))
        have h2 := at_kept h2 (hq _ (by omega))
        have h3 := at_kept h3 (hq _ (by omega))
        have h4 := at_kept h4 (hq _ (by omega))
        have h5 := at_kept h5 (hq _ (by omega))
        have h6 := at_kept h6 (hq _ (by omega))
        have hPM := hPM
        exact r_retV hx hb hr hlocks hS (PM_congr (PM_mk h0 h1 h2 h3 h4 h5 h6 e1 e2 e3) (fun u hu => mI_end hg (by omega))) dX4_slot_87
      · refine lv_iload_n hx hb dX4_slot_12 rfl (lv_at hl 1 rfl) ?_
        refine lv_iconst (v := nI 1) hx hb dX4_slot_13 (by decide) ?_
        refine r_iaddN hx hb dX4_slot_14 ?_
        refine lv_istore_n (lv' := [(2, .int (nI (i + 1))), (0, .ref d), (1, .int (nI i))]) hx hb dX4_slot_15 rfl hl (by decide) rfl (fun ls hl => ?_)
        have loop16 : ∀ (fu : Nat) (j : Nat) (hj : j ≤ cu z) (hj2 : i < j) (hfu : cu z - j < fu) (H : Heap) (locs : List Loc)  (hPM : PM G t d (z, mJ z gr sl i j, sl, bc, bk, kp, im) H) (hS : va_S (iv d (d + 7)) s.heap H locs) (ls : Array Slot) (hl : lv_has ls 3 [(0, .ref d), (1, .int (nI i)), (2, .int (nI j))]), W p l e (headSpec wsX4_slot ({ frames := 6, cells := 0, slots := 0, locals := 146 } : Room)).room s m ([.ref d] : List Value).toArray below meth c H locs 0 0 (MQ below (qv_ (fun H => PM G t d (z, grS z gr sl, sl + 1, bc, bk, kp, im) H) (iv d (d + 7))) ([.ref d] : List Value).toArray s 0 0 (iv d (d + 7))) (F0 m 16 ls []) := by
          intro fu
          induction fu with
          | zero => intro j hj hj2 hfu; exact absurd hfu (Nat.not_lt_zero _)
          | succ fu16 ih16 =>
            intro j hj hj2 hfu H locs hPM hS ls hl
            obtain ⟨lo, fB, fI, fG, fM, h0, h1, h2, h3, h4, h5, h6, e1, e2, e3⟩ := id hPM
            have hJi := mJ_le (z := z) (gr := gr) (y := sl) (u := i) (v := j) (w := i) hg
            have hJj := mJ_le (z := z) (gr := gr) (y := sl) (u := i) (v := j) (w := j) hg
            refine lv_iload_n hx hb dX4_slot_16 rfl (lv_at hl 2 rfl) ?_
            refine lv_aload_n hx hb dX4_slot_17 rfl (lv_at hl 0 rfl) ?_
            refine r_get (C := RX4) (T := TX4) (N := 10) hx hb hts iiX4_slot_4 hown hK h0 rfl 0 (by decide) (hts (.fieldLink RX4 7 "HopMeetModel" "now" "[I") (List.mem_of_getElem? (i := 1) rfl)) rfl dX4_slot_18 ?_
            refine lv_iconst (v := nI 1) hx hb dX4_slot_21 (by decide) ?_
            refine r_iald hx hb hK h1 rfl 1 (by omega) (by decide) (v := nI (cu z)) hz.2.1.1 dX4_slot_22 ?_
            refine r_geN hx hb (by omega) (by omega) dX4_slot_23 (tgt := 71) (by decide) (fun c2 => ?_) (fun c2 => ?_)
            · refine lv_iinc (v := nI (i + 1)) (lv' := [(1, .int (nI (i + 1))), (0, .ref d), (2, .int (nI j))]) hx hb dX4_slot_71 hl (k := 1) rfl (nI_1 _) (by decide) rfl (fun ls hl => ?_)
              refine lv_goto (tgt := 2) hx hb dX4_slot_74 (by decide) ?_
              exact ih2 (i + 1) (by omega) (by omega) _ _ (PM_congr hPM (fun u hu => mJ_end hg (by omega))) hS ls (lv_sub hl [1, 0] rfl)
            · refine lv_aload_n hx hb dX4_slot_26 rfl (lv_at hl 0 rfl) ?_
              refine r_get (C := RX4) (T := TX4) (N := 10) hx hb hts iiX4_slot_4 hown hK h0 rfl 7 (by decide) (hts (.fieldLink RX4 23 "HopMeetModel" "group" "[I") (List.mem_of_getElem? (i := 2) rfl)) rfl dX4_slot_27 ?_
              refine lv_iload_n hx hb dX4_slot_30 rfl (lv_at hl 1 rfl) ?_
              refine r_iald hx hb hK h5 rfl i (by omega) (by decide) (v := nI (mJ z gr sl i j i)) (e3 i (by omega)) dX4_slot_31 ?_
              refine lv_iload_n hx hb dX4_slot_32 rfl (lv_at hl 1 rfl) ?_
              refine r_neN hx hb (by omega) (by omega) dX4_slot_33 (tgt := 71) (by decide) (fun c3 => ?_) (fun c3 => ?_)
              · refine lv_iinc (v := nI (i + 1)) (lv' := [(1, .int (nI (i + 1))), (0, .ref d), (2, .int (nI j))]) hx hb dX4_slot_71 hl (k := 1) rfl (nI_1 _) (by decide) rfl (fun ls hl => ?_)
                refine lv_goto (tgt := 2) hx hb dX4_slot_74 (by decide) ?_
                exact ih2 (i + 1) (by omega) (by omega) _ _ (PM_congr hPM (fun u hu => mJ_u0 hg hg2 (by omega) c3)) hS ls (lv_sub hl [1, 0] rfl)
              · refine lv_aload_n hx hb dX4_slot_36 rfl (lv_at hl 0 rfl) ?_
                refine r_get (C := RX4) (T := TX4) (N := 10) hx hb hts iiX4_slot_4 hown hK h0 rfl 7 (by decide) (hts (.fieldLink RX4 23 "HopMeetModel" "group" "[I") (List.mem_of_getElem? (i := 2) rfl)) rfl dX4_slot_37 ?_
                refine lv_iload_n hx hb dX4_slot_40 rfl (lv_at hl 2 rfl) ?_
                refine r_iald hx hb hK h5 rfl j (by omega) (by decide) (v := nI (mJ z gr sl i j j)) (e3 j (by omega)) dX4_slot_41 ?_
                refine lv_iload_n hx hb dX4_slot_42 rfl (lv_at hl 2 rfl) ?_
                refine r_neN hx hb (by omega) (by omega) dX4_slot_43 (tgt := 65) (by decide) (fun c4 => ?_) (fun c4 => ?_)
                · refine lv_iinc (v := nI (j + 1)) (lv' := [(2, .int (nI (j + 1))), (0, .ref d), (1, .int (nI i))]) hx hb dX4_slot_65 hl (k := 2) rfl (nI_1 _) (by decide) rfl (fun ls hl => ?_)
                  refine lv_goto (tgt := 16) hx hb dX4_slot_68 (by decide) ?_
                  exact ih16 (j + 1) (by omega) (by omega) (by omega) _ _ (PM_congr hPM (fun u hu => mJ_no hg hg2 hj2 (Or.inl c4))) hS ls (lv_sub hl [1, 2, 0] rfl)
                · refine lv_aload_n hx hb dX4_slot_46 rfl (lv_at hl 0 rfl) ?_
                  refine lv_iload_n hx hb dX4_slot_47 rfl (lv_at hl 1 rfl) ?_
                  refine lv_iload_n hx hb dX4_slot_48 rfl (lv_at hl 2 rfl) ?_
                  refine lv_aload_n hx hb dX4_slot_49 rfl (lv_at hl 0 rfl) ?_
                  refine r_get (C := RX4) (T := TX4) (N := 10) hx hb hts iiX4_slot_4 hown hK h0 rfl 5 (by decide) (hts (.fieldLink RX4 73 "HopMeetModel" "slots" "I") (List.mem_of_getElem? (i := 3) rfl)) rfl dX4_slot_50 ?_
                  refine r_cV (av := [.int (nI i), .int (nI j), .int (nI sl)]) (c_X4_isMet l G t d z hz i j sl (by omega) (by omega) (by omega)) ⟨hx, hb, hml, hown, hts⟩ (cwV 3 hts gX4_slot_X4_isMet rfl rfl rfl (by decide +kernel) ⟨Nat.le_of_ble_eq_true rfl, Nat.le_of_ble_eq_true rfl⟩) mv_K ⟨hK, ⟨_, _, _, h0, h1⟩⟩ (at_recv hK h0 rfl) rfl hl (Nat.le_of_ble_eq_true rfl) ⟨Nat.le_of_ble_eq_true rfl, Nat.le_of_ble_eq_true rfl⟩ rfl dX4_slot_53 (fun r1 hr1 => ?_)
                  subst hr1
                  refine r_ifeqB hx hb dX4_slot_56 (tgt := 65) (by decide) (fun c5 => ?_) (fun c5 => ?_)
                  · refine lv_iinc (v := nI (j + 1)) (lv' := [(2, .int (nI (j + 1))), (0, .ref d), (1, .int (nI i))]) hx hb dX4_slot_65 hl (k := 2) rfl (nI_1 _) (by decide) rfl (fun ls hl => ?_)
                    refine lv_goto (tgt := 16) hx hb dX4_slot_68 (by decide) ?_
                    exact ih16 (j + 1) (by omega) (by omega) (by omega) _ _ (PM_congr hPM (fun u hu => mJ_no hg hg2 hj2 (Or.inr c5))) hS ls (lv_sub hl [1, 2, 0] rfl)
                  · refine lv_aload_n hx hb dX4_slot_59 rfl (lv_at hl 0 rfl) ?_
                    refine lv_iload_n hx hb dX4_slot_60 rfl (lv_at hl 1 rfl) ?_
                    refine lv_iload_n hx hb dX4_slot_61 rfl (lv_at hl 2 rfl) ?_
                    refine r_mV (av := [.int (nI i), .int (nI j)]) (c_X4_join l G t d z (mJ z gr sl i j) sl bc bk kp im hz (fun u => mJ_le hg) i j (by omega) (by omega)) ⟨hx, hb, hml, hown, hts⟩ (cwV 2 hts gX4_slot_X4_join rfl rfl rfl (by decide +kernel) ⟨Nat.le_of_ble_eq_true rfl, Nat.le_of_ble_eq_true rfl⟩) mv_K ⟨hK, hPM⟩ (at_recv hK h0 rfl) rfl hl (Nat.le_of_ble_eq_true rfl) ⟨Nat.le_of_ble_eq_true rfl, Nat.le_of_ble_eq_true rfl⟩ rfl dX4_slot_62 hS (fun q h => h) (fun H locs hP hz9 hk hS => ?_)
                    have hPM := hP
                    refine lv_iinc (v := nI (j + 1)) (lv' := [(2, .int (nI (j + 1))), (0, .ref d), (1, .int (nI i))]) hx hb dX4_slot_65 hl (k := 2) rfl (nI_1 _) (by decide) rfl (fun ls hl => ?_)
                    refine lv_goto (tgt := 16) hx hb dX4_slot_68 (by decide) ?_
                    exact ih16 (j + 1) (by omega) (by omega) (by omega) _ _ (PM_congr hPM (fun u hu => mJ_yes hg hg2 hj2 c3 c4 c5)) hS ls (lv_sub hl [1, 2, 0] rfl)
        exact loop16 _ (i + 1) (by omega) (Nat.lt_succ_self _) (Nat.lt_succ_self _) _ _ (PM_congr hPM (fun u hu => mI_J)) hS ls (lv_sub hl [1, 2, 0] rfl)
  exact loop2 _ 0 (Nat.zero_le _) (Nat.lt_succ_self _) _ _ (PM_congr hPM (fun u hu => mI_0)) hS ls (lv_sub hl [1, 0] rfl)
