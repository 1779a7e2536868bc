/-! the reference: what changes it (printed by wip/whole/m10.py) -/
set_option maxRecDepth 20000 in
theorem iiX4_channels_4 : ∀ w ∈ wsX40, w ∈ wsX4_channels := by decide +kernel
set_option maxHeartbeats 4000000 in
set_option maxRecDepth 100000 in
/-- so many channels -/
theorem c_X4_channels (l : Launch) (G : va_G) (t : gT) (d : Nat) (z : Nat → Int32) (gr : Nat → Nat) (sl bc : Nat) (bk : Nat → Nat → Int32) (kp : Nat → Bool) (im : Nat → Nat → Int32) (hz : WF z) (n : Int32) : Met l yX4_channels wsX4_channels ({ frames := 2, cells := 0, slots := 0, locals := 42 } : Room) (pc_ [.ref d, .int n] (fun U H => KK G t U ∧ PM G t d (z, gr, sl, bc, bk, kp, im) H)) (qi_ (fun r H => r = rChannels n ∧ PM G t d (oChannels n z gr sl bc bk kp im) H) (iv d (d + 7))) 0 0 (iv d (d + 7)) := by
  refine Met.ofW (cc := cX4_channels) (maxL := 2) (ret := (some .int)) (by decide) rfl ?_
  intro p e s m args below meth c s₁ B hml hv
  obtain ⟨rfl, hB⟩ := hv
  have hx := B.exec
  have hb := B.bytes
  have hr := B.returns
  have hts := atoms_spec (ws := wsX4_channels) B.pre
  have hown : s.vm.findClass RX4 = some m.cls := findClass_of_methodNamed B.named
  have hlocks := B.notSynchronized
  have hK := hB.1
  obtain ⟨lo, fB, fI, fG, fM, h0, h1, h2, h3, h4, h5, h6, e1, e2, e3⟩ := hB.2
  have hn := hz.n
  have hu5 := hz.u5
  have hs8 := hz.s8
  have hS : va_S (iv d (d + 7)) s.heap s.heap [] := va_S.rf
  have hl := lv_entry ([.ref d, .int n]) (n := 2) (Nat.le_of_ble_eq_true rfl)
  rw [lg_entry_eq]
  generalize (lg_sl ([.ref d, .int n]) ++ List.replicate (2 - (lg_sl ([.ref d, .int n])).length) Slot.unset).toArray = ls at hl ⊢
  have hl : lv_has ls 2 [(0, .ref d), (1, .int n)] := hl
  refine lv_iload_n hx hb dX4_channels_0 rfl (lv_at hl 1 rfl) ?_
  refine lv_iconst (v := nI 2) hx hb dX4_channels_1 (by decide) ?_
  refine lv_bipush (v := nI 10) hx hb dX4_channels_2 (by decide) ?_
  refine r_cS (av := [.int n, .int (nI 2), .int (nI 10)]) (c_X4_in l G t n (nI 2) (nI 10)) ⟨hx, hb, hml, hown, hts⟩ (va_cwS 3 hts gX4_channels_X4_in rfl rfl rfl (by decide +kernel) ⟨Nat.le_of_ble_eq_true rfl, Nat.le_of_ble_eq_true rfl⟩) mv_T trivial rfl hl (Nat.le_of_ble_eq_true rfl) ⟨Nat.le_of_ble_eq_true rfl, Nat.le_of_ble_eq_true rfl⟩ rfl dX4_channels_4 (fun r1 hr1 => ?_)
  subst hr1
  refine r_ifneB hx hb dX4_channels_7 (tgt := 13) (by decide) (fun c1 => ?_) (fun c1 => ?_)
  · obtain ⟨j, ja, jb, ej⟩ := in_of (by decide) (by decide) c1
    have ejc : cl n = j := by rw [ej]; exact cl_N (by omega)
    refine lv_aload_n hx hb dX4_channels_13 rfl (lv_at hl 0 rfl) ?_
    refine r_get (C := RX4) (T := TX4) (N := 10) hx hb hts iiX4_channels_4 hown hK h0 rfl 0 (by decide) (hts (.fieldLink RX4 7 "HopMeetModel" "now" "[I") (List.mem_of_getElem? (i := 2) rfl)) rfl dX4_channels_14 ?_
    refine lv_iconst (v := nI 0) hx hb dX4_channels_17 (by decide) ?_
    refine lv_iload_n hx hb dX4_channels_18 rfl (lv_at hl 1 rfl) ?_
    refine r_top (y := nI j) ej ?_
    refine r_iast hx hb hK h1 ⟨by omega, by omega⟩ hS rfl 0 (by omega) (by decide) dX4_channels_19 (fun H locs h1 hz9 hq hS => ?_)
    have h0 := at_kept h0 (hq _ (by omega))
    have h2 := at_kept h2 (hq _ (by omega))
    have h3 := at_kept h3 (hq _ (by omega))
    have h4 := at_kept h4 (hq _ (by omega))
    have h5 := at_kept h5 (hq _ (by omega))
    have h6 := at_kept h6 (hq _ (by omega))
    refine lv_aload_n hx hb dX4_channels_20 rfl (lv_at hl 0 rfl) ?_
    refine r_get (C := RX4) (T := TX4) (N := 10) hx hb hts iiX4_channels_4 hown hK h0 rfl 0 (by decide) (hts (.fieldLink RX4 7 "HopMeetModel" "now" "[I") (List.mem_of_getElem? (i := 2) rfl)) rfl dX4_channels_21 ?_
    refine lv_iconst (v := nI 1) hx hb dX4_channels_24 (by decide) ?_
    refine lv_iconst (v := nI 0) hx hb dX4_channels_25 (by decide) ?_
    refine r_iast hx hb hK h1 ⟨by omega, by omega⟩ hS rfl 1 (by omega) (by decide) dX4_channels_26 (fun H locs h1 hz9 hq hS => ?_)
    have h0 := at_kept h0 (hq _ (by omega))
    have h2 := at_kept h2 (hq _ (by omega))
    have h3 := at_kept h3 (hq _ (by omega))
    have h4 := at_kept h4 (hq _ (by omega))
    have h5 := at_kept h5 (hq _ (by omega))
    have h6 := at_kept h6 (hq _ (by omega))
    refine lv_aload_n hx hb dX4_channels_27 rfl (lv_at hl 0 rfl) ?_
    refine r_get (C := RX4) (T := TX4) (N := 10) hx hb hts iiX4_channels_4 hown hK h0 rfl 0 (by decide) (hts (.fieldLink RX4 7 "HopMeetModel" "now" "[I") (List.mem_of_getElem? (i := 2) rfl)) rfl dX4_channels_28 ?_
    refine lv_iconst (v := nI 2) hx hb dX4_channels_31 (by decide) ?_
    refine lv_iconst (v := nI 0) hx hb dX4_channels_32 (by decide) ?_
    refine r_iast hx hb hK h1 ⟨by omega, by omega⟩ hS rfl 2 (by omega) (by decide) dX4_channels_33 (fun H locs h1 hz9 hq hS => ?_)
    have h0 := at_kept h0 (hq _ (by omega))
    have h2 := at_kept h2 (hq _ (by omega))
    have h3 := at_kept h3 (hq _ (by omega))
    have h4 := at_kept h4 (hq _ (by omega))
    have h5 := at_kept h5 (hq _ (by omega))
    have h6 := at_kept h6 (hq _ (by omega))
    have h1 : at_ G (d + 1) (aI t 60 (zClear j z)) H := h1
    refine lv_aload_n hx hb dX4_channels_34 rfl (lv_at hl 0 rfl) ?_
    refine lv_iconst (v := nI 0) hx hb dX4_channels_35 (by decide) ?_
    refine r_put (ty := .int) (ci := 4) (C := RX4) (T := TX4) (N := 10) (fs' := [.ref (d + 1), .int (nI 0), .ref (d + 2), .ref (d + 3), .ref (d + 4), .int (nI sl), .int (nI (prN (cn z))), .ref (d + 5), .ref (d + 6), .long lo]) hx hb hts iiX4_channels_4 tyX4 tyX4_ok nmX4 hown hK h0 ⟨by omega, by omega⟩ hS rfl 1 (by decide) (hts (.fieldLink RX4 76 "HopMeetModel" "backs" "I") (List.mem_of_getElem? (i := 3) rfl)) rfl (by decide +kernel) rfl rfl (Nat.le_of_ble_eq_true rfl) rfl dX4_channels_36 (fun H locs h0 hz9 hq hS => ?_)
    have h1 := at_kept h1 (hq _ (by omega))
    have h2 := at_kept h2 (hq _ (by omega))
    have h3 := at_kept h3 (hq _ (by omega))
    have h4 := at_kept h4 (hq _ (by omega))
    have h5 := at_kept h5 (hq _ (by omega))
    have h6 := at_kept h6 (hq _ (by omega))
    refine lv_aload_n hx hb dX4_channels_39 rfl (lv_at hl 0 rfl) ?_
    refine r_mV (av := []) (c_X4_layPrime l G t d j (zClear j z) (nI 0) (nI sl) (nI (prN (cn z))) lo (by omega) (by omega) rfl) ⟨hx, hb, hml, hown, hts⟩ (cwV 0 hts gX4_channels_X4_layPrime rfl rfl rfl (by decide +kernel) ⟨Nat.le_of_ble_eq_true rfl, Nat.le_of_ble_eq_true rfl⟩) mv_K ⟨hK, h0, h1⟩ (at_recv hK h0 rfl) rfl hl (Nat.le_of_ble_eq_true rfl) ⟨Nat.le_of_ble_eq_true rfl, Nat.le_of_ble_eq_true rfl⟩ rfl dX4_channels_40 hS (iv_sub (by omega) (by omega)) (fun H locs hP hz9 hk hS => ?_)
    have h1 := at_keptA h1 hk (iv_no (by omega))
    have h2 := at_keptA h2 hk (iv_no (by omega))
    have h3 := at_keptA h3 hk (iv_no (by omega))
    have h4 := at_keptA h4 hk (iv_no (by omega))
    have h5 := at_keptA h5 hk (iv_no (by omega))
    have h6 := at_keptA h6 hk (iv_no (by omega))
    have h0 := hP
    refine lv_aload_n hx hb dX4_channels_43 rfl (lv_at hl 0 rfl) ?_
    refine r_mV (av := []) (c_X4_anew l G t d (nI 0) (nI sl) (nI (prN j)) lo fG) ⟨hx, hb, hml, hown, hts⟩ (cwV 0 hts gX4_channels_X4_anew rfl rfl rfl (by decide +kernel) ⟨Nat.le_of_ble_eq_true rfl, Nat.le_of_ble_eq_true rfl⟩) mv_K ⟨hK, h0, h5⟩ (at_recv hK h0 rfl) rfl hl (Nat.le_of_ble_eq_true rfl) ⟨Nat.le_of_ble_eq_true rfl, Nat.le_of_ble_eq_true rfl⟩ rfl dX4_channels_44 hS (iv2_sub (by omega) (by omega)) (fun H locs hP hz9 hk hS => ?_)
    have h1 := at_keptA h1 hk (iv2_no (by omega) (by omega))
    have h2 := at_keptA h2 hk (iv2_no (by omega) (by omega))
    have h3 := at_keptA h3 hk (iv2_no (by omega) (by omega))
    have h4 := at_keptA h4 hk (iv2_no (by omega) (by omega))
    have h6 := at_keptA h6 hk (iv2_no (by omega) (by omega))
    obtain ⟨h0, fG, h5, e3⟩ := hP
    refine lv_aload_n hx hb dX4_channels_47 rfl (lv_at hl 0 rfl) ?_
    refine r_get (C := RX4) (T := TX4) (N := 10) hx hb hts iiX4_channels_4 hown hK h0 rfl 6 (by decide) (hts (.fieldLink RX4 35 "HopMeetModel" "prime" "I") (List.mem_of_getElem? (i := 4) rfl)) rfl dX4_channels_48 ?_
    exact r_retI (v := nI (prN j)) hx hb hr hlocks hS ⟨by unfold rChannels; rw [c1, ejc]; rfl, by unfold oChannels; rw [c1, ejc]; exact PM_mk (bc := 0) (by rw [zClear_n (by omega)]; exact h0) h1 h2 h3 h4 h5 h6 (fun j hj => absurd hj (Nat.not_lt_zero _)) e2 (fun u hu => absurd hu (by rw [zClear_u]; exact Nat.not_lt_zero _))⟩ dX4_channels_51
  · refine lv_ldc (v := (-1000000002)) hx hb hown (hts (.constant RX4 83 (-1000000002)) (List.mem_of_getElem? (i := 1) rfl)) dX4_channels_10 ?_
    exact r_retI (v := (-1000000002)) hx hb hr hlocks hS ⟨by unfold rChannels; rw [c1]; rfl, by unfold oChannels; rw [c1]; exact hB.2⟩ dX4_channels_12

set_option maxRecDepth 20000 in
theorem iiX4_becomes_4 : ∀ w ∈ wsX40, w ∈ wsX4_becomes := by decide +kernel
set_option maxHeartbeats 4000000 in
set_option maxRecDepth 100000 in
/-- a change of a user -/
theorem c_X4_becomes (l : Launch) (G : va_G) (t : gT) (d : Nat) (z : Nat → Int32) (gr : Nat → Nat) (sl bc : Nat) (bk : Nat → Nat → Int32) (kp : Nat → Bool) (im : Nat → Nat → Int32) (hz : WF z) (hbc : bc ≤ 12) (k i : Nat) (v : Int32) (hk0 : k < cu z) (hi0 : i < 5) : Met l yX4_becomes wsX4_becomes ({ frames := 2, cells := 0, slots := 0, locals := 45 } : Room) (pc_ [.ref d, .int (nI k), .int (nI i), .int v] (fun U H => KK G t U ∧ PM G t d (z, gr, sl, bc, bk, kp, im) H)) (qi_ (fun r H => r = z (3 + 5 * k + i) ∧ PM G t d (zSet z k i v, idN, 0, inc12 bc, push bk z, kp, im) H) (iv d (d + 7))) 0 0 (iv d (d + 7)) := by
  refine Met.ofW (cc := cX4_becomes) (maxL := 5) (ret := (some .int)) (by decide) rfl ?_
  intro p e s m args below meth c s₁ B hml hv
  obtain ⟨rfl, hB⟩ := hv
  have hx := B.exec
  have hb := B.bytes
  have hr := B.returns
  have hts := atoms_spec (ws := wsX4_becomes) B.pre
  have hown : s.vm.findClass RX4 = some m.cls := findClass_of_methodNamed B.named
  have hlocks := B.notSynchronized
  have hK := hB.1
  obtain ⟨lo, fB, fI, fG, fM, h0, h1, h2, h3, h4, h5, h6, e1, e2, e3⟩ := hB.2
  have hn := hz.n
  have hu5 := hz.u5
  have hs8 := hz.s8
  have hS : va_S (iv d (d + 7)) s.heap s.heap [] := va_S.rf
  have hl := lv_entry ([.ref d, .int (nI k), .int (nI i), .int v]) (n := 5) (Nat.le_of_ble_eq_true rfl)
  rw [lg_entry_eq]
  generalize (lg_sl ([.ref d, .int (nI k), .int (nI i), .int v]) ++ List.replicate (5 - (lg_sl ([.ref d, .int (nI k), .int (nI i), .int v])).length) Slot.unset).toArray = ls at hl ⊢
  have hl : lv_has ls 5 [(0, .ref d), (1, .int (nI k)), (2, .int (nI i)), (3, .int v)] := hl
  refine lv_aload_n hx hb dX4_becomes_0 rfl (lv_at hl 0 rfl) ?_
  refine r_mV (av := []) (c_X4_note l G t d z gr sl bc bk kp im hz hbc) ⟨hx, hb, hml, hown, hts⟩ (cwV 0 hts gX4_becomes_X4_note rfl rfl rfl (by decide +kernel) ⟨Nat.le_of_ble_eq_true rfl, Nat.le_of_ble_eq_true rfl⟩) mv_K hB (at_recv hK h0 rfl) rfl hl (Nat.le_of_ble_eq_true rfl) ⟨Nat.le_of_ble_eq_true rfl, Nat.le_of_ble_eq_true rfl⟩ rfl dX4_becomes_1 hS (fun q h => h) (fun H locs hP hz9 hk hS => ?_)
  obtain ⟨⟨lo, fB, fI, fG0, fM, h0, h1, h2, h3, h4, h50, h6, e1, e2, e30⟩, fG, h5, e3⟩ := hP
  refine lv_aload_n hx hb dX4_becomes_4 rfl (lv_at hl 0 rfl) ?_
  refine lv_iload_n hx hb dX4_becomes_5 rfl (lv_at hl 1 rfl) ?_
  refine lv_iload_n hx hb dX4_becomes_6 rfl (lv_at hl 2 rfl) ?_
  refine r_cV (av := [.int (nI k), .int (nI i)]) (c_X4_of l G t d z hz k i (by omega) hi0) ⟨hx, hb, hml, hown, hts⟩ (cwV 2 hts gX4_becomes_X4_of rfl rfl rfl (by decide +kernel) ⟨Nat.le_of_ble_eq_true rfl, Nat.le_of_ble_eq_true rfl⟩) mv_K ⟨hK, ⟨_, _, _, h0, h1⟩⟩ (at_recv hK h0 rfl) rfl hl (Nat.le_of_ble_eq_true rfl) ⟨Nat.le_of_ble_eq_true rfl, Nat.le_of_ble_eq_true rfl⟩ rfl dX4_becomes_7 (fun r1 hr1 => ?_)
  subst hr1
  refine lv_istore (lv' := [(4, .int (z (3 + 5 * k + i))), (0, .ref d), (1, .int (nI k)), (2, .int (nI i)), (3, .int v)]) hx hb dX4_becomes_10 hl (by decide) rfl (fun ls hl => ?_)
  refine lv_aload_n hx hb dX4_becomes_12 rfl (lv_at hl 1 rfl) ?_
  refine r_get (C := RX4) (T := TX4) (N := 10) hx hb hts iiX4_becomes_4 hown hK h0 rfl 0 (by decide) (hts (.fieldLink RX4 7 "HopMeetModel" "now" "[I") (List.mem_of_getElem? (i := 1) rfl)) rfl dX4_becomes_13 ?_
  refine lv_iconst (v := nI 3) hx hb dX4_becomes_16 (by decide) ?_
  refine lv_iconst (v := nI 5) hx hb dX4_becomes_17 (by decide) ?_
  refine lv_iload_n hx hb dX4_becomes_18 rfl (lv_at hl 2 rfl) ?_
  refine r_imulN hx hb dX4_becomes_19 ?_
  refine r_iaddN hx hb dX4_becomes_20 ?_
  refine lv_iload_n hx hb dX4_becomes_21 rfl (lv_at hl 3 rfl) ?_
  refine r_iaddN hx hb dX4_becomes_22 ?_
  refine lv_iload_n hx hb dX4_becomes_23 rfl (lv_at hl 4 rfl) ?_
  refine r_iast hx hb hK h1 ⟨by omega, by omega⟩ hS rfl ((3 + (5 * k)) + i) (by omega) (by decide) dX4_becomes_24 (fun H locs h1 hz9 hq hS => ?_)
  have h0 := at_kept h0 (hq _ (by omega))
  have h2 := at_kept h2 (hq _ (by omega))
  have h3 := at_kept h3 (hq _ (by omega))
  have h4 := at_kept h4 (hq _ (by omega))
  have h5 := at_kept h5 (hq _ (by omega))
  have h6 := at_kept h6 (hq _ (by omega))
  refine lv_iload hx hb dX4_becomes_25 (lv_at hl 0 rfl) ?_
  exact r_retI (v := z (3 + 5 * k + i)) hx hb hr hlocks hS ⟨rfl, PM_mk (by rw [zSet_n]; exact h0) h1 h2 h3 h4 h5 h6 e1 e2 (fun u hu => e3 u (by rw [zSet_u] at hu; omega))⟩ dX4_becomes_27

set_option maxRecDepth 20000 in
theorem iiX4_user_4 : ∀ w ∈ wsX40, w ∈ wsX4_user := by decide +kernel
set_option maxHeartbeats 4000000 in
set_option maxRecDepth 100000 in
/-- a user more -/
theorem c_X4_user (l : Launch) (G : va_G) (t : gT) (d : Nat) (z : Nat → Int32) (gr : Nat → Nat) (sl bc : Nat) (bk : Nat → Nat → Int32) (kp : Nat → Bool) (im : Nat → Nat → Int32) (hz : WF z) (hbc : bc ≤ 12) (r x y w : Int32) : Met l yX4_user wsX4_user ({ frames := 2, cells := 0, slots := 0, locals := 45 } : Room) (pc_ [.ref d, .int r, .int x, .int y, .int w] (fun U H => KK G t U ∧ PM G t d (z, gr, sl, bc, bk, kp, im) H)) (qi_ (fun ans H => ans = rUser r x y w z ∧ PM G t d (oUser r x y w z gr sl bc bk kp im) H) (iv d (d + 7))) 0 0 (iv d (d + 7)) := by
  refine Met.ofW (cc := cX4_user) (maxL := 6) (ret := (some .int)) (by decide) rfl ?_
  intro p e s m args below meth c s₁ B hml hv
  obtain ⟨rfl, hB⟩ := hv
  have hx := B.exec
  have hb := B.bytes
  have hr := B.returns
  have hts := atoms_spec (ws := wsX4_user) B.pre
  have hown : s.vm.findClass RX4 = some m.cls := findClass_of_methodNamed B.named
  have hlocks := B.notSynchronized
  have hK := hB.1
  obtain ⟨lo, fB, fI, fG, fM, h0, h1, h2, h3, h4, h5, h6, e1, e2, e3⟩ := hB.2
  have hn := hz.n
  have hu5 := hz.u5
  have hs8 := hz.s8
  have hS : va_S (iv d (d + 7)) s.heap s.heap [] := va_S.rf
  have hl := lv_entry ([.ref d, .int r, .int x, .int y, .int w]) (n := 6) (Nat.le_of_ble_eq_true rfl)
  rw [lg_entry_eq]
  generalize (lg_sl ([.ref d, .int r, .int x, .int y, .int w]) ++ List.replicate (6 - (lg_sl ([.ref d, .int r, .int x, .int y, .int w])).length) Slot.unset).toArray = ls at hl ⊢
  have hl : lv_has ls 6 [(0, .ref d), (1, .int r), (2, .int x), (3, .int y), (4, .int w)] := hl
  refine lv_iconst (v := nI 0) hx hb dX4_user_0 (by decide) ?_
  refine lv_iload_n hx hb dX4_user_1 rfl (lv_at hl 1 rfl) ?_
  refine r_cS (av := [.int (nI 0), .int r]) (c_X4_isBound l G t (nI 0) r) ⟨hx, hb, hml, hown, hts⟩ (va_cwS 2 hts gX4_user_X4_isBound rfl rfl rfl (by decide +kernel) ⟨Nat.le_of_ble_eq_true rfl, Nat.le_of_ble_eq_true rfl⟩) mv_T trivial rfl hl (Nat.le_of_ble_eq_true rfl) ⟨Nat.le_of_ble_eq_true rfl, Nat.le_of_ble_eq_true rfl⟩ rfl dX4_user_2 (fun r1 hr1 => ?_)
  subst hr1
  refine r_ifeqB hx hb dX4_user_5 (tgt := 33) (by decide) (fun c1 => ?_) (fun c1 => ?_)
  · refine lv_ldc (v := (-1000000002)) hx hb hown (hts (.constant RX4 83 (-1000000002)) (List.mem_of_getElem? (i := 1) rfl)) dX4_user_33 ?_
    exact r_retI (v := (-1000000002)) hx hb hr hlocks hS (by have hok : okUser r x y w = false := (by first | exact and_f1 c1 | exact and_f2 (and_f1 c2) | exact and_f2 (and_f2 (and_f1 c3)) | exact and_f2 (and_f2 (and_f2 c4))); exact ⟨by unfold rUser; rw [hok]; rfl, by unfold oUser; rw [and_f1 hok]; exact hB.2⟩) dX4_user_35
  · refine lv_iconst (v := nI 1) hx hb dX4_user_8 (by decide) ?_
    refine lv_iload_n hx hb dX4_user_9 rfl (lv_at hl 2 rfl) ?_
    refine r_cS (av := [.int (nI 1), .int x]) (c_X4_isBound l G t (nI 1) x) ⟨hx, hb, hml, hown, hts⟩ (va_cwS 2 hts gX4_user_X4_isBound rfl rfl rfl (by decide +kernel) ⟨Nat.le_of_ble_eq_true rfl, Nat.le_of_ble_eq_true rfl⟩) mv_T trivial rfl hl (Nat.le_of_ble_eq_true rfl) ⟨Nat.le_of_ble_eq_true rfl, Nat.le_of_ble_eq_true rfl⟩ rfl dX4_user_10 (fun r2 hr2 => ?_)
    subst hr2
    refine r_ifeqB hx hb dX4_user_13 (tgt := 33) (by decide) (fun c2 => ?_) (fun c2 => ?_)
    · refine lv_ldc (v := (-1000000002)) hx hb hown (hts (.constant RX4 83 (-1000000002)) (List.mem_of_getElem? (i := 1) rfl)) dX4_user_33 ?_
      exact r_retI (v := (-1000000002)) hx hb hr hlocks hS (by have hok : okUser r x y w = false := (by first | exact and_f1 c1 | exact and_f2 (and_f1 c2) | exact and_f2 (and_f2 (and_f1 c3)) | exact and_f2 (and_f2 (and_f2 c4))); exact ⟨by unfold rUser; rw [hok]; rfl, by unfold oUser; rw [and_f1 hok]; exact hB.2⟩) dX4_user_35
    · refine lv_iconst (v := nI 2) hx hb dX4_user_16 (by decide) ?_
      refine lv_iload_n hx hb dX4_user_17 rfl (lv_at hl 3 rfl) ?_
      refine r_cS (av := [.int (nI 2), .int y]) (c_X4_isBound l G t (nI 2) y) ⟨hx, hb, hml, hown, hts⟩ (va_cwS 2 hts gX4_user_X4_isBound rfl rfl rfl (by decide +kernel) ⟨Nat.le_of_ble_eq_true rfl, Nat.le_of_ble_eq_true rfl⟩) mv_T trivial rfl hl (Nat.le_of_ble_eq_true rfl) ⟨Nat.le_of_ble_eq_true rfl, Nat.le_of_ble_eq_true rfl⟩ rfl dX4_user_18 (fun r3 hr3 => ?_)
      subst hr3
      refine r_ifeqB hx hb dX4_user_21 (tgt := 33) (by decide) (fun c3 => ?_) (fun c3 => ?_)
      · refine lv_ldc (v := (-1000000002)) hx hb hown (hts (.constant RX4 83 (-1000000002)) (List.mem_of_getElem? (i := 1) rfl)) dX4_user_33 ?_
        exact r_retI (v := (-1000000002)) hx hb hr hlocks hS (by have hok : okUser r x y w = false := (by first | exact and_f1 c1 | exact and_f2 (and_f1 c2) | exact and_f2 (and_f2 (and_f1 c3)) | exact and_f2 (and_f2 (and_f2 c4))); exact ⟨by unfold rUser; rw [hok]; rfl, by unfold oUser; rw [and_f1 hok]; exact hB.2⟩) dX4_user_35
      · refine lv_iconst (v := nI 3) hx hb dX4_user_24 (by decide) ?_
        refine lv_iload hx hb dX4_user_25 (lv_at hl 4 rfl) ?_
        refine r_cS (av := [.int (nI 3), .int w]) (c_X4_isBound l G t (nI 3) w) ⟨hx, hb, hml, hown, hts⟩ (va_cwS 2 hts gX4_user_X4_isBound rfl rfl rfl (by decide +kernel) ⟨Nat.le_of_ble_eq_true rfl, Nat.le_of_ble_eq_true rfl⟩) mv_T trivial rfl hl (Nat.le_of_ble_eq_true rfl) ⟨Nat.le_of_ble_eq_true rfl, Nat.le_of_ble_eq_true rfl⟩ rfl dX4_user_27 (fun r4 hr4 => ?_)
        subst hr4
        refine r_ifneB hx hb dX4_user_30 (tgt := 36) (by decide) (fun c4 => ?_) (fun c4 => ?_)
        · have hok : okUser r x y w = true := and_t c1 (and_t c2 (and_t c3 c4))
          refine lv_aload_n hx hb dX4_user_36 rfl (lv_at hl 0 rfl) ?_
          refine r_get (C := RX4) (T := TX4) (N := 10) hx hb hts iiX4_user_4 hown hK h0 rfl 0 (by decide) (hts (.fieldLink RX4 7 "HopMeetModel" "now" "[I") (List.mem_of_getElem? (i := 2) rfl)) rfl dX4_user_37 ?_
          refine lv_iconst (v := nI 1) hx hb dX4_user_40 (by decide) ?_
          refine r_iald hx hb hK h1 rfl 1 (by omega) (by decide) (v := nI (cu z)) hz.2.1.1 dX4_user_41 ?_
          refine lv_iconst (v := nI 5) hx hb dX4_user_42 (by decide) ?_
          refine r_neN hx hb (by omega) (by omega) dX4_user_43 (tgt := 49) (by decide) (fun c5 => ?_) (fun c5 => ?_)
          · have hlt : cu z < 5 := by omega
            refine lv_aload_n hx hb dX4_user_49 rfl (lv_at hl 0 rfl) ?_
            refine r_mV (av := []) (c_X4_note l G t d z gr sl bc bk kp im hz hbc) ⟨hx, hb, hml, hown, hts⟩ (cwV 0 hts gX4_user_X4_note rfl rfl rfl (by decide +kernel) ⟨Nat.le_of_ble_eq_true rfl, Nat.le_of_ble_eq_true rfl⟩) mv_K hB (at_recv hK h0 rfl) rfl hl (Nat.le_of_ble_eq_true rfl) ⟨Nat.le_of_ble_eq_true rfl, Nat.le_of_ble_eq_true rfl⟩ rfl dX4_user_50 hS (fun q h => h) (fun H locs hP hz9 hk hS => ?_)
            obtain ⟨⟨lo, fB, fI, fG0, fM, h0, h1, h2, h3, h4, h50, h6, e1, e2, e30⟩, fG, h5, e3⟩ := hP
            refine lv_iconst (v := nI 3) hx hb dX4_user_53 (by decide) ?_
            refine lv_iconst (v := nI 5) hx hb dX4_user_54 (by decide) ?_
            refine lv_aload_n hx hb dX4_user_55 rfl (lv_at hl 0 rfl) ?_
            refine r_get (C := RX4) (T := TX4) (N := 10) hx hb hts iiX4_user_4 hown hK h0 rfl 0 (by decide) (hts (.fieldLink RX4 7 "HopMeetModel" "now" "[I") (List.mem_of_getElem? (i := 2) rfl)) rfl dX4_user_56 ?_
            refine lv_iconst (v := nI 1) hx hb dX4_user_59 (by decide) ?_
            refine r_iald hx hb hK h1 rfl 1 (by omega) (by decide) (v := nI (cu z)) hz.2.1.1 dX4_user_60 ?_
            refine r_imulN hx hb dX4_user_61 ?_
            refine r_iaddN hx hb dX4_user_62 ?_
            refine lv_istore (lv' := [(5, .int (nI (3 + (5 * (cu z))))), (0, .ref d), (1, .int r), (2, .int x), (3, .int y), (4, .int w)]) hx hb dX4_user_63 hl (by decide) rfl (fun ls hl => ?_)
            refine lv_aload_n hx hb dX4_user_65 rfl (lv_at hl 1 rfl) ?_
            refine r_get (C := RX4) (T := TX4) (N := 10) hx hb hts iiX4_user_4 hown hK h0 rfl 0 (by decide) (hts (.fieldLink RX4 7 "HopMeetModel" "now" "[I") (List.mem_of_getElem? (i := 2) rfl)) rfl dX4_user_66 ?_
            refine lv_iload hx hb dX4_user_69 (lv_at hl 0 rfl) ?_
            refine lv_iload_n hx hb dX4_user_71 rfl (lv_at hl 2 rfl) ?_
            refine r_iast hx hb hK h1 ⟨by omega, by omega⟩ hS rfl (3 + (5 * (cu z))) (by omega) (by decide) dX4_user_72 (fun H locs h1 hz9 hq hS => ?_)
            have h0 := at_kept h0 (hq _ (by omega))
            have h2 := at_kept h2 (hq _ (by omega))
            have h3 := at_kept h3 (hq _ (by omega))
            have h4 := at_kept h4 (hq _ (by omega))
            have h5 := at_kept h5 (hq _ (by omega))
            have h6 := at_kept h6 (hq _ (by omega))
            refine lv_aload_n hx hb dX4_user_73 rfl (lv_at hl 1 rfl) ?_
            refine r_get (C := RX4) (T := TX4) (N := 10) hx hb hts iiX4_user_4 hown hK h0 rfl 0 (by decide) (hts (.fieldLink RX4 7 "HopMeetModel" "now" "[I") (List.mem_of_getElem? (i := 2) rfl)) rfl dX4_user_74 ?_
            refine lv_iload hx hb dX4_user_77 (lv_at hl 0 rfl) ?_
            refine lv_iconst (v := nI 1) hx hb dX4_user_79 (by decide) ?_
            refine r_iaddN hx hb dX4_user_80 ?_
            refine lv_iload_n hx hb dX4_user_81 rfl (lv_at hl 3 rfl) ?_
            refine r_iast hx hb hK h1 ⟨by omega, by omega⟩ hS rfl ((3 + (5 * (cu z))) + 1) (by omega) (by decide) dX4_user_82 (fun H locs h1 hz9 hq hS => ?_)
            have h0 := at_kept h0 (hq _ (by omega))
            have h2 := at_kept h2 (hq _ (by omega))
            have h3 := at_kept h3 (hq _ (by omega))
            have h4 := at_kept h4 (hq _ (by omega))
            have h5 := at_kept h5 (hq _ (by omega))
            have h6 := at_kept h6 (hq _ (by omega))
            refine lv_aload_n hx hb dX4_user_83 rfl (lv_at hl 1 rfl) ?_
            refine r_get (C := RX4) (T := TX4) (N := 10) hx hb hts iiX4_user_4 hown hK h0 rfl 0 (by decide) (hts (.fieldLink RX4 7 "HopMeetModel" "now" "[I") (List.mem_of_getElem? (i := 2) rfl)) rfl dX4_user_84 ?_
            refine lv_iload hx hb dX4_user_87 (lv_at hl 0 rfl) ?_
            refine lv_iconst (v := nI 2) hx hb dX4_user_89 (by decide) ?_
            refine r_iaddN hx hb dX4_user_90 ?_
            refine lv_iload_n hx hb dX4_user_91 rfl (lv_at hl 4 rfl) ?_
            refine r_iast hx hb hK h1 ⟨by omega, by omega⟩ hS rfl ((3 + (5 * (cu z))) + 2) (by omega) (by decide) dX4_user_92 (fun H locs h1 hz9 hq hS => ?_)
            have h0 := at_kept h0 (hq _ (by omega))
            have h2 := at_kept h2 (hq _ (by omega))
            have h3 := at_kept h3 (hq _ (by omega))
            have h4 := at_kept h4 (hq _ (by omega))
            have h5 := at_kept h5 (hq _ (by omega))
            have h6 := at_kept h6 (hq _ (by omega))
            refine lv_aload_n hx hb dX4_user_93 rfl (lv_at hl 1 rfl) ?_
            refine r_get (C := RX4) (T := TX4) (N := 10) hx hb hts iiX4_user_4 hown hK h0 rfl 0 (by decide) (hts (.fieldLink RX4 7 "HopMeetModel" "now" "[I") (List.mem_of_getElem? (i := 2) rfl)) rfl dX4_user_94 ?_
            refine lv_iload hx hb dX4_user_97 (lv_at hl 0 rfl) ?_
            refine lv_iconst (v := nI 3) hx hb dX4_user_99 (by decide) ?_
            refine r_iaddN hx hb dX4_user_100 ?_
            refine lv_iload hx hb dX4_user_101 (lv_at hl 5 rfl) ?_
            refine r_iast hx hb hK h1 ⟨by omega, by omega⟩ hS rfl ((3 + (5 * (cu z))) + 3) (by omega) (by decide) dX4_user_103 (fun H locs h1 hz9 hq hS => ?_)
            have h0 := at_kept h0 (hq _ (by omega))
            have h2 := at_kept h2 (hq _ (by omega))
            have h3 := at_kept h3 (hq _ (by omega))
            have h4 := at_kept h4 (hq _ (by omega))
            have h5 := at_kept h5 (hq _ (by omega))
            have h6 := at_kept h6 (hq _ (by omega))
            refine lv_aload_n hx hb dX4_user_104 rfl (lv_at hl 1 rfl) ?_
            refine r_get (C := RX4) (T := TX4) (N := 10) hx hb hts iiX4_user_4 hown hK h0 rfl 0 (by decide) (hts (.fieldLink RX4 7 "HopMeetModel" "now" "[I") (List.mem_of_getElem? (i := 2) rfl)) rfl dX4_user_105 ?_
            refine lv_iload hx hb dX4_user_108 (lv_at hl 0 rfl) ?_
            refine lv_iconst (v := nI 4) hx hb dX4_user_110 (by decide) ?_
            refine r_iaddN hx hb dX4_user_111 ?_
            refine lv_aload_n hx hb dX4_user_112 rfl (lv_at hl 1 rfl) ?_
            refine r_cV (av := []) (c_X4_all l G t d (u4N z r x y w) (u4_wf hz hlt)) ⟨hx, hb, hml, hown, hts⟩ (cwV 0 hts gX4_user_X4_all rfl rfl rfl (by decide +kernel) ⟨Nat.le_of_ble_eq_true rfl, Nat.le_of_ble_eq_true rfl⟩) mv_K ⟨hK, ⟨nI (inc12 bc), nI 0, lo, by rw [u4_c]; exact h0, h1⟩⟩ (at_recv hK h0 rfl) rfl hl (Nat.le_of_ble_eq_true rfl) ⟨Nat.le_of_ble_eq_true rfl, Nat.le_of_ble_eq_true rfl⟩ rfl dX4_user_113 (fun r5 hr5 => ?_)
            subst hr5
            refine r_top (y := nI (2 ^ cn z - 1)) u4_n ?_
            refine r_iast hx hb hK h1 ⟨by omega, by omega⟩ hS rfl ((3 + (5 * (cu z))) + 4) (by omega) (by decide) dX4_user_116 (fun H locs h1 hz9 hq hS => ?_)
            have h0 := at_kept h0 (hq _ (by omega))
            have h2 := at_kept h2 (hq _ (by omega))
            have h3 := at_kept h3 (hq _ (by omega))
            have h4 := at_kept h4 (hq _ (by omega))
            have h5 := at_kept h5 (hq _ (by omega))
            have h6 := at_kept h6 (hq _ (by omega))
            refine lv_aload_n hx hb dX4_user_117 rfl (lv_at hl 1 rfl) ?_
            refine r_get (C := RX4) (T := TX4) (N := 10) hx hb hts iiX4_user_4 hown hK h0 rfl 0 (by decide) (hts (.fieldLink RX4 7 "HopMeetModel" "now" "[I") (List.mem_of_getElem? (i := 2) rfl)) rfl dX4_user_118 ?_
            refine lv_iconst (v := nI 1) hx hb dX4_user_121 (by decide) ?_
            refine lv_dup2_11 hx hb dX4_user_122 rfl rfl ?_
            refine r_iald hx hb hK h1 rfl 1 (by omega) (by decide) (v := nI (cu z)) (u5_u hz) dX4_user_123 ?_
            refine lv_iconst (v := nI 1) hx hb dX4_user_124 (by decide) ?_
            refine r_iaddN hx hb dX4_user_125 ?_
            refine r_iast hx hb hK h1 ⟨by omega, by omega⟩ hS rfl 1 (by omega) (by decide) dX4_user_126 (fun H locs h1 hz9 hq hS => ?_)
            have h0 := at_kept h0 (hq _ (by omega))
            have h2 := at_kept h2 (hq _ (by omega))
            have h3 := at_kept h3 (hq _ (by omega))
            have h4 := at_kept h4 (hq _ (by omega))
            have h5 := at_kept h5 (hq _ (by omega))
            have h6 := at_kept h6 (hq _ (by omega))
            have h1 : at_ G (d + 1) (aI t 60 (zUser z r x y w)) H := h1
            refine lv_aload_n hx hb dX4_user_127 rfl (lv_at hl 1 rfl) ?_
            refine r_get (C := RX4) (T := TX4) (N := 10) hx hb hts iiX4_user_4 hown hK h0 rfl 0 (by decide) (hts (.fieldLink RX4 7 "HopMeetModel" "now" "[I") (List.mem_of_getElem? (i := 2) rfl)) rfl dX4_user_128 ?_
            refine lv_iconst (v := nI 1) hx hb dX4_user_131 (by decide) ?_
            refine r_iald hx hb hK h1 rfl 1 (by omega) (by decide) (v := nI (cu z + 1)) (by unfold zUser; rw [pk_us]) dX4_user_132 ?_
            refine lv_iconst (v := nI 1) hx hb dX4_user_133 (by decide) ?_
            refine r_isubN hx hb (by omega) dX4_user_134 ?_
            exact r_retI (v := nI ((cu z + 1) - 1)) hx hb hr hlocks hS ⟨by unfold rUser; rw [hok, decide_eq_true hlt]; rfl, by unfold oUser; rw [and_t hok (decide_eq_true hlt)]; exact PM_mk (by rw [zUser_n]; exact h0) h1 h2 h3 h4 h5 h6 e1 e2 (fun u hu => e3 u (by rw [zUser_u hlt] at hu; omega))⟩ dX4_user_135
          · refine lv_ldc (v := (-1000000004)) hx hb hown (hts (.constant RX4 88 (-1000000004)) (List.mem_of_getElem? (i := 3) rfl)) dX4_user_46 ?_
            exact r_retI (v := (-1000000004)) hx hb hr hlocks hS ⟨by unfold rUser; rw [hok, decide_eq_false (by omega)]; rfl, by unfold oUser; rw [and_f2 (decide_eq_false (by omega))]; exact hB.2⟩ dX4_user_48
        · refine lv_ldc (v := (-1000000002)) hx hb hown (hts (.constant RX4 83 (-1000000002)) (List.mem_of_getElem? (i := 1) rfl)) dX4_user_33 ?_
          exact r_retI (v := (-1000000002)) hx hb hr hlocks hS (by have hok : okUser r x y w = false := (by first | exact and_f1 c1 | exact and_f2 (and_f1 c2) | exact and_f2 (and_f2 (and_f1 c3)) | exact and_f2 (and_f2 (and_f2 c4))); exact ⟨by unfold rUser; rw [hok]; rfl, by unfold oUser; rw [and_f1 hok]; exact hB.2⟩) dX4_user_35
