/-! HopMeet: what changes it (printed by wip/whole/m7.py) -/
set_option maxRecDepth 20000 in
theorem iiX3_change_3 : ∀ w ∈ wsX30, w ∈ wsX3_change := by decide +kernel
set_option maxRecDepth 20000 in
theorem iiX3_change_2 : ∀ w ∈ wsX20, w ∈ wsX3_change := by decide +kernel
set_option maxRecDepth 20000 in
theorem iiX3_change_1 : ∀ w ∈ wsX10, w ∈ wsX3_change := by decide +kernel
set_option maxRecDepth 20000 in
theorem iiX3_change_0 : ∀ w ∈ wsX00, w ∈ wsX3_change := by decide +kernel
set_option maxHeartbeats 4000000 in
set_option maxRecDepth 100000 in
/-- a change of a user -/
theorem c_X3_change (l : Launch) (G : va_G) (t : gT) (b : Nat) (z : Nat → Int32) (gr : Nat → Nat) (sl bc : Nat) (bk : Nat → Nat → Int32) (kp : Nat → Bool) (im : Nat → Nat → Int32) (hz : WF z) (hbc : bc ≤ 12) (k i : Nat) (v : Int32) (hk0 : k < cu z) (hi0 : i < 5) : Met l yX3_change wsX3_change ({ frames := 3, cells := 0, slots := 0, locals := 73 } : Room) (pc_ [.ref b, .int (nI k), .int (nI i), .int v] (fun U H => KK G t U ∧ PX G t b (z, gr, sl, bc, bk, kp, im) H)) (qi_ (fun r H => r = z (3 + 5 * k + i) ∧ PX G t b (zSet z k i v, idN, 0, inc12 bc, push bk z, kp, im) H) (iv b (b + 251))) 0 0 (iv b (b + 251)) := by
  refine Met.ofW (cc := cX3_change) (maxL := 5) (ret := (some .int)) (by decide) rfl ?_
  intro p e s m args below meth c s₁ B hml hv
  obtain ⟨rfl, hB⟩ := hv
  have hx := B.exec
  have hb := B.bytes
  have hr := B.returns
  have hts := atoms_spec (ws := wsX3_change) B.pre
  have hown : s.vm.findClass RX3 = some m.cls := findClass_of_methodNamed B.named
  have hlocks := B.notSynchronized
  have hK := hB.1
  obtain ⟨x0, x1, x2, ⟨x3, jm, x4, x5⟩, x6, x7, x8, x9, x10⟩ := hB.2
  have y0 := Sc_obj x1
  have y1 := (Sc_rows x1).1
  obtain ⟨fo, fl, f2, g0, g1, g2, g3, g4⟩ := id x7
  obtain ⟨nx, p0⟩ := Pa_obj x2
  have hn := hz.n
  have hu5 := hz.u5
  have hs8 := hz.s8
  have hS : va_S (iv b (b + 251)) s.heap s.heap [] := va_S.rf
  have hl := lv_entry ([.ref b, .int (nI k), .int (nI i), .int v]) (n := 5) (Nat.le_of_ble_eq_true rfl)
  rw [lg_entry_eq]
  generalize (lg_sl ([.ref b, .int (nI k), .int (nI i), .int v]) ++ List.replicate (5 - (lg_sl ([.ref b, .int (nI k), .int (nI i), .int v])).length) Slot.unset).toArray = ls at hl ⊢
  have hl : lv_has ls 5 [(0, .ref b), (1, .int (nI k)), (2, .int (nI i)), (3, .int v)] := hl
  refine lv_aload_n hx hb dX3_change_0 rfl (lv_at hl 0 rfl) ?_
  refine r_get (C := RX3) (T := TX3) (N := 8) hx hb hts iiX3_change_3 hown hK x0 rfl 1 (by decide) (hts (.fieldLink RX3 19 "HopMeet" "past" "LHopMeet$Past;") (List.mem_of_getElem? (i := 1) rfl)) rfl dX3_change_1 ?_
  refine lv_aload_n hx hb dX3_change_4 rfl (lv_at hl 0 rfl) ?_
  refine r_get (C := RX3) (T := TX3) (N := 8) hx hb hts iiX3_change_3 hown hK x0 rfl 0 (by decide) (hts (.fieldLink RX3 10 "HopMeet" "now" "LHopMeet$Scene;") (List.mem_of_getElem? (i := 2) rfl)) rfl dX3_change_5 ?_
  refine r_mV (av := [.ref (b + 1)]) (c_X1_remember l G t (b + 17) bc bk (b + 1) z hz hbc (Or.inl (by omega))) ⟨hx, hb, hml, hown, hts⟩ (cwV 1 hts gX3_change_X1_remember rfl rfl rfl (by decide +kernel) ⟨Nat.le_of_ble_eq_true rfl, Nat.le_of_ble_eq_true rfl⟩) mv_K ⟨hK, x2, x1⟩ (at_recv hK p0 rfl) rfl hl (Nat.le_of_ble_eq_true rfl) ⟨Nat.le_of_ble_eq_true rfl, Nat.le_of_ble_eq_true rfl⟩ rfl dX3_change_8 hS (iv_sub (by omega) (by omega)) (fun H locs hP hz9 hk hS => ?_)
  have x0 := at_keptA x0 hk (iv_no (by omega))
  have y0 := at_keptA y0 hk (iv_no (by omega))
  have y1 := at_keptA y1 hk (iv_no (by omega))
  have g0 := at_keptA g0 hk (iv_no (by omega))
  have g1 := at_keptA g1 hk (iv_no (by omega))
  have x6 := at_keptA x6 hk (iv_no (by omega))
  have x3 := at_keptA x3 hk (iv_no (by omega))
  have x1 := Sc_keptA x1 hk (fun q h8 h9 => iv_no (by omega))
  have x2 := hP
  have x4 := fun i hi => Sc_keptA (x4 i hi) hk (fun q h8 h9 => iv_no (by omega))
  have x7 := Gp_keptA x7 hk (fun q h8 h9 => iv_no (by omega))
  have x8 := ex_keptA x8 hk (iv_no (by omega))
  have x9 := ex_keptA x9 hk (iv_no (by omega))
  have x10 := ex_keptA x10 hk (iv_no (by omega))
  obtain ⟨fU, fS, h0, h1, h2, h4, h5, h6, h7⟩ := x1
  have hrw := h2 k (by omega)
  have h2 : ∀ i, i < 5 → i ≠ k → at_ G (b + 1 + 2 + i) (aI t 5 (fU i)) H := fun i hi _ => h2 i hi
  refine lv_aload_n hx hb dX3_change_11 rfl (lv_at hl 0 rfl) ?_
  refine r_get (C := RX3) (T := TX3) (N := 8) hx hb hts iiX3_change_3 hown hK x0 rfl 0 (by decide) (hts (.fieldLink RX3 10 "HopMeet" "now" "LHopMeet$Scene;") (List.mem_of_getElem? (i := 2) rfl)) rfl dX3_change_12 ?_
  refine r_get (C := RX2) (T := TX2) (N := 6) hx hb hts iiX3_change_2 hown hK h0 rfl 4 (by decide) (hts (.fieldLink RX3 128 "HopMeet$Scene" "users" "[[I") (List.mem_of_getElem? (i := 3) rfl)) rfl dX3_change_15 ?_
  refine lv_iload_n hx hb dX3_change_18 rfl (lv_at hl 1 rfl) ?_
  refine r_rald hx hb hK h1 1 rfl rfl k (by omega) (by decide) (b := b + 1 + 2 + k) (rowsF_at (by omega)) dX3_change_19 ?_
  refine lv_iload_n hx hb dX3_change_20 rfl (lv_at hl 2 rfl) ?_
  refine r_iald hx hb hK hrw rfl i (by omega) (by decide) (v := z (3 + 5 * k + i)) (h6 k hk0 i hi0) dX3_change_21 ?_
  refine lv_istore (lv' := [(4, .int (z (3 + 5 * k + i))), (0, .ref b), (1, .int (nI k)), (2, .int (nI i)), (3, .int v)]) hx hb dX3_change_22 hl (by decide) rfl (fun ls hl => ?_)
  refine lv_aload_n hx hb dX3_change_24 rfl (lv_at hl 1 rfl) ?_
  refine r_get (C := RX3) (T := TX3) (N := 8) hx hb hts iiX3_change_3 hown hK x0 rfl 0 (by decide) (hts (.fieldLink RX3 10 "HopMeet" "now" "LHopMeet$Scene;") (List.mem_of_getElem? (i := 2) rfl)) rfl dX3_change_25 ?_
  refine r_get (C := RX2) (T := TX2) (N := 6) hx hb hts iiX3_change_2 hown hK h0 rfl 4 (by decide) (hts (.fieldLink RX3 128 "HopMeet$Scene" "users" "[[I") (List.mem_of_getElem? (i := 3) rfl)) rfl dX3_change_28 ?_
  refine lv_iload_n hx hb dX3_change_31 rfl (lv_at hl 2 rfl) ?_
  refine r_rald hx hb hK h1 1 rfl rfl k (by omega) (by decide) (b := b + 1 + 2 + k) (rowsF_at (by omega)) dX3_change_32 ?_
  refine lv_iload_n hx hb dX3_change_33 rfl (lv_at hl 3 rfl) ?_
  refine lv_iload_n hx hb dX3_change_34 rfl (lv_at hl 4 rfl) ?_
  refine r_iast hx hb hK hrw ⟨by omega, by omega⟩ hS rfl i (by omega) (by decide) dX3_change_35 (fun H locs hrw hz9 hq hS => ?_)
  have x0 := at_kept x0 (hq _ (by omega))
  have h0 := at_kept h0 (hq _ (by omega))
  have h1 := at_kept h1 (hq _ (by omega))
  have g0 := at_kept g0 (hq _ (by omega))
  have g1 := at_kept g1 (hq _ (by omega))
  have x6 := at_kept x6 (hq _ (by omega))
  have x3 := at_kept x3 (hq _ (by omega))
  have h4 := at_kept h4 (hq _ (by omega))
  have x2 := Pa_kept x2 (fun q h8 h9 => hq q (by omega))
  have x4 := fun i hi => Sc_kept (x4 i hi) (fun q h8 h9 => hq q (by omega))
  have x7 := Gp_kept x7 (fun q h8 h9 => hq q (by omega))
  have x8 := ex_kept x8 (hq _ (by omega))
  have x9 := ex_kept x9 (hq _ (by omega))
  have x10 := ex_kept x10 (hq _ (by omega))
  have h2 := fun i hi hne => at_kept (h2 i hi hne) (hq _ (by omega))
  have h5 := fun i hi => at_kept (h5 i hi) (hq _ (by omega))
  have x1 : Sc G t (b + 1) (zSet z k i v) H := Sc_mk zSet_n zSet_u zSet_s h0 h1 (rows_put hrw h2) h4 h5 (se_ext hi0 h6) (se_sp (by omega) hi0 h7)
  have y0 := h0
  refine lv_aload_n hx hb dX3_change_36 rfl (lv_at hl 1 rfl) ?_
  refine r_get (C := RX3) (T := TX3) (N := 8) hx hb hts iiX3_change_3 hown hK x0 rfl 4 (by decide) (hts (.fieldLink RX3 34 "HopMeet" "groups" "LHopMeet$Groups;") (List.mem_of_getElem? (i := 4) rfl)) rfl dX3_change_37 ?_
  refine lv_aload_n hx hb dX3_change_40 rfl (lv_at hl 1 rfl) ?_
  refine r_get (C := RX3) (T := TX3) (N := 8) hx hb hts iiX3_change_3 hown hK x0 rfl 0 (by decide) (hts (.fieldLink RX3 10 "HopMeet" "now" "LHopMeet$Scene;") (List.mem_of_getElem? (i := 2) rfl)) rfl dX3_change_41 ?_
  refine r_get (C := RX2) (T := TX2) (N := 6) hx hb hts iiX3_change_2 hown hK y0 rfl 2 (by decide) (hts (.fieldLink RX3 67 "HopMeet$Scene" "userCount" "I") (List.mem_of_getElem? (i := 5) rfl)) rfl dX3_change_44 ?_
  refine r_mV (av := [.int (nI (cu z))]) (c_X0_begin l G t (b + 245) gr sl (cu z) (cu z) (by omega)) ⟨hx, hb, hml, hown, hts⟩ (cwV 1 hts gX3_change_X0_begin rfl rfl rfl (by decide +kernel) ⟨Nat.le_of_ble_eq_true rfl, Nat.le_of_ble_eq_true rfl⟩) mv_K ⟨hK, x7⟩ (at_recv hK g0 rfl) rfl hl (Nat.le_of_ble_eq_true rfl) ⟨Nat.le_of_ble_eq_true rfl, Nat.le_of_ble_eq_true rfl⟩ rfl dX3_change_47 hS (iv_sub (by omega) (by omega)) (fun H locs hP hz9 hk hS => ?_)
  have x0 := at_keptA x0 hk (iv_no (by omega))
  have y0 := at_keptA y0 hk (iv_no (by omega))
  have x6 := at_keptA x6 hk (iv_no (by omega))
  have x3 := at_keptA x3 hk (iv_no (by omega))
  have x1 := Sc_keptA x1 hk (fun q h8 h9 => iv_no (by omega))
  have x2 := Pa_keptA x2 hk (fun q h8 h9 => iv_no (by omega))
  have x4 := fun i hi => Sc_keptA (x4 i hi) hk (fun q h8 h9 => iv_no (by omega))
  have x7 := hP
  have x8 := ex_keptA x8 hk (iv_no (by omega))
  have x9 := ex_keptA x9 hk (iv_no (by omega))
  have x10 := ex_keptA x10 hk (iv_no (by omega))
  refine lv_iload hx hb dX3_change_50 (lv_at hl 0 rfl) ?_
  exact r_retI (v := z (3 + 5 * k + i)) hx hb hr hlocks hS ⟨rfl, PX_mk x0 x1 x2 x3 x4 x5 x6 (by rw [zSet_u]; exact x7) x8 x9 x10⟩ dX3_change_52

set_option maxRecDepth 20000 in
theorem iiX3_channels_3 : ∀ w ∈ wsX30, w ∈ wsX3_channels := by decide +kernel
set_option maxRecDepth 20000 in
theorem iiX3_channels_2 : ∀ w ∈ wsX20, w ∈ wsX3_channels := by decide +kernel
set_option maxRecDepth 20000 in
theorem iiX3_channels_1 : ∀ w ∈ wsX10, w ∈ wsX3_channels := by decide +kernel
set_option maxRecDepth 20000 in
theorem iiX3_channels_0 : ∀ w ∈ wsX00, w ∈ wsX3_channels := by decide +kernel
set_option maxHeartbeats 4000000 in
set_option maxRecDepth 100000 in
/-- so many channels -/
theorem c_X3_channels (l : Launch) (G : va_G) (t : gT) (b : Nat) (z : Nat → Int32) (gr : Nat → Nat) (sl bc : Nat) (bk : Nat → Nat → Int32) (kp : Nat → Bool) (im : Nat → Nat → Int32) (hz : WF z) (n : Int32) : Met l yX3_channels wsX3_channels ({ frames := 3, cells := 0, slots := 0, locals := 63 } : Room) (pc_ [.ref b, .int n] (fun U H => KK G t U ∧ PX G t b (z, gr, sl, bc, bk, kp, im) H)) (qi_ (fun r H => r = rChannels n ∧ PX G t b (oChannels n z gr sl bc bk kp im) H) (iv b (b + 251))) 0 0 (iv b (b + 251)) := by
  refine Met.ofW (cc := cX3_channels) (maxL := 2) (ret := (some .int)) (by decide) rfl ?_
  intro p e s m args below meth c s₁ B hml hv
  obtain ⟨rfl, hB⟩ := hv
  have hx := B.exec
  have hb := B.bytes
  have hr := B.returns
  have hts := atoms_spec (ws := wsX3_channels) B.pre
  have hown : s.vm.findClass RX3 = some m.cls := findClass_of_methodNamed B.named
  have hlocks := B.notSynchronized
  have hK := hB.1
  obtain ⟨x0, x1, x2, ⟨x3, jm, x4, x5⟩, x6, x7, x8, x9, x10⟩ := hB.2
  have y0 := Sc_obj x1
  have y1 := (Sc_rows x1).1
  obtain ⟨fo, fl, f2, g0, g1, g2, g3, g4⟩ := id x7
  obtain ⟨nx, p0⟩ := Pa_obj x2
  have hn := hz.n
  have hu5 := hz.u5
  have hs8 := hz.s8
  have hS : va_S (iv b (b + 251)) s.heap s.heap [] := va_S.rf
  have hl := lv_entry ([.ref b, .int n]) (n := 2) (Nat.le_of_ble_eq_true rfl)
  rw [lg_entry_eq]
  generalize (lg_sl ([.ref b, .int n]) ++ List.replicate (2 - (lg_sl ([.ref b, .int n])).length) Slot.unset).toArray = ls at hl ⊢
  have hl : lv_has ls 2 [(0, .ref b), (1, .int n)] := hl
  refine lv_iload_n hx hb dX3_channels_0 rfl (lv_at hl 1 rfl) ?_
  refine lv_iconst (v := nI 2) hx hb dX3_channels_1 (by decide) ?_
  refine lv_icmp_lt (tgt := 11) hx hb dX3_channels_2 (by decide) (fun c1 => ?_) (fun c1 => ?_)
  · refine lv_ldc (v := (-1000000002)) hx hb hown (hts (.constant RX3 48 (-1000000002)) (List.mem_of_getElem? (i := 1) rfl)) dX3_channels_11 ?_
    exact r_retI (v := (-1000000002)) hx hb hr hlocks hS (by have c3 : inB n (nI 2) (nI 10) = false := (by first | exact in_f1 c1 | exact in_f3 c2); exact ⟨by unfold rChannels; rw [c3]; rfl, by unfold oChannels; rw [c3]; exact hB.2⟩) dX3_channels_13
  · refine lv_iload_n hx hb dX3_channels_5 rfl (lv_at hl 1 rfl) ?_
    refine lv_bipush (v := nI 10) hx hb dX3_channels_6 (by decide) ?_
    refine lv_icmp_le (tgt := 14) hx hb dX3_channels_8 (by decide) (fun c2 => ?_) (fun c2 => ?_)
    · have c3 := in_t2 c1 c2
      obtain ⟨j, ja, jb, ej⟩ := in_of (by decide) (by decide) c3
      have ejc : cl n = j := by rw [ej]; exact cl_N (by omega)
      refine lv_aload_n hx hb dX3_channels_14 rfl (lv_at hl 0 rfl) ?_
      refine r_get (C := RX3) (T := TX3) (N := 8) hx hb hts iiX3_channels_3 hown hK x0 rfl 0 (by decide) (hts (.fieldLink RX3 10 "HopMeet" "now" "LHopMeet$Scene;") (List.mem_of_getElem? (i := 2) rfl)) rfl dX3_channels_15 ?_
      refine lv_iload_n hx hb dX3_channels_18 rfl (lv_at hl 1 rfl) ?_
      refine r_top (y := nI j) ej ?_
      refine r_mV (av := [.int (nI j)]) (c_X2_clear l G t (b + 1) j (zClear j z) (by omega) (by omega) (zClear_n (by omega)) zClear_u zClear_s) ⟨hx, hb, hml, hown, hts⟩ (cwV 1 hts gX3_channels_X2_clear rfl rfl rfl (by decide +kernel) ⟨Nat.le_of_ble_eq_true rfl, Nat.le_of_ble_eq_true rfl⟩) mv_K ⟨hK, Sc_Sy x1⟩ (at_recv hK y0 rfl) rfl hl (Nat.le_of_ble_eq_true rfl) ⟨Nat.le_of_ble_eq_true rfl, Nat.le_of_ble_eq_true rfl⟩ rfl dX3_channels_19 hS (iv_sub (by omega) (by omega)) (fun H locs hP hz9 hk hS => ?_)
      have x0 := at_keptA x0 hk (iv_no (by omega))
      have g0 := at_keptA g0 hk (iv_no (by omega))
      have g1 := at_keptA g1 hk (iv_no (by omega))
      have p0 := at_keptA p0 hk (iv_no (by omega))
      have x6 := at_keptA x6 hk (iv_no (by omega))
      have x3 := at_keptA x3 hk (iv_no (by omega))
      have x1 := hP
      have x2 := Pa_keptA x2 hk (fun q h8 h9 => iv_no (by omega))
      have x4 := fun i hi => Sc_keptA (x4 i hi) hk (fun q h8 h9 => iv_no (by omega))
      have x7 := Gp_keptA x7 hk (fun q h8 h9 => iv_no (by omega))
      have x8 := ex_keptA x8 hk (iv_no (by omega))
      have x9 := ex_keptA x9 hk (iv_no (by omega))
      have x10 := ex_keptA x10 hk (iv_no (by omega))
      have y0 : at_ G (b + 1) (.inr (2, [.int (nI j), .int (nI (prN j)), .int (nI 0), .int (nI 0), .ref (b + 1 + 1), .ref (b + 1 + 7)])) H := by
        have h9 := Sc_obj x1
        rw [zClear_n (by omega), zClear_u, zClear_s] at h9
        exact h9
      refine lv_aload_n hx hb dX3_channels_22 rfl (lv_at hl 0 rfl) ?_
      refine r_get (C := RX3) (T := TX3) (N := 8) hx hb hts iiX3_channels_3 hown hK x0 rfl 1 (by decide) (hts (.fieldLink RX3 19 "HopMeet" "past" "LHopMeet$Past;") (List.mem_of_getElem? (i := 3) rfl)) rfl dX3_channels_23 ?_
      refine r_mV (av := []) (c_X1_forget l G t (b + 17) bc bk) ⟨hx, hb, hml, hown, hts⟩ (cwV 0 hts gX3_channels_X1_forget rfl rfl rfl (by decide +kernel) ⟨Nat.le_of_ble_eq_true rfl, Nat.le_of_ble_eq_true rfl⟩) mv_K ⟨hK, x2⟩ (at_recv hK p0 rfl) rfl hl (Nat.le_of_ble_eq_true rfl) ⟨Nat.le_of_ble_eq_true rfl, Nat.le_of_ble_eq_true rfl⟩ rfl dX3_channels_26 hS (iv_sub (by omega) (by omega)) (fun H locs hP hz9 hk hS => ?_)
      have x0 := at_keptA x0 hk (iv_no (by omega))
      have g0 := at_keptA g0 hk (iv_no (by omega))
      have g1 := at_keptA g1 hk (iv_no (by omega))
      have x6 := at_keptA x6 hk (iv_no (by omega))
      have x3 := at_keptA x3 hk (iv_no (by omega))
      have y0 := at_keptA y0 hk (iv_no (by omega))
      have x1 := Sc_keptA x1 hk (fun q h8 h9 => iv_no (by omega))
      have x2 := (hP bk)
      have x4 := fun i hi => Sc_keptA (x4 i hi) hk (fun q h8 h9 => iv_no (by omega))
      have x7 := Gp_keptA x7 hk (fun q h8 h9 => iv_no (by omega))
      have x8 := ex_keptA x8 hk (iv_no (by omega))
      have x9 := ex_keptA x9 hk (iv_no (by omega))
      have x10 := ex_keptA x10 hk (iv_no (by omega))
      refine lv_aload_n hx hb dX3_channels_29 rfl (lv_at hl 0 rfl) ?_
      refine r_get (C := RX3) (T := TX3) (N := 8) hx hb hts iiX3_channels_3 hown hK x0 rfl 4 (by decide) (hts (.fieldLink RX3 34 "HopMeet" "groups" "LHopMeet$Groups;") (List.mem_of_getElem? (i := 4) rfl)) rfl dX3_channels_30 ?_
      refine lv_iconst (v := nI 0) hx hb dX3_channels_33 (by decide) ?_
      refine r_mV (av := [.int (nI 0)]) (c_X0_begin l G t (b + 245) gr sl (cu z) 0 (by omega)) ⟨hx, hb, hml, hown, hts⟩ (cwV 1 hts gX3_channels_X0_begin rfl rfl rfl (by decide +kernel) ⟨Nat.le_of_ble_eq_true rfl, Nat.le_of_ble_eq_true rfl⟩) mv_K ⟨hK, x7⟩ (at_recv hK g0 rfl) rfl hl (Nat.le_of_ble_eq_true rfl) ⟨Nat.le_of_ble_eq_true rfl, Nat.le_of_ble_eq_true rfl⟩ rfl dX3_channels_34 hS (iv_sub (by omega) (by omega)) (fun H locs hP hz9 hk hS => ?_)
      have x0 := at_keptA x0 hk (iv_no (by omega))
      have x6 := at_keptA x6 hk (iv_no (by omega))
      have x3 := at_keptA x3 hk (iv_no (by omega))
      have y0 := at_keptA y0 hk (iv_no (by omega))
      have x1 := Sc_keptA x1 hk (fun q h8 h9 => iv_no (by omega))
      have x2 := Pa_keptA x2 hk (fun q h8 h9 => iv_no (by omega))
      have x4 := fun i hi => Sc_keptA (x4 i hi) hk (fun q h8 h9 => iv_no (by omega))
      have x7 := hP
      have x8 := ex_keptA x8 hk (iv_no (by omega))
      have x9 := ex_keptA x9 hk (iv_no (by omega))
      have x10 := ex_keptA x10 hk (iv_no (by omega))
      refine lv_aload_n hx hb dX3_channels_37 rfl (lv_at hl 0 rfl) ?_
      refine r_get (C := RX3) (T := TX3) (N := 8) hx hb hts iiX3_channels_3 hown hK x0 rfl 0 (by decide) (hts (.fieldLink RX3 10 "HopMeet" "now" "LHopMeet$Scene;") (List.mem_of_getElem? (i := 2) rfl)) rfl dX3_channels_38 ?_
      refine r_get (C := RX2) (T := TX2) (N := 6) hx hb hts iiX3_channels_2 hown hK y0 rfl 1 (by decide) (hts (.fieldLink RX3 59 "HopMeet$Scene" "prime" "I") (List.mem_of_getElem? (i := 5) rfl)) rfl dX3_channels_41 ?_
      exact r_retI (v := nI (prN (j))) hx hb hr hlocks hS ⟨by unfold rChannels; rw [c3, ejc]; rfl, by unfold oChannels; rw [c3, ejc]; exact PX_mk x0 x1 x2 x3 x4 x5 x6 (by rw [zClear_u]; exact x7) x8 x9 x10⟩ dX3_channels_44
    · refine lv_ldc (v := (-1000000002)) hx hb hown (hts (.constant RX3 48 (-1000000002)) (List.mem_of_getElem? (i := 1) rfl)) dX3_channels_11 ?_
      exact r_retI (v := (-1000000002)) hx hb hr hlocks hS (by have c3 : inB n (nI 2) (nI 10) = false := (by first | exact in_f1 c1 | exact in_f3 c2); exact ⟨by unfold rChannels; rw [c3]; rfl, by unfold oChannels; rw [c3]; exact hB.2⟩) dX3_channels_13

set_option maxRecDepth 20000 in
theorem iiX3_user_3 : ∀ w ∈ wsX30, w ∈ wsX3_user := by decide +kernel
set_option maxRecDepth 20000 in
theorem iiX3_user_2 : ∀ w ∈ wsX20, w ∈ wsX3_user := by decide +kernel
set_option maxRecDepth 20000 in
theorem iiX3_user_1 : ∀ w ∈ wsX10, w ∈ wsX3_user := by decide +kernel
set_option maxRecDepth 20000 in
theorem iiX3_user_0 : ∀ w ∈ wsX00, w ∈ wsX3_user := by decide +kernel
set_option maxHeartbeats 4000000 in
set_option maxRecDepth 100000 in
/-- a user more -/
theorem c_X3_user (l : Launch) (G : va_G) (t : gT) (b : Nat) (z : Nat → Int32) (gr : Nat → Nat) (sl bc : Nat) (bk : Nat → Nat → Int32) (kp : Nat → Bool) (im : Nat → Nat → Int32) (hz : WF z) (hbc : bc ≤ 12) (b0 : Nat) (r x y w : Int32) : Met l yX3_user wsX3_user ({ frames := 3, cells := 0, slots := 0, locals := 73 } : Room) (pc_ [.ref b, .int r, .int x, .int y, .int w] (fun U H => KK G t U ∧ (ZS b0 U H ∧ PX G t b (z, gr, sl, bc, bk, kp, im) H))) (qi_ (fun ans H => ans = rUser r x y w z ∧ PX G t b (oUser r x y w z gr sl bc bk kp im) H) (iv b (b + 251))) 0 0 (iv b (b + 251)) := by
  refine Met.ofW (cc := cX3_user) (maxL := 5) (ret := (some .int)) (by decide) rfl ?_
  intro p e s m args below meth c s₁ B hml hv
  obtain ⟨rfl, hB⟩ := hv
  have hx := B.exec
  have hb := B.bytes
  have hr := B.returns
  have hts := atoms_spec (ws := wsX3_user) B.pre
  have hown : s.vm.findClass RX3 = some m.cls := findClass_of_methodNamed B.named
  have hlocks := B.notSynchronized
  have hZ := hB.2.1
  have hB : KK G t s ∧ PX G t b (z, gr, sl, bc, bk, kp, im) s.heap := ⟨hB.1, hB.2.2⟩
  have hK := hB.1
  obtain ⟨x0, x1, x2, ⟨x3, jm, x4, x5⟩, x6, x7, x8, x9, x10⟩ := hB.2
  have y0 := Sc_obj x1
  have y1 := (Sc_rows x1).1
  obtain ⟨fo, fl, f2, g0, g1, g2, g3, g4⟩ := id x7
  obtain ⟨nx, p0⟩ := Pa_obj x2
  have hn := hz.n
  have hu5 := hz.u5
  have hs8 := hz.s8
  have hS : va_S (iv b (b + 251)) s.heap s.heap [] := va_S.rf
  have hl := lv_entry ([.ref b, .int r, .int x, .int y, .int w]) (n := 5) (Nat.le_of_ble_eq_true rfl)
  rw [lg_entry_eq]
  generalize (lg_sl ([.ref b, .int r, .int x, .int y, .int w]) ++ List.replicate (5 - (lg_sl ([.ref b, .int r, .int x, .int y, .int w])).length) Slot.unset).toArray = ls at hl ⊢
  have hl : lv_has ls 5 [(0, .ref b), (1, .int r), (2, .int x), (3, .int y), (4, .int w)] := hl
  refine lv_iconst (v := nI 0) hx hb dX3_user_0 (by decide) ?_
  refine lv_iload_n hx hb dX3_user_1 rfl (lv_at hl 1 rfl) ?_
  refine r_cS (av := [.int (nI 0), .int r]) (c_X3_mayHave l G t b0 (nI 0) r) ⟨hx, hb, hml, hown, hts⟩ (va_cwS 2 hts gX3_user_X3_mayHave rfl rfl rfl (by decide +kernel) ⟨Nat.le_of_ble_eq_true rfl, Nat.le_of_ble_eq_true rfl⟩) mv_KZ0 ⟨hK, hZ⟩ rfl hl (Nat.le_of_ble_eq_true rfl) ⟨Nat.le_of_ble_eq_true rfl, Nat.le_of_ble_eq_true rfl⟩ rfl dX3_user_2 (fun r1 hr1 => ?_)
  subst hr1
  refine r_ifeqB hx hb dX3_user_5 (tgt := 33) (by decide) (fun c1 => ?_) (fun c1 => ?_)
  · refine lv_ldc (v := (-1000000002)) hx hb hown (hts (.constant RX3 48 (-1000000002)) (List.mem_of_getElem? (i := 1) rfl)) dX3_user_33 ?_
    exact r_retI (v := (-1000000002)) hx hb hr hlocks hS (by have hok : okUser r x y w = false := (by first | exact okU_f0 c1 | exact okU_f1 c2 | exact okU_f2 c3 | exact okU_f3 c4); exact ⟨by unfold rUser; rw [hok]; rfl, by unfold oUser; rw [and_f1 hok]; exact hB.2⟩) dX3_user_35
  · refine lv_iconst (v := nI 1) hx hb dX3_user_8 (by decide) ?_
    refine lv_iload_n hx hb dX3_user_9 rfl (lv_at hl 2 rfl) ?_
    refine r_cS (av := [.int (nI 1), .int x]) (c_X3_mayHave l G t b0 (nI 1) x) ⟨hx, hb, hml, hown, hts⟩ (va_cwS 2 hts gX3_user_X3_mayHave rfl rfl rfl (by decide +kernel) ⟨Nat.le_of_ble_eq_true rfl, Nat.le_of_ble_eq_true rfl⟩) mv_KZ0 ⟨hK, hZ⟩ rfl hl (Nat.le_of_ble_eq_true rfl) ⟨Nat.le_of_ble_eq_true rfl, Nat.le_of_ble_eq_true rfl⟩ rfl dX3_user_10 (fun r2 hr2 => ?_)
    subst hr2
    refine r_ifeqB hx hb dX3_user_13 (tgt := 33) (by decide) (fun c2 => ?_) (fun c2 => ?_)
    · refine lv_ldc (v := (-1000000002)) hx hb hown (hts (.constant RX3 48 (-1000000002)) (List.mem_of_getElem? (i := 1) rfl)) dX3_user_33 ?_
      exact r_retI (v := (-1000000002)) hx hb hr hlocks hS (by have hok : okUser r x y w = false := (by first | exact okU_f0 c1 | exact okU_f1 c2 | exact okU_f2 c3 | exact okU_f3 c4); exact ⟨by unfold rUser; rw [hok]; rfl, by unfold oUser; rw [and_f1 hok]; exact hB.2⟩) dX3_user_35
    · refine lv_iconst (v := nI 2) hx hb dX3_user_16 (by decide) ?_
      refine lv_iload_n hx hb dX3_user_17 rfl (lv_at hl 3 rfl) ?_
      refine r_cS (av := [.int (nI 2), .int y]) (c_X3_mayHave l G t b0 (nI 2) y) ⟨hx, hb, hml, hown, hts⟩ (va_cwS 2 hts gX3_user_X3_mayHave rfl rfl rfl (by decide +kernel) ⟨Nat.le_of_ble_eq_true rfl, Nat.le_of_ble_eq_true rfl⟩) mv_KZ0 ⟨hK, hZ⟩ rfl hl (Nat.le_of_ble_eq_true rfl) ⟨Nat.le_of_ble_eq_true rfl, Nat.le_of_ble_eq_true rfl⟩ rfl dX3_user_18 (fun r3 hr3 => ?_)
      subst hr3
      refine r_ifeqB hx hb dX3_user_21 (tgt := 33) (by decide) (fun c3 => ?_) (fun c3 => ?_)
      · refine lv_ldc (v := (-1000000002)) hx hb hown (hts (.constant RX3 48 (-1000000002)) (List.mem_of_getElem? (i := 1) rfl)) dX3_user_33 ?_
        exact r_retI (v := (-1000000002)) hx hb hr hlocks hS (by have hok : okUser r x y w = false := (by first | exact okU_f0 c1 | exact okU_f1 c2 | exact okU_f2 c3 | exact okU_f3 c4); exact ⟨by unfold rUser; rw [hok]; rfl, by unfold oUser; rw [and_f1 hok]; exact hB.2⟩) dX3_user_35
      · refine lv_iconst (v := nI 3) hx hb dX3_user_24 (by decide) ?_
        refine lv_iload hx hb dX3_user_25 (lv_at hl 4 rfl) ?_
        refine r_cS (av := [.int (nI 3), .int w]) (c_X3_mayHave l G t b0 (nI 3) w) ⟨hx, hb, hml, hown, hts⟩ (va_cwS 2 hts gX3_user_X3_mayHave rfl rfl rfl (by decide +kernel) ⟨Nat.le_of_ble_eq_true rfl, Nat.le_of_ble_eq_true rfl⟩) mv_KZ0 ⟨hK, hZ⟩ rfl hl (Nat.le_of_ble_eq_true rfl) ⟨Nat.le_of_ble_eq_true rfl, Nat.le_of_ble_eq_true rfl⟩ rfl dX3_user_27 (fun r4 hr4 => ?_)
        subst hr4
        refine r_ifneB hx hb dX3_user_30 (tgt := 36) (by decide) (fun c4 => ?_) (fun c4 => ?_)
        · have hok := okU_t c1 c2 c3 c4
          refine lv_aload_n hx hb dX3_user_36 rfl (lv_at hl 0 rfl) ?_
          refine r_get (C := RX3) (T := TX3) (N := 8) hx hb hts iiX3_user_3 hown hK x0 rfl 0 (by decide) (hts (.fieldLink RX3 10 "HopMeet" "now" "LHopMeet$Scene;") (List.mem_of_getElem? (i := 2) rfl)) rfl dX3_user_37 ?_
          refine r_get (C := RX2) (T := TX2) (N := 6) hx hb hts iiX3_user_2 hown hK y0 rfl 2 (by decide) (hts (.fieldLink RX3 67 "HopMeet$Scene" "userCount" "I") (List.mem_of_getElem? (i := 3) rfl)) rfl dX3_user_40 ?_
          refine lv_iconst (v := nI 5) hx hb dX3_user_43 (by decide) ?_
          refine r_ltN hx hb (by omega) (by omega) dX3_user_44 (tgt := 50) (by decide) (fun c5 => ?_) (fun c5 => ?_)
          · refine lv_aload_n hx hb dX3_user_50 rfl (lv_at hl 0 rfl) ?_
            refine r_get (C := RX3) (T := TX3) (N := 8) hx hb hts iiX3_user_3 hown hK x0 rfl 1 (by decide) (hts (.fieldLink RX3 19 "HopMeet" "past" "LHopMeet$Past;") (List.mem_of_getElem? (i := 5) rfl)) rfl dX3_user_51 ?_
            refine lv_aload_n hx hb dX3_user_54 rfl (lv_at hl 0 rfl) ?_
            refine r_get (C := RX3) (T := TX3) (N := 8) hx hb hts iiX3_user_3 hown hK x0 rfl 0 (by decide) (hts (.fieldLink RX3 10 "HopMeet" "now" "LHopMeet$Scene;") (List.mem_of_getElem? (i := 2) rfl)) rfl dX3_user_55 ?_
            refine r_mV (av := [.ref (b + 1)]) (c_X1_remember l G t (b + 17) bc bk (b + 1) z hz hbc (Or.inl (by omega))) ⟨hx, hb, hml, hown, hts⟩ (cwV 1 hts gX3_user_X1_remember rfl rfl rfl (by decide +kernel) ⟨Nat.le_of_ble_eq_true rfl, Nat.le_of_ble_eq_true rfl⟩) mv_K ⟨hK, x2, x1⟩ (at_recv hK p0 rfl) rfl hl (Nat.le_of_ble_eq_true rfl) ⟨Nat.le_of_ble_eq_true rfl, Nat.le_of_ble_eq_true rfl⟩ rfl dX3_user_58 hS (iv_sub (by omega) (by omega)) (fun H locs hP hz9 hk hS => ?_)
            have x0 := at_keptA x0 hk (iv_no (by omega))
            have y0 := at_keptA y0 hk (iv_no (by omega))
            have y1 := at_keptA y1 hk (iv_no (by omega))
            have g0 := at_keptA g0 hk (iv_no (by omega))
            have g1 := at_keptA g1 hk (iv_no (by omega))
            have x6 := at_keptA x6 hk (iv_no (by omega))
            have x3 := at_keptA x3 hk (iv_no (by omega))
            have x1 := Sc_keptA x1 hk (fun q h8 h9 => iv_no (by omega))
            have x2 := hP
            have x4 := fun i hi => Sc_keptA (x4 i hi) hk (fun q h8 h9 => iv_no (by omega))
            have x7 := Gp_keptA x7 hk (fun q h8 h9 => iv_no (by omega))
            have x8 := ex_keptA x8 hk (iv_no (by omega))
            have x9 := ex_keptA x9 hk (iv_no (by omega))
            have x10 := ex_keptA x10 hk (iv_no (by omega))
            refine lv_aload_n hx hb dX3_user_61 rfl (lv_at hl 0 rfl) ?_
            refine r_get (C := RX3) (T := TX3) (N := 8) hx hb hts iiX3_user_3 hown hK x0 rfl 0 (by decide) (hts (.fieldLink RX3 10 "HopMeet" "now" "LHopMeet$Scene;") (List.mem_of_getElem? (i := 2) rfl)) rfl dX3_user_62 ?_
            refine lv_iload_n hx hb dX3_user_65 rfl (lv_at hl 1 rfl) ?_
            refine lv_iload_n hx hb dX3_user_66 rfl (lv_at hl 2 rfl) ?_
            refine lv_iload_n hx hb dX3_user_67 rfl (lv_at hl 3 rfl) ?_
            refine lv_iload hx hb dX3_user_68 (lv_at hl 4 rfl) ?_
            refine r_mV (av := [.int r, .int x, .int y, .int w]) (c_X2_addUser l G t (b + 1) z hz c5 r x y w) ⟨hx, hb, hml, hown, hts⟩ (cwV 4 hts gX3_user_X2_addUser rfl rfl rfl (by decide +kernel) ⟨Nat.le_of_ble_eq_true rfl, Nat.le_of_ble_eq_true rfl⟩) mv_K ⟨hK, x1⟩ (at_recv hK y0 rfl) rfl hl (Nat.le_of_ble_eq_true rfl) ⟨Nat.le_of_ble_eq_true rfl, Nat.le_of_ble_eq_true rfl⟩ rfl dX3_user_70 hS (iv_sub (by omega) (by omega)) (fun H locs hP hz9 hk hS => ?_)
            have x0 := at_keptA x0 hk (iv_no (by omega))
            have g0 := at_keptA g0 hk (iv_no (by omega))
            have g1 := at_keptA g1 hk (iv_no (by omega))
            have x6 := at_keptA x6 hk (iv_no (by omega))
            have x3 := at_keptA x3 hk (iv_no (by omega))
            have x1 := hP
            have x2 := Pa_keptA x2 hk (fun q h8 h9 => iv_no (by omega))
            have x4 := fun i hi => Sc_keptA (x4 i hi) hk (fun q h8 h9 => iv_no (by omega))
            have x7 := Gp_keptA x7 hk (fun q h8 h9 => iv_no (by omega))
            have x8 := ex_keptA x8 hk (iv_no (by omega))
            have x9 := ex_keptA x9 hk (iv_no (by omega))
            have x10 := ex_keptA x10 hk (iv_no (by omega))
            have y0 : at_ G (b + 1) (.inr (2, [.int (nI (cn z)), .int (nI (prN (cn z))), .int (nI (cu z + 1)), .int (nI (cs z)), .ref (b + 1 + 1), .ref (b + 1 + 7)])) H := by
              have h9 := Sc_obj x1
              rw [zUser_n, zUser_u c5, zUser_s] at h9
              exact h9
            refine lv_aload_n hx hb dX3_user_73 rfl (lv_at hl 0 rfl) ?_
            refine r_get (C := RX3) (T := TX3) (N := 8) hx hb hts iiX3_user_3 hown hK x0 rfl 4 (by decide) (hts (.fieldLink RX3 34 "HopMeet" "groups" "LHopMeet$Groups;") (List.mem_of_getElem? (i := 6) rfl)) rfl dX3_user_74 ?_
            refine lv_aload_n hx hb dX3_user_77 rfl (lv_at hl 0 rfl) ?_
            refine r_get (C := RX3) (T := TX3) (N := 8) hx hb hts iiX3_user_3 hown hK x0 rfl 0 (by decide) (hts (.fieldLink RX3 10 "HopMeet" "now" "LHopMeet$Scene;") (List.mem_of_getElem? (i := 2) rfl)) rfl dX3_user_78 ?_
            refine r_get (C := RX2) (T := TX2) (N := 6) hx hb hts iiX3_user_2 hown hK y0 rfl 2 (by decide) (hts (.fieldLink RX3 67 "HopMeet$Scene" "userCount" "I") (List.mem_of_getElem? (i := 3) rfl)) rfl dX3_user_81 ?_
            refine r_mV (av := [.int (nI (cu z + 1))]) (c_X0_begin l G t (b + 245) gr sl (cu z) (cu z + 1) (by omega)) ⟨hx, hb, hml, hown, hts⟩ (cwV 1 hts gX3_user_X0_begin rfl rfl rfl (by decide +kernel) ⟨Nat.le_of_ble_eq_true rfl, Nat.le_of_ble_eq_true rfl⟩) mv_K ⟨hK, x7⟩ (at_recv hK g0 rfl) rfl hl (Nat.le_of_ble_eq_true rfl) ⟨Nat.le_of_ble_eq_true rfl, Nat.le_of_ble_eq_true rfl⟩ rfl dX3_user_84 hS (iv_sub (by omega) (by omega)) (fun H locs hP hz9 hk hS => ?_)
            have x0 := at_keptA x0 hk (iv_no (by omega))
            have x6 := at_keptA x6 hk (iv_no (by omega))
            have x3 := at_keptA x3 hk (iv_no (by omega))
            have y0 := at_keptA y0 hk (iv_no (by omega))
            have x1 := Sc_keptA x1 hk (fun q h8 h9 => iv_no (by omega))
            have x2 := Pa_keptA x2 hk (fun q h8 h9 => iv_no (by omega))
            have x4 := fun i hi => Sc_keptA (x4 i hi) hk (fun q h8 h9 => iv_no (by omega))
            have x7 := hP
            have x8 := ex_keptA x8 hk (iv_no (by omega))
            have x9 := ex_keptA x9 hk (iv_no (by omega))
            have x10 := ex_keptA x10 hk (iv_no (by omega))
            refine lv_aload_n hx hb dX3_user_87 rfl (lv_at hl 0 rfl) ?_
            refine r_get (C := RX3) (T := TX3) (N := 8) hx hb hts iiX3_user_3 hown hK x0 rfl 0 (by decide) (hts (.fieldLink RX3 10 "HopMeet" "now" "LHopMeet$Scene;") (List.mem_of_getElem? (i := 2) rfl)) rfl dX3_user_88 ?_
            refine r_get (C := RX2) (T := TX2) (N := 6) hx hb hts iiX3_user_2 hown hK y0 rfl 2 (by decide) (hts (.fieldLink RX3 67 "HopMeet$Scene" "userCount" "I") (List.mem_of_getElem? (i := 3) rfl)) rfl dX3_user_91 ?_
            refine lv_iconst (v := nI 1) hx hb dX3_user_94 (by decide) ?_
            refine r_isubN hx hb (by omega) dX3_user_95 ?_
            exact r_retI (v := nI ((cu z + 1) - 1)) hx hb hr hlocks hS ⟨by unfold rUser; rw [hok, decide_eq_true c5]; rfl, by unfold oUser; rw [and_t hok (decide_eq_true c5)]; exact PX_mk x0 x1 x2 x3 x4 x5 x6 (by rw [zUser_u c5]; exact x7) x8 x9 x10⟩ dX3_user_96
          · refine lv_ldc (v := (-1000000004)) hx hb hown (hts (.constant RX3 70 (-1000000004)) (List.mem_of_getElem? (i := 4) rfl)) dX3_user_47 ?_
            exact r_retI (v := (-1000000004)) hx hb hr hlocks hS ⟨by unfold rUser; rw [hok, decide_eq_false (by omega)]; rfl, by unfold oUser; rw [and_f2 (decide_eq_false (by omega))]; exact hB.2⟩ dX3_user_49
        · refine lv_ldc (v := (-1000000002)) hx hb hown (hts (.constant RX3 48 (-1000000002)) (List.mem_of_getElem? (i := 1) rfl)) dX3_user_33 ?_
          exact r_retI (v := (-1000000002)) hx hb hr hlocks hS (by have hok : okUser r x y w = false := (by first | exact okU_f0 c1 | exact okU_f1 c2 | exact okU_f2 c3 | exact okU_f3 c4); exact ⟨by unfold rUser; rw [hok]; rfl, by unfold oUser; rw [and_f1 hok]; exact hB.2⟩) dX3_user_35

set_option maxRecDepth 20000 in
theorem iiX3_open_3 : ∀ w ∈ wsX30, w ∈ wsX3_open := by decide +kernel
set_option maxRecDepth 20000 in
theorem iiX3_open_2 : ∀ w ∈ wsX20, w ∈ wsX3_open := by decide +kernel
set_option maxRecDepth 20000 in
theorem iiX3_open_1 : ∀ w ∈ wsX10, w ∈ wsX3_open := by decide +kernel
set_option maxRecDepth 20000 in
theorem iiX3_open_0 : ∀ w ∈ wsX00, w ∈ wsX3_open := by decide +kernel
set_option maxHeartbeats 4000000 in
set_option maxRecDepth 100000 in
/-- which channels are open to a user -/
theorem c_X3_open (l : Launch) (G : va_G) (t : gT) (b : Nat) (z : Nat → Int32) (gr : Nat → Nat) (sl bc : Nat) (bk : Nat → Nat → Int32) (kp : Nat → Bool) (im : Nat → Nat → Int32) (hz : WF z) (hbc : bc ≤ 12) (u v : Int32) : Met l yX3_open wsX3_open ({ frames := 4, cells := 0, slots := 0, locals := 97 } : Room) (pc_ [.ref b, .int u, .int v] (fun U H => KK G t U ∧ PX G t b (z, gr, sl, bc, bk, kp, im) H)) (qi_ (fun r H => r = rOpen u v z ∧ PX G t b (oOpen u v z gr sl bc bk kp im) H) (iv b (b + 251))) 0 0 (iv b (b + 251)) := by
  refine Met.ofW (cc := cX3_open) (maxL := 3) (ret := (some .int)) (by decide) rfl ?_
  intro p e s m args below meth c s₁ B hml hv
  obtain ⟨rfl, hB⟩ := hv
  have hx := B.exec
  have hb := B.bytes
  have hr := B.returns
  have hts := atoms_spec (ws := wsX3_open) B.pre
  have hown : s.vm.findClass RX3 = some m.cls := findClass_of_methodNamed B.named
  have hlocks := B.notSynchronized
  have hK := hB.1
  obtain ⟨x0, x1, x2, ⟨x3, jm, x4, x5⟩, x6, x7, x8, x9, x10⟩ := hB.2
  have y0 := Sc_obj x1
  have y1 := (Sc_rows x1).1
  obtain ⟨fo, fl, f2, g0, g1, g2, g3, g4⟩ := id x7
  obtain ⟨nx, p0⟩ := Pa_obj x2
  have hn := hz.n
  have hu5 := hz.u5
  have hs8 := hz.s8
  have hpw := pow_le10 hn.2
  have hS : va_S (iv b (b + 251)) s.heap s.heap [] := va_S.rf
  have hl := lv_entry ([.ref b, .int u, .int v]) (n := 3) (Nat.le_of_ble_eq_true rfl)
  rw [lg_entry_eq]
  generalize (lg_sl ([.ref b, .int u, .int v]) ++ List.replicate (3 - (lg_sl ([.ref b, .int u, .int v])).length) Slot.unset).toArray = ls at hl ⊢
  have hl : lv_has ls 3 [(0, .ref b), (1, .int u), (2, .int v)] := hl
  refine lv_aload_n hx hb dX3_open_0 rfl (lv_at hl 0 rfl) ?_
  refine lv_iload_n hx hb dX3_open_1 rfl (lv_at hl 1 rfl) ?_
  refine r_cV (av := [.int u]) (c_X3_isUser l G t b z gr sl bc bk kp im hz u) ⟨hx, hb, hml, hown, hts⟩ (cwV 1 hts gX3_open_X3_isUser rfl rfl rfl (by decide +kernel) ⟨Nat.le_of_ble_eq_true rfl, Nat.le_of_ble_eq_true rfl⟩) mv_K hB (at_recv hK x0 rfl) rfl hl (Nat.le_of_ble_eq_true rfl) ⟨Nat.le_of_ble_eq_true rfl, Nat.le_of_ble_eq_true rfl⟩ rfl dX3_open_2 (fun r1 hr1 => ?_)
  subst hr1
  refine r_ifneB hx hb dX3_open_5 (tgt := 11) (by decide) (fun c1 => ?_) (fun c1 => ?_)
  · obtain ⟨k, hk, ek⟩ := usB_t hz c1
    have ekc : cl u = k := by rw [ek]; exact cl_N (by omega)
    refine lv_iload_n hx hb dX3_open_11 rfl (lv_at hl 2 rfl) ?_
    refine lv_if_lt (tgt := 26) hx hb dX3_open_12 (by decide) (fun c2 => ?_) (fun c2 => ?_)
    · refine lv_ldc (v := (-1000000002)) hx hb hown (hts (.constant RX3 48 (-1000000002)) (List.mem_of_getElem? (i := 3) rfl)) dX3_open_26 ?_
      exact r_retI (v := (-1000000002)) hx hb hr hlocks hS (by have c4 : inB v (nI 0) (nI (2 ^ cn z - 1)) = false := (by first | exact in_f1 (a := nI 0) c2 | exact in_f3 c3); exact ⟨by unfold rOpen; rw [c1, c4]; rfl, by unfold oOpen; rw [and_f2 c4]; exact hB.2⟩) dX3_open_28
    · refine lv_iload_n hx hb dX3_open_15 rfl (lv_at hl 2 rfl) ?_
      refine lv_aload_n hx hb dX3_open_16 rfl (lv_at hl 0 rfl) ?_
      refine r_get (C := RX3) (T := TX3) (N := 8) hx hb hts iiX3_open_3 hown hK x0 rfl 0 (by decide) (hts (.fieldLink RX3 10 "HopMeet" "now" "LHopMeet$Scene;") (List.mem_of_getElem? (i := 2) rfl)) rfl dX3_open_17 ?_
      refine r_cV (av := []) (c_X2_allChannels l G t (b + 1) z hz) ⟨hx, hb, hml, hown, hts⟩ (cwV 0 hts gX3_open_X2_allChannels rfl rfl rfl (by decide +kernel) ⟨Nat.le_of_ble_eq_true rfl, Nat.le_of_ble_eq_true rfl⟩) mv_K ⟨hK, x1⟩ (at_recv hK y0 rfl) rfl hl (Nat.le_of_ble_eq_true rfl) ⟨Nat.le_of_ble_eq_true rfl, Nat.le_of_ble_eq_true rfl⟩ rfl dX3_open_20 (fun r2 hr2 => ?_)
      subst hr2
      refine lv_icmp_le (tgt := 29) hx hb dX3_open_23 (by decide) (fun c3 => ?_) (fun c3 => ?_)
      · have c4 := in_t2 (a := nI 0) c2 c3
        refine lv_aload_n hx hb dX3_open_29 rfl (lv_at hl 0 rfl) ?_
        refine lv_iload_n hx hb dX3_open_30 rfl (lv_at hl 1 rfl) ?_
        refine r_top (y := nI k) ek ?_
        refine lv_iconst (v := nI 4) hx hb dX3_open_31 (by decide) ?_
        refine lv_iload_n hx hb dX3_open_32 rfl (lv_at hl 2 rfl) ?_
        refine r_mVi (av := [.int (nI k), .int (nI 4), .int v]) (c_X3_change l G t b z gr sl bc bk kp im hz hbc k 4 v hk (by omega)) ⟨hx, hb, hml, hown, hts⟩ (cwV 3 hts gX3_open_X3_change rfl rfl rfl (by decide +kernel) ⟨Nat.le_of_ble_eq_true rfl, Nat.le_of_ble_eq_true rfl⟩) mv_K hB (at_recv hK x0 rfl) rfl hl (Nat.le_of_ble_eq_true rfl) ⟨Nat.le_of_ble_eq_true rfl, Nat.le_of_ble_eq_true rfl⟩ rfl dX3_open_33 hS (fun q h => h) (fun r3 H locs hP hz9 hk hS => ?_)
        exact r_retI (v := r3) hx hb hr hlocks hS ⟨by unfold rOpen; rw [c1, c4, ekc]; exact hP.1, by unfold oOpen; rw [and_t c1 c4, ekc]; exact hP.2⟩ dX3_open_36
      · refine lv_ldc (v := (-1000000002)) hx hb hown (hts (.constant RX3 48 (-1000000002)) (List.mem_of_getElem? (i := 3) rfl)) dX3_open_26 ?_
        exact r_retI (v := (-1000000002)) hx hb hr hlocks hS (by have c4 : inB v (nI 0) (nI (2 ^ cn z - 1)) = false := (by first | exact in_f1 (a := nI 0) c2 | exact in_f3 c3); exact ⟨by unfold rOpen; rw [c1, c4]; rfl, by unfold oOpen; rw [and_f2 c4]; exact hB.2⟩) dX3_open_28
  · refine lv_ldc (v := (-1000000001)) hx hb hown (hts (.constant RX3 83 (-1000000001)) (List.mem_of_getElem? (i := 1) rfl)) dX3_open_8 ?_
    exact r_retI (v := (-1000000001)) hx hb hr hlocks hS ⟨by unfold rOpen; rw [c1]; rfl, by unfold oOpen; rw [and_f1 c1]; exact hB.2⟩ dX3_open_10

set_option maxRecDepth 20000 in
theorem iiX3_set_3 : ∀ w ∈ wsX30, w ∈ wsX3_set := by decide +kernel
set_option maxRecDepth 20000 in
theorem iiX3_set_2 : ∀ w ∈ wsX20, w ∈ wsX3_set := by decide +kernel
set_option maxRecDepth 20000 in
theorem iiX3_set_1 : ∀ w ∈ wsX10, w ∈ wsX3_set := by decide +kernel
set_option maxRecDepth 20000 in
theorem iiX3_set_0 : ∀ w ∈ wsX00, w ∈ wsX3_set := by decide +kernel
set_option maxHeartbeats 4000000 in
set_option maxRecDepth 100000 in
/-- what a user has becomes v -/
theorem c_X3_set (l : Launch) (G : va_G) (t : gT) (b : Nat) (z : Nat → Int32) (gr : Nat → Nat) (sl bc : Nat) (bk : Nat → Nat → Int32) (kp : Nat → Bool) (im : Nat → Nat → Int32) (hz : WF z) (hbc : bc ≤ 12) (b0 : Nat) (u w v : Int32) : Met l yX3_set wsX3_set ({ frames := 4, cells := 0, slots := 0, locals := 97 } : Room) (pc_ [.ref b, .int u, .int w, .int v] (fun U H => KK G t U ∧ (ZS b0 U H ∧ PX G t b (z, gr, sl, bc, bk, kp, im) H))) (qi_ (fun r H => r = rSet u w v z ∧ PX G t b (oSet u w v z gr sl bc bk kp im) H) (iv b (b + 251))) 0 0 (iv b (b + 251)) := by
  refine Met.ofW (cc := cX3_set) (maxL := 4) (ret := (some .int)) (by decide) rfl ?_
  intro p e s m args below meth c s₁ B hml hv
  obtain ⟨rfl, hB⟩ := hv
  have hx := B.exec
  have hb := B.bytes
  have hr := B.returns
  have hts := atoms_spec (ws := wsX3_set) B.pre
  have hown : s.vm.findClass RX3 = some m.cls := findClass_of_methodNamed B.named
  have hlocks := B.notSynchronized
  have hZ := hB.2.1
  have hB : KK G t s ∧ PX G t b (z, gr, sl, bc, bk, kp, im) s.heap := ⟨hB.1, hB.2.2⟩
  have hK := hB.1
  obtain ⟨x0, x1, x2, ⟨x3, jm, x4, x5⟩, x6, x7, x8, x9, x10⟩ := hB.2
  have y0 := Sc_obj x1
  have y1 := (Sc_rows x1).1
  obtain ⟨fo, fl, f2, g0, g1, g2, g3, g4⟩ := id x7
  obtain ⟨nx, p0⟩ := Pa_obj x2
  have hn := hz.n
  have hu5 := hz.u5
  have hs8 := hz.s8
  have hS : va_S (iv b (b + 251)) s.heap s.heap [] := va_S.rf
  have hl := lv_entry ([.ref b, .int u, .int w, .int v]) (n := 4) (Nat.le_of_ble_eq_true rfl)
  rw [lg_entry_eq]
  generalize (lg_sl ([.ref b, .int u, .int w, .int v]) ++ List.replicate (4 - (lg_sl ([.ref b, .int u, .int w, .int v])).length) Slot.unset).toArray = ls at hl ⊢
  have hl : lv_has ls 4 [(0, .ref b), (1, .int u), (2, .int w), (3, .int v)] := hl
  refine lv_aload_n hx hb dX3_set_0 rfl (lv_at hl 0 rfl) ?_
  refine lv_iload_n hx hb dX3_set_1 rfl (lv_at hl 1 rfl) ?_
  refine r_cV (av := [.int u]) (c_X3_isUser l G t b z gr sl bc bk kp im hz u) ⟨hx, hb, hml, hown, hts⟩ (cwV 1 hts gX3_set_X3_isUser rfl rfl rfl (by decide +kernel) ⟨Nat.le_of_ble_eq_true rfl, Nat.le_of_ble_eq_true rfl⟩) mv_K hB (at_recv hK x0 rfl) rfl hl (Nat.le_of_ble_eq_true rfl) ⟨Nat.le_of_ble_eq_true rfl, Nat.le_of_ble_eq_true rfl⟩ rfl dX3_set_2 (fun r1 hr1 => ?_)
  subst hr1
  refine r_ifneB hx hb dX3_set_5 (tgt := 11) (by decide) (fun c1 => ?_) (fun c1 => ?_)
  · obtain ⟨k, hk, ek⟩ := usB_t hz c1
    have ekc : cl u = k := by rw [ek]; exact cl_N (by omega)
    refine lv_iload_n hx hb dX3_set_11 rfl (lv_at hl 2 rfl) ?_
    refine lv_iload_n hx hb dX3_set_12 rfl (lv_at hl 3 rfl) ?_
    refine r_cS (av := [.int w, .int v]) (c_X3_mayHave l G t b0 w v) ⟨hx, hb, hml, hown, hts⟩ (va_cwS 2 hts gX3_set_X3_mayHave rfl rfl rfl (by decide +kernel) ⟨Nat.le_of_ble_eq_true rfl, Nat.le_of_ble_eq_true rfl⟩) mv_KZ0 ⟨hK, hZ⟩ rfl hl (Nat.le_of_ble_eq_true rfl) ⟨Nat.le_of_ble_eq_true rfl, Nat.le_of_ble_eq_true rfl⟩ rfl dX3_set_13 (fun r2 hr2 => ?_)
    subst hr2
    refine r_ifneB hx hb dX3_set_16 (tgt := 22) (by decide) (fun c2 => ?_) (fun c2 => ?_)
    · obtain ⟨i, ia, ib, ei⟩ := in_of (by decide) (by decide) (mh_w c2)
      have eic : cl w = i := by rw [ei]; exact cl_N (by omega)
      refine lv_aload_n hx hb dX3_set_22 rfl (lv_at hl 0 rfl) ?_
      refine lv_iload_n hx hb dX3_set_23 rfl (lv_at hl 1 rfl) ?_
      refine r_top (y := nI k) ek ?_
      refine lv_iload_n hx hb dX3_set_24 rfl (lv_at hl 2 rfl) ?_
      refine r_top (y := nI i) ei ?_
      refine lv_iload_n hx hb dX3_set_25 rfl (lv_at hl 3 rfl) ?_
      refine r_mVi (av := [.int (nI k), .int (nI i), .int v]) (c_X3_change l G t b z gr sl bc bk kp im hz hbc k i v hk (by omega)) ⟨hx, hb, hml, hown, hts⟩ (cwV 3 hts gX3_set_X3_change rfl rfl rfl (by decide +kernel) ⟨Nat.le_of_ble_eq_true rfl, Nat.le_of_ble_eq_true rfl⟩) mv_K hB (at_recv hK x0 rfl) rfl hl (Nat.le_of_ble_eq_true rfl) ⟨Nat.le_of_ble_eq_true rfl, Nat.le_of_ble_eq_true rfl⟩ rfl dX3_set_26 hS (fun q h => h) (fun r3 H locs hP hz9 hk hS => ?_)
      exact r_retI (v := r3) hx hb hr hlocks hS ⟨by unfold rSet; rw [c1, c2, ekc, eic]; exact hP.1, by unfold oSet; rw [and_t c1 c2, ekc, eic]; exact hP.2⟩ dX3_set_29
    · refine lv_ldc (v := (-1000000002)) hx hb hown (hts (.constant RX3 48 (-1000000002)) (List.mem_of_getElem? (i := 2) rfl)) dX3_set_19 ?_
      exact r_retI (v := (-1000000002)) hx hb hr hlocks hS ⟨by unfold rSet; rw [c1, c2]; rfl, by unfold oSet; rw [and_f2 c2]; exact hB.2⟩ dX3_set_21
  · refine lv_ldc (v := (-1000000001)) hx hb hown (hts (.constant RX3 83 (-1000000001)) (List.mem_of_getElem? (i := 1) rfl)) dX3_set_8 ?_
    exact r_retI (v := (-1000000001)) hx hb hr hlocks hS ⟨by unfold rSet; rw [c1]; rfl, by unfold oSet; rw [and_f1 c1]; exact hB.2⟩ dX3_set_10

set_option maxRecDepth 20000 in
theorem iiX3_shut_3 : ∀ w ∈ wsX30, w ∈ wsX3_shut := by decide +kernel
set_option maxRecDepth 20000 in
theorem iiX3_shut_2 : ∀ w ∈ wsX20, w ∈ wsX3_shut := by decide +kernel
set_option maxRecDepth 20000 in
theorem iiX3_shut_1 : ∀ w ∈ wsX10, w ∈ wsX3_shut := by decide +kernel
set_option maxRecDepth 20000 in
theorem iiX3_shut_0 : ∀ w ∈ wsX00, w ∈ wsX3_shut := by decide +kernel
set_option maxHeartbeats 4000000 in
set_option maxRecDepth 100000 in
/-- a channel is shut for a while -/
theorem c_X3_shut (l : Launch) (G : va_G) (t : gT) (b : Nat) (z : Nat → Int32) (gr : Nat → Nat) (sl bc : Nat) (bk : Nat → Nat → Int32) (kp : Nat → Bool) (im : Nat → Nat → Int32) (hz : WF z) (hbc : bc ≤ 12) (u ch x y : Int32) : Met l yX3_shut wsX3_shut ({ frames := 3, cells := 0, slots := 0, locals := 73 } : Room) (pc_ [.ref b, .int u, .int ch, .int x, .int y] (fun U H => KK G t U ∧ PX G t b (z, gr, sl, bc, bk, kp, im) H)) (qi_ (fun r H => r = rShut u ch x y z ∧ PX G t b (oShut u ch x y z gr sl bc bk kp im) H) (iv b (b + 251))) 0 0 (iv b (b + 251)) := by
  refine Met.ofW (cc := cX3_shut) (maxL := 5) (ret := (some .int)) (by decide) rfl ?_
  intro p e s m args below meth c s₁ B hml hv
  obtain ⟨rfl, hB⟩ := hv
  have hx := B.exec
  have hb := B.bytes
  have hr := B.returns
  have hts := atoms_spec (ws := wsX3_shut) B.pre
  have hown : s.vm.findClass RX3 = some m.cls := findClass_of_methodNamed B.named
  have hlocks := B.notSynchronized
  have hK := hB.1
  obtain ⟨x0, x1, x2, ⟨x3, jm, x4, x5⟩, x6, x7, x8, x9, x10⟩ := hB.2
  have y0 := Sc_obj x1
  have y1 := (Sc_rows x1).1
  obtain ⟨fo, fl, f2, g0, g1, g2, g3, g4⟩ := id x7
  obtain ⟨nx, p0⟩ := Pa_obj x2
  have hn := hz.n
  have hu5 := hz.u5
  have hs8 := hz.s8
  have hS : va_S (iv b (b + 251)) s.heap s.heap [] := va_S.rf
  have hl := lv_entry ([.ref b, .int u, .int ch, .int x, .int y]) (n := 5) (Nat.le_of_ble_eq_true rfl)
  rw [lg_entry_eq]
  generalize (lg_sl ([.ref b, .int u, .int ch, .int x, .int y]) ++ List.replicate (5 - (lg_sl ([.ref b, .int u, .int ch, .int x, .int y])).length) Slot.unset).toArray = ls at hl ⊢
  have hl : lv_has ls 5 [(0, .ref b), (1, .int u), (2, .int ch), (3, .int x), (4, .int y)] := hl
  refine lv_iload_n hx hb dX3_shut_0 rfl (lv_at hl 1 rfl) ?_
  refine lv_iconst (v := (-1)) hx hb dX3_shut_1 (by decide) ?_
  refine lv_icmp_eq (tgt := 16) hx hb dX3_shut_2 (by decide) (fun c1 => ?_) (fun c1 => ?_)
  · have d1 : u = -1 ∨ usB z u = true := Or.inl c1
    refine lv_iload_n hx hb dX3_shut_16 rfl (lv_at hl 2 rfl) ?_
    refine lv_if_lt (tgt := 31) hx hb dX3_shut_17 (by decide) (fun c3 => ?_) (fun c3 => ?_)
    · refine lv_ldc (v := (-1000000001)) hx hb hown (hts (.constant RX3 83 (-1000000001)) (List.mem_of_getElem? (i := 1) rfl)) dX3_shut_31 ?_
      exact r_retI (v := (-1000000001)) hx hb hr hlocks hS (by have d2 : okShut u ch z = false := (by first | exact sh_f2 c3 | exact sh_f3 c4); exact ⟨by unfold rShut; rw [d2]; rfl, by unfold oShut; rw [and_f1 d2]; exact hB.2⟩) dX3_shut_33
    · refine lv_iload_n hx hb dX3_shut_20 rfl (lv_at hl 2 rfl) ?_
      refine lv_aload_n hx hb dX3_shut_21 rfl (lv_at hl 0 rfl) ?_
      refine r_get (C := RX3) (T := TX3) (N := 8) hx hb hts iiX3_shut_3 hown hK x0 rfl 0 (by decide) (hts (.fieldLink RX3 10 "HopMeet" "now" "LHopMeet$Scene;") (List.mem_of_getElem? (i := 2) rfl)) rfl dX3_shut_22 ?_
      refine r_get (C := RX2) (T := TX2) (N := 6) hx hb hts iiX3_shut_2 hown hK y0 rfl 0 (by decide) (hts (.fieldLink RX3 92 "HopMeet$Scene" "channelCount" "I") (List.mem_of_getElem? (i := 3) rfl)) rfl dX3_shut_25 ?_
      refine lv_icmp_lt (tgt := 34) hx hb dX3_shut_28 (by decide) (fun c4 => ?_) (fun c4 => ?_)
      · have d2 := sh_ok d1 c3 c4
        refine lv_iload_n hx hb dX3_shut_34 rfl (lv_at hl 3 rfl) ?_
        refine lv_if_lt (tgt := 59) hx hb dX3_shut_35 (by decide) (fun c5 => ?_) (fun c5 => ?_)
        · refine lv_ldc (v := (-1000000002)) hx hb hown (hts (.constant RX3 48 (-1000000002)) (List.mem_of_getElem? (i := 4) rfl)) dX3_shut_59 ?_
          exact r_retI (v := (-1000000002)) hx hb hr hlocks hS (by have d3 : okSpell x y = false := (by first | exact and_f1 (in_f1 (a := nI 0) c5) | exact and_f1 (in_f2 c6) | exact and_f2 (in_f1 c7) | exact and_f2 (in_f3 c8)); exact ⟨by unfold rShut; rw [d2, d3]; rfl, by unfold oShut; rw [and_f2 (and_f1 d3)]; exact hB.2⟩) dX3_shut_61
        · refine lv_iload_n hx hb dX3_shut_38 rfl (lv_at hl 3 rfl) ?_
          refine lv_sipush (v := nI 1500) hx hb dX3_shut_39 (by decide) ?_
          refine lv_icmp_gt (tgt := 59) hx hb dX3_shut_42 (by decide) (fun c6 => ?_) (fun c6 => ?_)
          · refine lv_ldc (v := (-1000000002)) hx hb hown (hts (.constant RX3 48 (-1000000002)) (List.mem_of_getElem? (i := 4) rfl)) dX3_shut_59 ?_
            exact r_retI (v := (-1000000002)) hx hb hr hlocks hS (by have d3 : okSpell x y = false := (by first | exact and_f1 (in_f1 (a := nI 0) c5) | exact and_f1 (in_f2 c6) | exact and_f2 (in_f1 c7) | exact and_f2 (in_f3 c8)); exact ⟨by unfold rShut; rw [d2, d3]; rfl, by unfold oShut; rw [and_f2 (and_f1 d3)]; exact hB.2⟩) dX3_shut_61
          · refine lv_iload hx hb dX3_shut_45 (lv_at hl 4 rfl) ?_
            refine lv_iconst (v := nI 1) hx hb dX3_shut_47 (by decide) ?_
            refine lv_icmp_lt (tgt := 59) hx hb dX3_shut_48 (by decide) (fun c7 => ?_) (fun c7 => ?_)
            · refine lv_ldc (v := (-1000000002)) hx hb hown (hts (.constant RX3 48 (-1000000002)) (List.mem_of_getElem? (i := 4) rfl)) dX3_shut_59 ?_
              exact r_retI (v := (-1000000002)) hx hb hr hlocks hS (by have d3 : okSpell x y = false := (by first | exact and_f1 (in_f1 (a := nI 0) c5) | exact and_f1 (in_f2 c6) | exact and_f2 (in_f1 c7) | exact and_f2 (in_f3 c8)); exact ⟨by unfold rShut; rw [d2, d3]; rfl, by unfold oShut; rw [and_f2 (and_f1 d3)]; exact hB.2⟩) dX3_shut_61
            · refine lv_iload hx hb dX3_shut_51 (lv_at hl 4 rfl) ?_
              refine lv_sipush (v := nI 500) hx hb dX3_shut_53 (by decide) ?_
              refine lv_icmp_le (tgt := 62) hx hb dX3_shut_56 (by decide) (fun c8 => ?_) (fun c8 => ?_)
              · have d3 : okSpell x y = true := and_t (in_t (a := nI 0) c5 c6) (in_t2 c7 c8)
                refine lv_aload_n hx hb dX3_shut_62 rfl (lv_at hl 0 rfl) ?_
                refine r_get (C := RX3) (T := TX3) (N := 8) hx hb hts iiX3_shut_3 hown hK x0 rfl 0 (by decide) (hts (.fieldLink RX3 10 "HopMeet" "now" "LHopMeet$Scene;") (List.mem_of_getElem? (i := 2) rfl)) rfl dX3_shut_63 ?_
                refine r_get (C := RX2) (T := TX2) (N := 6) hx hb hts iiX3_shut_2 hown hK y0 rfl 3 (by decide) (hts (.fieldLink RX3 95 "HopMeet$Scene" "spellCount" "I") (List.mem_of_getElem? (i := 5) rfl)) rfl dX3_shut_66 ?_
                refine lv_bipush (v := nI 8) hx hb dX3_shut_69 (by decide) ?_
                refine r_ltN hx hb (by omega) (by omega) dX3_shut_71 (tgt := 77) (by decide) (fun c9 => ?_) (fun c9 => ?_)
                · refine lv_aload_n hx hb dX3_shut_77 rfl (lv_at hl 0 rfl) ?_
                  refine r_get (C := RX3) (T := TX3) (N := 8) hx hb hts iiX3_shut_3 hown hK x0 rfl 1 (by decide) (hts (.fieldLink RX3 19 "HopMeet" "past" "LHopMeet$Past;") (List.mem_of_getElem? (i := 7) rfl)) rfl dX3_shut_78 ?_
                  refine lv_aload_n hx hb dX3_shut_81 rfl (lv_at hl 0 rfl) ?_
                  refine r_get (C := RX3) (T := TX3) (N := 8) hx hb hts iiX3_shut_3 hown hK x0 rfl 0 (by decide) (hts (.fieldLink RX3 10 "HopMeet" "now" "LHopMeet$Scene;") (List.mem_of_getElem? (i := 2) rfl)) rfl dX3_shut_82 ?_
                  refine r_mV (av := [.ref (b + 1)]) (c_X1_remember l G t (b + 17) bc bk (b + 1) z hz hbc (Or.inl (by omega))) ⟨hx, hb, hml, hown, hts⟩ (cwV 1 hts gX3_shut_X1_remember rfl rfl rfl (by decide +kernel) ⟨Nat.le_of_ble_eq_true rfl, Nat.le_of_ble_eq_true rfl⟩) mv_K ⟨hK, x2, x1⟩ (at_recv hK p0 rfl) rfl hl (Nat.le_of_ble_eq_true rfl) ⟨Nat.le_of_ble_eq_true rfl, Nat.le_of_ble_eq_true rfl⟩ rfl dX3_shut_85 hS (iv_sub (by omega) (by omega)) (fun H locs hP hz9 hk hS => ?_)
                  have x0 := at_keptA x0 hk (iv_no (by omega))
                  have y0 := at_keptA y0 hk (iv_no (by omega))
                  have y1 := at_keptA y1 hk (iv_no (by omega))
                  have g0 := at_keptA g0 hk (iv_no (by omega))
                  have g1 := at_keptA g1 hk (iv_no (by omega))
                  have x6 := at_keptA x6 hk (iv_no (by omega))
                  have x3 := at_keptA x3 hk (iv_no (by omega))
                  have x1 := Sc_keptA x1 hk (fun q h8 h9 => iv_no (by omega))
                  have x2 := hP
                  have x4 := fun i hi => Sc_keptA (x4 i hi) hk (fun q h8 h9 => iv_no (by omega))
                  have x7 := Gp_keptA x7 hk (fun q h8 h9 => iv_no (by omega))
                  have x8 := ex_keptA x8 hk (iv_no (by omega))
                  have x9 := ex_keptA x9 hk (iv_no (by omega))
                  have x10 := ex_keptA x10 hk (iv_no (by omega))
                  refine lv_aload_n hx hb dX3_shut_88 rfl (lv_at hl 0 rfl) ?_
                  refine r_get (C := RX3) (T := TX3) (N := 8) hx hb hts iiX3_shut_3 hown hK x0 rfl 0 (by decide) (hts (.fieldLink RX3 10 "HopMeet" "now" "LHopMeet$Scene;") (List.mem_of_getElem? (i := 2) rfl)) rfl dX3_shut_89 ?_
                  refine lv_iload_n hx hb dX3_shut_92 rfl (lv_at hl 1 rfl) ?_
                  refine lv_iload_n hx hb dX3_shut_93 rfl (lv_at hl 2 rfl) ?_
                  refine lv_iload_n hx hb dX3_shut_94 rfl (lv_at hl 3 rfl) ?_
                  refine lv_iload hx hb dX3_shut_95 (lv_at hl 4 rfl) ?_
                  refine r_mV (av := [.int u, .int ch, .int x, .int y]) (c_X2_addSpell l G t (b + 1) z hz c9 u ch x y) ⟨hx, hb, hml, hown, hts⟩ (cwV 4 hts gX3_shut_X2_addSpell rfl rfl rfl (by decide +kernel) ⟨Nat.le_of_ble_eq_true rfl, Nat.le_of_ble_eq_true rfl⟩) mv_K ⟨hK, x1⟩ (at_recv hK y0 rfl) rfl hl (Nat.le_of_ble_eq_true rfl) ⟨Nat.le_of_ble_eq_true rfl, Nat.le_of_ble_eq_true rfl⟩ rfl dX3_shut_97 hS (iv_sub (by omega) (by omega)) (fun H locs hP hz9 hk hS => ?_)
                  have x0 := at_keptA x0 hk (iv_no (by omega))
                  have g0 := at_keptA g0 hk (iv_no (by omega))
                  have g1 := at_keptA g1 hk (iv_no (by omega))
                  have x6 := at_keptA x6 hk (iv_no (by omega))
                  have x3 := at_keptA x3 hk (iv_no (by omega))
                  have x1 := hP
                  have x2 := Pa_keptA x2 hk (fun q h8 h9 => iv_no (by omega))
                  have x4 := fun i hi => Sc_keptA (x4 i hi) hk (fun q h8 h9 => iv_no (by omega))
                  have x7 := Gp_keptA x7 hk (fun q h8 h9 => iv_no (by omega))
                  have x8 := ex_keptA x8 hk (iv_no (by omega))
                  have x9 := ex_keptA x9 hk (iv_no (by omega))
                  have x10 := ex_keptA x10 hk (iv_no (by omega))
                  have y0 : at_ G (b + 1) (.inr (2, [.int (nI (cn z)), .int (nI (prN (cn z))), .int (nI (cu z)), .int (nI (cs z + 1)), .ref (b + 1 + 1), .ref (b + 1 + 7)])) H := by
                    have h9 := Sc_obj x1
                    rw [zSpell_n, zSpell_u, zSpell_s c9] at h9
                    exact h9
                  refine lv_aload_n hx hb dX3_shut_100 rfl (lv_at hl 0 rfl) ?_
                  refine r_get (C := RX3) (T := TX3) (N := 8) hx hb hts iiX3_shut_3 hown hK x0 rfl 4 (by decide) (hts (.fieldLink RX3 34 "HopMeet" "groups" "LHopMeet$Groups;") (List.mem_of_getElem? (i := 8) rfl)) rfl dX3_shut_101 ?_
                  refine lv_aload_n hx hb dX3_shut_104 rfl (lv_at hl 0 rfl) ?_
                  refine r_get (C := RX3) (T := TX3) (N := 8) hx hb hts iiX3_shut_3 hown hK x0 rfl 0 (by decide) (hts (.fieldLink RX3 10 "HopMeet" "now" "LHopMeet$Scene;") (List.mem_of_getElem? (i := 2) rfl)) rfl dX3_shut_105 ?_
                  refine r_get (C := RX2) (T := TX2) (N := 6) hx hb hts iiX3_shut_2 hown hK y0 rfl 2 (by decide) (hts (.fieldLink RX3 67 "HopMeet$Scene" "userCount" "I") (List.mem_of_getElem? (i := 9) rfl)) rfl dX3_shut_108 ?_
                  refine r_mV (av := [.int (nI (cu z))]) (c_X0_begin l G t (b + 245) gr sl (cu z) (cu z) (by omega)) ⟨hx, hb, hml, hown, hts⟩ (cwV 1 hts gX3_shut_X0_begin rfl rfl rfl (by decide +kernel) ⟨Nat.le_of_ble_eq_true rfl, Nat.le_of_ble_eq_true rfl⟩) mv_K ⟨hK, x7⟩ (at_recv hK g0 rfl) rfl hl (Nat.le_of_ble_eq_true rfl) ⟨Nat.le_of_ble_eq_true rfl, Nat.le_of_ble_eq_true rfl⟩ rfl dX3_shut_111 hS (iv_sub (by omega) (by omega)) (fun H locs hP hz9 hk hS => ?_)
                  have x0 := at_keptA x0 hk (iv_no (by omega))
                  have x6 := at_keptA x6 hk (iv_no (by omega))
                  have x3 := at_keptA x3 hk (iv_no (by omega))
                  have y0 := at_keptA y0 hk (iv_no (by omega))
                  have x1 := Sc_keptA x1 hk (fun q h8 h9 => iv_no (by omega))
                  have x2 := Pa_keptA x2 hk (fun q h8 h9 => iv_no (by omega))
                  have x4 := fun i hi => Sc_keptA (x4 i hi) hk (fun q h8 h9 => iv_no (by omega))
                  have x7 := hP
                  have x8 := ex_keptA x8 hk (iv_no (by omega))
                  have x9 := ex_keptA x9 hk (iv_no (by omega))
                  have x10 := ex_keptA x10 hk (iv_no (by omega))
                  refine lv_aload_n hx hb dX3_shut_114 rfl (lv_at hl 0 rfl) ?_
                  refine r_get (C := RX3) (T := TX3) (N := 8) hx hb hts iiX3_shut_3 hown hK x0 rfl 0 (by decide) (hts (.fieldLink RX3 10 "HopMeet" "now" "LHopMeet$Scene;") (List.mem_of_getElem? (i := 2) rfl)) rfl dX3_shut_115 ?_
                  refine r_get (C := RX2) (T := TX2) (N := 6) hx hb hts iiX3_shut_2 hown hK y0 rfl 3 (by decide) (hts (.fieldLink RX3 95 "HopMeet$Scene" "spellCount" "I") (List.mem_of_getElem? (i := 5) rfl)) rfl dX3_shut_118 ?_
                  exact r_retI (v := nI (cs z + 1)) hx hb hr hlocks hS ⟨by unfold rShut; rw [d2, d3, decide_eq_true c9]; rfl, by unfold oShut; rw [and_t d2 (and_t d3 (decide_eq_true c9))]; exact PX_mk x0 x1 x2 x3 x4 x5 x6 (by rw [zSpell_u]; exact x7) x8 x9 x10⟩ dX3_shut_121
                · refine lv_ldc (v := (-1000000004)) hx hb hown (hts (.constant RX3 70 (-1000000004)) (List.mem_of_getElem? (i := 6) rfl)) dX3_shut_74 ?_
                  exact r_retI (v := (-1000000004)) hx hb hr hlocks hS ⟨by unfold rShut; rw [d2, d3, decide_eq_false (by omega)]; rfl, by unfold oShut; rw [and_f2 (and_f2 (decide_eq_false (by omega)))]; exact hB.2⟩ dX3_shut_76
              · refine lv_ldc (v := (-1000000002)) hx hb hown (hts (.constant RX3 48 (-1000000002)) (List.mem_of_getElem? (i := 4) rfl)) dX3_shut_59 ?_
                exact r_retI (v := (-1000000002)) hx hb hr hlocks hS (by have d3 : okSpell x y = false := (by first | exact and_f1 (in_f1 (a := nI 0) c5) | exact and_f1 (in_f2 c6) | exact and_f2 (in_f1 c7) | exact and_f2 (in_f3 c8)); exact ⟨by unfold rShut; rw [d2, d3]; rfl, by unfold oShut; rw [and_f2 (and_f1 d3)]; exact hB.2⟩) dX3_shut_61
      · refine lv_ldc (v := (-1000000001)) hx hb hown (hts (.constant RX3 83 (-1000000001)) (List.mem_of_getElem? (i := 1) rfl)) dX3_shut_31 ?_
        exact r_retI (v := (-1000000001)) hx hb hr hlocks hS (by have d2 : okShut u ch z = false := (by first | exact sh_f2 c3 | exact sh_f3 c4); exact ⟨by unfold rShut; rw [d2]; rfl, by unfold oShut; rw [and_f1 d2]; exact hB.2⟩) dX3_shut_33
  · refine lv_aload_n hx hb dX3_shut_5 rfl (lv_at hl 0 rfl) ?_
    refine lv_iload_n hx hb dX3_shut_6 rfl (lv_at hl 1 rfl) ?_
    refine r_cV (av := [.int u]) (c_X3_isUser l G t b z gr sl bc bk kp im hz u) ⟨hx, hb, hml, hown, hts⟩ (cwV 1 hts gX3_shut_X3_isUser rfl rfl rfl (by decide +kernel) ⟨Nat.le_of_ble_eq_true rfl, Nat.le_of_ble_eq_true rfl⟩) mv_K hB (at_recv hK x0 rfl) rfl hl (Nat.le_of_ble_eq_true rfl) ⟨Nat.le_of_ble_eq_true rfl, Nat.le_of_ble_eq_true rfl⟩ rfl dX3_shut_7 (fun r1 hr1 => ?_)
    subst hr1
    refine r_ifneB hx hb dX3_shut_10 (tgt := 16) (by decide) (fun c2 => ?_) (fun c2 => ?_)
    · have d1 : u = -1 ∨ usB z u = true := Or.inr c2
      refine lv_iload_n hx hb dX3_shut_16 rfl (lv_at hl 2 rfl) ?_
      refine lv_if_lt (tgt := 31) hx hb dX3_shut_17 (by decide) (fun c3 => ?_) (fun c3 => ?_)
      · refine lv_ldc (v := (-1000000001)) hx hb hown (hts (.constant RX3 83 (-1000000001)) (List.mem_of_getElem? (i := 1) rfl)) dX3_shut_31 ?_
        exact r_retI (v := (-1000000001)) hx hb hr hlocks hS (by have d2 : okShut u ch z = false := (by first | exact sh_f2 c3 | exact sh_f3 c4); exact ⟨by unfold rShut; rw [d2]; rfl, by unfold oShut; rw [and_f1 d2]; exact hB.2⟩) dX3_shut_33
      · refine lv_iload_n hx hb dX3_shut_20 rfl (lv_at hl 2 rfl) ?_
        refine lv_aload_n hx hb dX3_shut_21 rfl (lv_at hl 0 rfl) ?_
        refine r_get (C := RX3) (T := TX3) (N := 8) hx hb hts iiX3_shut_3 hown hK x0 rfl 0 (by decide) (hts (.fieldLink RX3 10 "HopMeet" "now" "LHopMeet$Scene;") (List.mem_of_getElem? (i := 2) rfl)) rfl dX3_shut_22 ?_
        refine r_get (C := RX2) (T := TX2) (N := 6) hx hb hts iiX3_shut_2 hown hK y0 rfl 0 (by decide) (hts (.fieldLink RX3 92 "HopMeet$Scene" "channelCount" "I") (List.mem_of_getElem? (i := 3) rfl)) rfl dX3_shut_25 ?_
        refine lv_icmp_lt (tgt := 34) hx hb dX3_shut_28 (by decide) (fun c4 => ?_) (fun c4 => ?_)
        · have d2 := sh_ok d1 c3 c4
          refine lv_iload_n hx hb dX3_shut_34 rfl (lv_at hl 3 rfl) ?_
          refine lv_if_lt (tgt := 59) hx hb dX3_shut_35 (by decide) (fun c5 => ?_) (fun c5 => ?_)
          · refine lv_ldc (v := (-1000000002)) hx hb hown (hts (.constant RX3 48 (-1000000002)) (List.mem_of_getElem? (i := 4) rfl)) dX3_shut_59 ?_
            exact r_retI (v := (-1000000002)) hx hb hr hlocks hS (by have d3 : okSpell x y = false := (by first | exact and_f1 (in_f1 (a := nI 0) c5) | exact and_f1 (in_f2 c6) | exact and_f2 (in_f1 c7) | exact and_f2 (in_f3 c8)); exact ⟨by unfold rShut; rw [d2, d3]; rfl, by unfold oShut; rw [and_f2 (and_f1 d3)]; exact hB.2⟩) dX3_shut_61
          · refine lv_iload_n hx hb dX3_shut_38 rfl (lv_at hl 3 rfl) ?_
            refine lv_sipush (v := nI 1500) hx hb dX3_shut_39 (by decide) ?_
            refine lv_icmp_gt (tgt := 59) hx hb dX3_shut_42 (by decide) (fun c6 => ?_) (fun c6 => ?_)
            · refine lv_ldc (v := (-1000000002)) hx hb hown (hts (.constant RX3 48 (-1000000002)) (List.mem_of_getElem? (i := 4) rfl)) dX3_shut_59 ?_
              exact r_retI (v := (-1000000002)) hx hb hr hlocks hS (by have d3 : okSpell x y = false := (by first | exact and_f1 (in_f1 (a := nI 0) c5) | exact and_f1 (in_f2 c6) | exact and_f2 (in_f1 c7) | exact and_f2 (in_f3 c8)); exact ⟨by unfold rShut; rw [d2, d3]; rfl, by unfold oShut; rw [and_f2 (and_f1 d3)]; exact hB.2⟩) dX3_shut_61
            · refine lv_iload hx hb dX3_shut_45 (lv_at hl 4 rfl) ?_
              refine lv_iconst (v := nI 1) hx hb dX3_shut_47 (by decide) ?_
              refine lv_icmp_lt (tgt := 59) hx hb dX3_shut_48 (by decide) (fun c7 => ?_) (fun c7 => ?_)
              · refine lv_ldc (v := (-1000000002)) hx hb hown (hts (.constant RX3 48 (-1000000002)) (List.mem_of_getElem? (i := 4) rfl)) dX3_shut_59 ?_
                exact r_retI (v := (-1000000002)) hx hb hr hlocks hS (by have d3 : okSpell x y = false := (by first | exact and_f1 (in_f1 (a := nI 0) c5) | exact and_f1 (in_f2 c6) | exact and_f2 (in_f1 c7) | exact and_f2 (in_f3 c8)); exact ⟨by unfold rShut; rw [d2, d3]; rfl, by unfold oShut; rw [and_f2 (and_f1 d3)]; exact hB.2⟩) dX3_shut_61
              · refine lv_iload hx hb dX3_shut_51 (lv_at hl 4 rfl) ?_
                refine lv_sipush (v := nI 500) hx hb dX3_shut_53 (by decide) ?_
                refine lv_icmp_le (tgt := 62) hx hb dX3_shut_56 (by decide) (fun c8 => ?_) (fun c8 => ?_)
                · have d3 : okSpell x y = true := and_t (in_t (a := nI 0) c5 c6) (in_t2 c7 c8)
                  refine lv_aload_n hx hb dX3_shut_62 rfl (lv_at hl 0 rfl) ?_
                  refine r_get (C := RX3) (T := TX3) (N := 8) hx hb hts iiX3_shut_3 hown hK x0 rfl 0 (by decide) (hts (.fieldLink RX3 10 "HopMeet" "now" "LHopMeet$Scene;") (List.mem_of_getElem? (i := 2) rfl)) rfl dX3_shut_63 ?_
                  refine r_get (C := RX2) (T := TX2) (N := 6) hx hb hts iiX3_shut_2 hown hK y0 rfl 3 (by decide) (hts (.fieldLink RX3 95 "HopMeet$Scene" "spellCount" "I") (List.mem_of_getElem? (i := 5) rfl)) rfl dX3_shut_66 ?_
                  refine lv_bipush (v := nI 8) hx hb dX3_shut_69 (by decide) ?_
                  refine r_ltN hx hb (by omega) (by omega) dX3_shut_71 (tgt := 77) (by decide) (fun c9 => ?_) (fun c9 => ?_)
                  · refine lv_aload_n hx hb dX3_shut_77 rfl (lv_at hl 0 rfl) ?_
                    refine r_get (C := RX3) (T := TX3) (N := 8) hx hb hts iiX3_shut_3 hown hK x0 rfl 1 (by decide) (hts (.fieldLink RX3 19 "HopMeet" "past" "LHopMeet$Past;") (List.mem_of_getElem? (i := 7) rfl)) rfl dX3_shut_78 ?_
                    refine lv_aload_n hx hb dX3_shut_81 rfl (lv_at hl 0 rfl) ?_
                    refine r_get (C := RX3) (T := TX3) (N := 8) hx hb hts iiX3_shut_3 hown hK x0 rfl 0 (by decide) (hts (.fieldLink RX3 10 "HopMeet" "now" "LHopMeet$Scene;") (List.mem_of_getElem? (i := 2) rfl)) rfl dX3_shut_82 ?_
                    refine r_mV (av := [.ref (b + 1)]) (c_X1_remember l G t (b + 17) bc bk (b + 1) z hz hbc (Or.inl (by omega))) ⟨hx, hb, hml, hown, hts⟩ (cwV 1 hts gX3_shut_X1_remember rfl rfl rfl (by decide +kernel) ⟨Nat.le_of_ble_eq_true rfl, Nat.le_of_ble_eq_true rfl⟩) mv_K ⟨hK, x2, x1⟩ (at_recv hK p0 rfl) rfl hl (Nat.le_of_ble_eq_true rfl) ⟨Nat.le_of_ble_eq_true rfl, Nat.le_of_ble_eq_true rfl⟩ rfl dX3_shut_85 hS (iv_sub (by omega) (by omega)) (fun H locs hP hz9 hk hS => ?_)
                    have x0 := at_keptA x0 hk (iv_no (by omega))
                    have y0 := at_keptA y0 hk (iv_no (by omega))
                    have y1 := at_keptA y1 hk (iv_no (by omega))
                    have g0 := at_keptA g0 hk (iv_no (by omega))
                    have g1 := at_keptA g1 hk (iv_no (by omega))
                    have x6 := at_keptA x6 hk (iv_no (by omega))
                    have x3 := at_keptA x3 hk (iv_no (by omega))
                    have x1 := Sc_keptA x1 hk (fun q h8 h9 => iv_no (by omega))
                    have x2 := hP
                    have x4 := fun i hi => Sc_keptA (x4 i hi) hk (fun q h8 h9 => iv_no (by omega))
                    have x7 := Gp_keptA x7 hk (fun q h8 h9 => iv_no (by omega))
                    have x8 := ex_keptA x8 hk (iv_no (by omega))
                    have x9 := ex_keptA x9 hk (iv_no (by omega))
                    have x10 := ex_keptA x10 hk (iv_no (by omega))
                    refine lv_aload_n hx hb dX3_shut_88 rfl (lv_at hl 0 rfl) ?_
                    refine r_get (C := RX3) (T := TX3) (N := 8) hx hb hts iiX3_shut_3 hown hK x0 rfl 0 (by decide) (hts (.fieldLink RX3 10 "HopMeet" "now" "LHopMeet$Scene;") (List.mem_of_getElem? (i := 2) rfl)) rfl dX3_shut_89 ?_
                    refine lv_iload_n hx hb dX3_shut_92 rfl (lv_at hl 1 rfl) ?_
                    refine lv_iload_n hx hb dX3_shut_93 rfl (lv_at hl 2 rfl) ?_
                    refine lv_iload_n hx hb dX3_shut_94 rfl (lv_at hl 3 rfl) ?_
                    refine lv_iload hx hb dX3_shut_95 (lv_at hl 4 rfl) ?_
                    refine r_mV (av := [.int u, .int ch, .int x, .int y]) (c_X2_addSpell l G t (b + 1) z hz c9 u ch x y) ⟨hx, hb, hml, hown, hts⟩ (cwV 4 hts gX3_shut_X2_addSpell rfl rfl rfl (by decide +kernel) ⟨Nat.le_of_ble_eq_true rfl, Nat.le_of_ble_eq_true rfl⟩) mv_K ⟨hK, x1⟩ (at_recv hK y0 rfl) rfl hl (Nat.le_of_ble_eq_true rfl) ⟨Nat.le_of_ble_eq_true rfl, Nat.le_of_ble_eq_true rfl⟩ rfl dX3_shut_97 hS (iv_sub (by omega) (by omega)) (fun H locs hP hz9 hk hS => ?_)
                    have x0 := at_keptA x0 hk (iv_no (by omega))
                    have g0 := at_keptA g0 hk (iv_no (by omega))
                    have g1 := at_keptA g1 hk (iv_no (by omega))
                    have x6 := at_keptA x6 hk (iv_no (by omega))
                    have x3 := at_keptA x3 hk (iv_no (by omega))
                    have x1 := hP
                    have x2 := Pa_keptA x2 hk (fun q h8 h9 => iv_no (by omega))
                    have x4 := fun i hi => Sc_keptA (x4 i hi) hk (fun q h8 h9 => iv_no (by omega))
                    have x7 := Gp_keptA x7 hk (fun q h8 h9 => iv_no (by omega))
                    have x8 := ex_keptA x8 hk (iv_no (by omega))
                    have x9 := ex_keptA x9 hk (iv_no (by omega))
                    have x10 := ex_keptA x10 hk (iv_no (by omega))
                    have y0 : at_ G (b + 1) (.inr (2, [.int (nI (cn z)), .int (nI (prN (cn z))), .int (nI (cu z)), .int (nI (cs z + 1)), .ref (b + 1 + 1), .ref (b + 1 + 7)])) H := by
                      have h9 := Sc_obj x1
                      rw [zSpell_n, zSpell_u, zSpell_s c9] at h9
                      exact h9
                    refine lv_aload_n hx hb dX3_shut_100 rfl (lv_at hl 0 rfl) ?_
                    refine r_get (C := RX3) (T := TX3) (N := 8) hx hb hts iiX3_shut_3 hown hK x0 rfl 4 (by decide) (hts (.fieldLink RX3 34 "HopMeet" "groups" "LHopMeet$Groups;") (List.mem_of_getElem? (i := 8) rfl)) rfl dX3_shut_101 ?_
                    refine lv_aload_n hx hb dX3_shut_104 rfl (lv_at hl 0 rfl) ?_
                    refine r_get (C := RX3) (T := TX3) (N := 8) hx hb hts iiX3_shut_3 hown hK x0 rfl 0 (by decide) (hts (.fieldLink RX3 10 "HopMeet" "now" "LHopMeet$Scene;") (List.mem_of_getElem? (i := 2) rfl)) rfl dX3_shut_105 ?_
                    refine r_get (C := RX2) (T := TX2) (N := 6) hx hb hts iiX3_shut_2 hown hK y0 rfl 2 (by decide) (hts (.fieldLink RX3 67 "HopMeet$Scene" "userCount" "I") (List.mem_of_getElem? (i := 9) rfl)) rfl dX3_shut_108 ?_
                    refine r_mV (av := [.int (nI (cu z))]) (c_X0_begin l G t (b + 245) gr sl (cu z) (cu z) (by omega)) ⟨hx, hb, hml, hown, hts⟩ (cwV 1 hts gX3_shut_X0_begin rfl rfl rfl (by decide +kernel) ⟨Nat.le_of_ble_eq_true rfl, Nat.le_of_ble_eq_true rfl⟩) mv_K ⟨hK, x7⟩ (at_recv hK g0 rfl) rfl hl (Nat.le_of_ble_eq_true rfl) ⟨Nat.le_of_ble_eq_true rfl, Nat.le_of_ble_eq_true rfl⟩ rfl dX3_shut_111 hS (iv_sub (by omega) (by omega)) (fun H locs hP hz9 hk hS => ?_)
                    have x0 := at_keptA x0 hk (iv_no (by omega))
                    have x6 := at_keptA x6 hk (iv_no (by omega))
                    have x3 := at_keptA x3 hk (iv_no (by omega))
                    have y0 := at_keptA y0 hk (iv_no (by omega))
                    have x1 := Sc_keptA x1 hk (fun q h8 h9 => iv_no (by omega))
                    have x2 := Pa_keptA x2 hk (fun q h8 h9 => iv_no (by omega))
                    have x4 := fun i hi => Sc_keptA (x4 i hi) hk (fun q h8 h9 => iv_no (by omega))
                    have x7 := hP
                    have x8 := ex_keptA x8 hk (iv_no (by omega))
                    have x9 := ex_keptA x9 hk (iv_no (by omega))
                    have x10 := ex_keptA x10 hk (iv_no (by omega))
                    refine lv_aload_n hx hb dX3_shut_114 rfl (lv_at hl 0 rfl) ?_
                    refine r_get (C := RX3) (T := TX3) (N := 8) hx hb hts iiX3_shut_3 hown hK x0 rfl 0 (by decide) (hts (.fieldLink RX3 10 "HopMeet" "now" "LHopMeet$Scene;") (List.mem_of_getElem? (i := 2) rfl)) rfl dX3_shut_115 ?_
                    refine r_get (C := RX2) (T := TX2) (N := 6) hx hb hts iiX3_shut_2 hown hK y0 rfl 3 (by decide) (hts (.fieldLink RX3 95 "HopMeet$Scene" "spellCount" "I") (List.mem_of_getElem? (i := 5) rfl)) rfl dX3_shut_118 ?_
                    exact r_retI (v := nI (cs z + 1)) hx hb hr hlocks hS ⟨by unfold rShut; rw [d2, d3, decide_eq_true c9]; rfl, by unfold oShut; rw [and_t d2 (and_t d3 (decide_eq_true c9))]; exact PX_mk x0 x1 x2 x3 x4 x5 x6 (by rw [zSpell_u]; exact x7) x8 x9 x10⟩ dX3_shut_121
                  · refine lv_ldc (v := (-1000000004)) hx hb hown (hts (.constant RX3 70 (-1000000004)) (List.mem_of_getElem? (i := 6) rfl)) dX3_shut_74 ?_
                    exact r_retI (v := (-1000000004)) hx hb hr hlocks hS ⟨by unfold rShut; rw [d2, d3, decide_eq_false (by omega)]; rfl, by unfold oShut; rw [and_f2 (and_f2 (decide_eq_false (by omega)))]; exact hB.2⟩ dX3_shut_76
                · refine lv_ldc (v := (-1000000002)) hx hb hown (hts (.constant RX3 48 (-1000000002)) (List.mem_of_getElem? (i := 4) rfl)) dX3_shut_59 ?_
                  exact r_retI (v := (-1000000002)) hx hb hr hlocks hS (by have d3 : okSpell x y = false := (by first | exact and_f1 (in_f1 (a := nI 0) c5) | exact and_f1 (in_f2 c6) | exact and_f2 (in_f1 c7) | exact and_f2 (in_f3 c8)); exact ⟨by unfold rShut; rw [d2, d3]; rfl, by unfold oShut; rw [and_f2 (and_f1 d3)]; exact hB.2⟩) dX3_shut_61
        · refine lv_ldc (v := (-1000000001)) hx hb hown (hts (.constant RX3 83 (-1000000001)) (List.mem_of_getElem? (i := 1) rfl)) dX3_shut_31 ?_
          exact r_retI (v := (-1000000001)) hx hb hr hlocks hS (by have d2 : okShut u ch z = false := (by first | exact sh_f2 c3 | exact sh_f3 c4); exact ⟨by unfold rShut; rw [d2]; rfl, by unfold oShut; rw [and_f1 d2]; exact hB.2⟩) dX3_shut_33
    · refine lv_ldc (v := (-1000000001)) hx hb hown (hts (.constant RX3 83 (-1000000001)) (List.mem_of_getElem? (i := 1) rfl)) dX3_shut_13 ?_
      exact r_retI (v := (-1000000001)) hx hb hr hlocks hS ⟨by unfold rShut; rw [sh_f1 c1 c2]; rfl, by unfold oShut; rw [and_f1 (sh_f1 c1 c2)]; exact hB.2⟩ dX3_shut_15

set_option maxRecDepth 20000 in
theorem iiX3_drift_3 : ∀ w ∈ wsX30, w ∈ wsX3_drift := by decide +kernel
set_option maxRecDepth 20000 in
theorem iiX3_drift_2 : ∀ w ∈ wsX20, w ∈ wsX3_drift := by decide +kernel
set_option maxRecDepth 20000 in
theorem iiX3_drift_1 : ∀ w ∈ wsX10, w ∈ wsX3_drift := by decide +kernel
set_option maxRecDepth 20000 in
theorem iiX3_drift_0 : ∀ w ∈ wsX00, w ∈ wsX3_drift := by decide +kernel
set_option maxHeartbeats 4000000 in
set_option maxRecDepth 100000 in
/-- users by lots -/
theorem c_X3_drift (l : Launch) (G : va_G) (t : gT) (b : Nat) (z : Nat → Int32) (gr : Nat → Nat) (sl bc : Nat) (bk : Nat → Nat → Int32) (kp : Nat → Bool) (im : Nat → Nat → Int32) (hz : WF z) (hbc : bc ≤ 12) (x : Int32) : Met l yX3_drift wsX3_drift ({ frames := 3, cells := 0, slots := 0, locals := 73 } : Room) (pc_ [.ref b, .int x] (fun U H => KK G t U ∧ PX G t b (z, gr, sl, bc, bk, kp, im) H)) (qi_ (fun r H => r = rDrift x z ∧ PX G t b (oDrift x z gr sl bc bk kp im) H) (iv b (b + 251))) 0 0 (iv b (b + 251)) := by
  refine Met.ofW (cc := cX3_drift) (maxL := 2) (ret := (some .int)) (by decide) rfl ?_
  intro p e s m args below meth c s₁ B hml hv
  obtain ⟨rfl, hB⟩ := hv
  have hx := B.exec
  have hb := B.bytes
  have hr := B.returns
  have hts := atoms_spec (ws := wsX3_drift) B.pre
  have hown : s.vm.findClass RX3 = some m.cls := findClass_of_methodNamed B.named
  have hlocks := B.notSynchronized
  have hK := hB.1
  obtain ⟨x0, x1, x2, ⟨x3, jm, x4, x5⟩, x6, x7, x8, x9, x10⟩ := hB.2
  have y0 := Sc_obj x1
  have y1 := (Sc_rows x1).1
  obtain ⟨fo, fl, f2, g0, g1, g2, g3, g4⟩ := id x7
  obtain ⟨nx, p0⟩ := Pa_obj x2
  have hn := hz.n
  have hu5 := hz.u5
  have hs8 := hz.s8
  have hS : va_S (iv b (b + 251)) s.heap s.heap [] := va_S.rf
  have hl := lv_entry ([.ref b, .int x]) (n := 2) (Nat.le_of_ble_eq_true rfl)
  rw [lg_entry_eq]
  generalize (lg_sl ([.ref b, .int x]) ++ List.replicate (2 - (lg_sl ([.ref b, .int x])).length) Slot.unset).toArray = ls at hl ⊢
  have hl : lv_has ls 2 [(0, .ref b), (1, .int x)] := hl
  refine lv_iload_n hx hb dX3_drift_0 rfl (lv_at hl 1 rfl) ?_
  refine lv_iconst (v := nI 1) hx hb dX3_drift_1 (by decide) ?_
  refine lv_icmp_lt (tgt := 11) hx hb dX3_drift_2 (by decide) (fun c1 => ?_) (fun c1 => ?_)
  · refine lv_ldc (v := (-1000000002)) hx hb hown (hts (.constant RX3 48 (-1000000002)) (List.mem_of_getElem? (i := 2) rfl)) dX3_drift_11 ?_
    exact r_retI (v := (-1000000002)) hx hb hr hlocks hS (by have c3 : inB x (nI 1) (nI 999999) = false := (by first | exact in_f1 c1 | exact in_f3 c2); exact ⟨by unfold rDrift; rw [c3]; rfl, by unfold oDrift; rw [and_f1 c3]; exact hB.2⟩) dX3_drift_13
  · refine lv_iload_n hx hb dX3_drift_5 rfl (lv_at hl 1 rfl) ?_
    refine lv_ldc (v := (999999)) hx hb hown (hts (.constant RX3 101 (999999)) (List.mem_of_getElem? (i := 1) rfl)) dX3_drift_6 ?_
    refine r_top (y := nI 999999) rfl ?_
    refine lv_icmp_le (tgt := 14) hx hb dX3_drift_8 (by decide) (fun c2 => ?_) (fun c2 => ?_)
    · have c3 := in_t2 c1 c2
      obtain ⟨j, ja, jb, ej⟩ := in_of (by decide) (by decide) c3
      have ejc : cl x = j := by rw [ej]; exact cl_N (by omega)
      refine lv_aload_n hx hb dX3_drift_14 rfl (lv_at hl 0 rfl) ?_
      refine r_get (C := RX3) (T := TX3) (N := 8) hx hb hts iiX3_drift_3 hown hK x0 rfl 0 (by decide) (hts (.fieldLink RX3 10 "HopMeet" "now" "LHopMeet$Scene;") (List.mem_of_getElem? (i := 3) rfl)) rfl dX3_drift_15 ?_
      refine r_get (C := RX2) (T := TX2) (N := 6) hx hb hts iiX3_drift_2 hown hK y0 rfl 2 (by decide) (hts (.fieldLink RX3 67 "HopMeet$Scene" "userCount" "I") (List.mem_of_getElem? (i := 4) rfl)) rfl dX3_drift_18 ?_
      refine r_ifneN hx hb (by omega) dX3_drift_21 (tgt := 27) (by decide) (fun c4 => ?_) (fun c4 => ?_)
      · refine lv_aload_n hx hb dX3_drift_27 rfl (lv_at hl 0 rfl) ?_
        refine r_get (C := RX3) (T := TX3) (N := 8) hx hb hts iiX3_drift_3 hown hK x0 rfl 1 (by decide) (hts (.fieldLink RX3 19 "HopMeet" "past" "LHopMeet$Past;") (List.mem_of_getElem? (i := 6) rfl)) rfl dX3_drift_28 ?_
        refine lv_aload_n hx hb dX3_drift_31 rfl (lv_at hl 0 rfl) ?_
        refine r_get (C := RX3) (T := TX3) (N := 8) hx hb hts iiX3_drift_3 hown hK x0 rfl 0 (by decide) (hts (.fieldLink RX3 10 "HopMeet" "now" "LHopMeet$Scene;") (List.mem_of_getElem? (i := 3) rfl)) rfl dX3_drift_32 ?_
        refine r_mV (av := [.ref (b + 1)]) (c_X1_remember l G t (b + 17) bc bk (b + 1) z hz hbc (Or.inl (by omega))) ⟨hx, hb, hml, hown, hts⟩ (cwV 1 hts gX3_drift_X1_remember rfl rfl rfl (by decide +kernel) ⟨Nat.le_of_ble_eq_true rfl, Nat.le_of_ble_eq_true rfl⟩) mv_K ⟨hK, x2, x1⟩ (at_recv hK p0 rfl) rfl hl (Nat.le_of_ble_eq_true rfl) ⟨Nat.le_of_ble_eq_true rfl, Nat.le_of_ble_eq_true rfl⟩ rfl dX3_drift_35 hS (iv_sub (by omega) (by omega)) (fun H locs hP hz9 hk hS => ?_)
        have x0 := at_keptA x0 hk (iv_no (by omega))
        have y0 := at_keptA y0 hk (iv_no (by omega))
        have y1 := at_keptA y1 hk (iv_no (by omega))
        have g0 := at_keptA g0 hk (iv_no (by omega))
        have g1 := at_keptA g1 hk (iv_no (by omega))
        have x6 := at_keptA x6 hk (iv_no (by omega))
        have x3 := at_keptA x3 hk (iv_no (by omega))
        have x1 := Sc_keptA x1 hk (fun q h8 h9 => iv_no (by omega))
        have x2 := hP
        have x4 := fun i hi => Sc_keptA (x4 i hi) hk (fun q h8 h9 => iv_no (by omega))
        have x7 := Gp_keptA x7 hk (fun q h8 h9 => iv_no (by omega))
        have x8 := ex_keptA x8 hk (iv_no (by omega))
        have x9 := ex_keptA x9 hk (iv_no (by omega))
        have x10 := ex_keptA x10 hk (iv_no (by omega))
        refine lv_aload_n hx hb dX3_drift_38 rfl (lv_at hl 0 rfl) ?_
        refine r_get (C := RX3) (T := TX3) (N := 8) hx hb hts iiX3_drift_3 hown hK x0 rfl 0 (by decide) (hts (.fieldLink RX3 10 "HopMeet" "now" "LHopMeet$Scene;") (List.mem_of_getElem? (i := 3) rfl)) rfl dX3_drift_39 ?_
        refine lv_iload_n hx hb dX3_drift_42 rfl (lv_at hl 1 rfl) ?_
        refine r_top (y := nI j) ej ?_
        refine r_mV (av := [.int (nI j)]) (c_X2_drawLots l G t (b + 1) z hz j (by omega)) ⟨hx, hb, hml, hown, hts⟩ (cwV 1 hts gX3_drift_X2_drawLots rfl rfl rfl (by decide +kernel) ⟨Nat.le_of_ble_eq_true rfl, Nat.le_of_ble_eq_true rfl⟩) mv_K ⟨hK, x1⟩ (at_recv hK y0 rfl) rfl hl (Nat.le_of_ble_eq_true rfl) ⟨Nat.le_of_ble_eq_true rfl, Nat.le_of_ble_eq_true rfl⟩ rfl dX3_drift_43 hS (iv_sub (by omega) (by omega)) (fun H locs hP hz9 hk hS => ?_)
        have x0 := at_keptA x0 hk (iv_no (by omega))
        have g0 := at_keptA g0 hk (iv_no (by omega))
        have g1 := at_keptA g1 hk (iv_no (by omega))
        have x6 := at_keptA x6 hk (iv_no (by omega))
        have x3 := at_keptA x3 hk (iv_no (by omega))
        have x1 := hP
        have x2 := Pa_keptA x2 hk (fun q h8 h9 => iv_no (by omega))
        have x4 := fun i hi => Sc_keptA (x4 i hi) hk (fun q h8 h9 => iv_no (by omega))
        have x7 := Gp_keptA x7 hk (fun q h8 h9 => iv_no (by omega))
        have x8 := ex_keptA x8 hk (iv_no (by omega))
        have x9 := ex_keptA x9 hk (iv_no (by omega))
        have x10 := ex_keptA x10 hk (iv_no (by omega))
        have y0 : at_ G (b + 1) (.inr (2, [.int (nI (cn z)), .int (nI (prN (cn z))), .int (nI (cu z)), .int (nI (cs z)), .ref (b + 1 + 1), .ref (b + 1 + 7)])) H := by
          have h9 := Sc_obj x1
          rw [zDrift_n, zDrift_u, zDrift_s] at h9
          exact h9
        refine lv_aload_n hx hb dX3_drift_46 rfl (lv_at hl 0 rfl) ?_
        refine r_get (C := RX3) (T := TX3) (N := 8) hx hb hts iiX3_drift_3 hown hK x0 rfl 4 (by decide) (hts (.fieldLink RX3 34 "HopMeet" "groups" "LHopMeet$Groups;") (List.mem_of_getElem? (i := 7) rfl)) rfl dX3_drift_47 ?_
        refine lv_aload_n hx hb dX3_drift_50 rfl (lv_at hl 0 rfl) ?_
        refine r_get (C := RX3) (T := TX3) (N := 8) hx hb hts iiX3_drift_3 hown hK x0 rfl 0 (by decide) (hts (.fieldLink RX3 10 "HopMeet" "now" "LHopMeet$Scene;") (List.mem_of_getElem? (i := 3) rfl)) rfl dX3_drift_51 ?_
        refine r_get (C := RX2) (T := TX2) (N := 6) hx hb hts iiX3_drift_2 hown hK y0 rfl 2 (by decide) (hts (.fieldLink RX3 67 "HopMeet$Scene" "userCount" "I") (List.mem_of_getElem? (i := 4) rfl)) rfl dX3_drift_54 ?_
        refine r_mV (av := [.int (nI (cu z))]) (c_X0_begin l G t (b + 245) gr sl (cu z) (cu z) (by omega)) ⟨hx, hb, hml, hown, hts⟩ (cwV 1 hts gX3_drift_X0_begin rfl rfl rfl (by decide +kernel) ⟨Nat.le_of_ble_eq_true rfl, Nat.le_of_ble_eq_true rfl⟩) mv_K ⟨hK, x7⟩ (at_recv hK g0 rfl) rfl hl (Nat.le_of_ble_eq_true rfl) ⟨Nat.le_of_ble_eq_true rfl, Nat.le_of_ble_eq_true rfl⟩ rfl dX3_drift_57 hS (iv_sub (by omega) (by omega)) (fun H locs hP hz9 hk hS => ?_)
        have x0 := at_keptA x0 hk (iv_no (by omega))
        have x6 := at_keptA x6 hk (iv_no (by omega))
        have x3 := at_keptA x3 hk (iv_no (by omega))
        have y0 := at_keptA y0 hk (iv_no (by omega))
        have x1 := Sc_keptA x1 hk (fun q h8 h9 => iv_no (by omega))
        have x2 := Pa_keptA x2 hk (fun q h8 h9 => iv_no (by omega))
        have x4 := fun i hi => Sc_keptA (x4 i hi) hk (fun q h8 h9 => iv_no (by omega))
        have x7 := hP
        have x8 := ex_keptA x8 hk (iv_no (by omega))
        have x9 := ex_keptA x9 hk (iv_no (by omega))
        have x10 := ex_keptA x10 hk (iv_no (by omega))
        refine lv_aload_n hx hb dX3_drift_60 rfl (lv_at hl 0 rfl) ?_
        refine r_get (C := RX3) (T := TX3) (N := 8) hx hb hts iiX3_drift_3 hown hK x0 rfl 0 (by decide) (hts (.fieldLink RX3 10 "HopMeet" "now" "LHopMeet$Scene;") (List.mem_of_getElem? (i := 3) rfl)) rfl dX3_drift_61 ?_
        refine r_cV (av := []) (c_X2_commonChannels l G t (b + 1) (zDrift z j (cu z)) (WF_drift hz)) ⟨hx, hb, hml, hown, hts⟩ (cwV 0 hts gX3_drift_X2_commonChannels rfl rfl rfl (by decide +kernel) ⟨Nat.le_of_ble_eq_true rfl, Nat.le_of_ble_eq_true rfl⟩) mv_K ⟨hK, x1⟩ (at_recv hK y0 rfl) rfl hl (Nat.le_of_ble_eq_true rfl) ⟨Nat.le_of_ble_eq_true rfl, Nat.le_of_ble_eq_true rfl⟩ rfl dX3_drift_64 (fun r1 hr1 => ?_)
        subst hr1
        exact r_retI (v := nI (comN (zDrift z j (cu z)) (cu (zDrift z j (cu z))))) hx hb hr hlocks hS ⟨by unfold rDrift; rw [c3, decide_eq_false c4, ejc, zDrift_u]; rfl, by unfold oDrift; rw [and_t c3 (by rw [decide_eq_false c4]; rfl), ejc]; exact PX_mk x0 x1 x2 x3 x4 x5 x6 (by rw [zDrift_u]; exact x7) x8 x9 x10⟩ dX3_drift_67
      · refine lv_ldc (v := (-1000000003)) hx hb hown (hts (.constant RX3 102 (-1000000003)) (List.mem_of_getElem? (i := 5) rfl)) dX3_drift_24 ?_
        exact r_retI (v := (-1000000003)) hx hb hr hlocks hS ⟨by unfold rDrift; rw [c3, decide_eq_true c4]; rfl, by unfold oDrift; rw [and_f2 (by rw [decide_eq_true c4]; rfl)]; exact hB.2⟩ dX3_drift_26
    · refine lv_ldc (v := (-1000000002)) hx hb hown (hts (.constant RX3 48 (-1000000002)) (List.mem_of_getElem? (i := 2) rfl)) dX3_drift_11 ?_
      exact r_retI (v := (-1000000002)) hx hb hr hlocks hS (by have c3 : inB x (nI 1) (nI 999999) = false := (by first | exact in_f1 c1 | exact in_f3 c2); exact ⟨by unfold rDrift; rw [c3]; rfl, by unfold oDrift; rw [and_f1 c3]; exact hB.2⟩) dX3_drift_13

set_option maxRecDepth 20000 in
theorem iiX3_undo_3 : ∀ w ∈ wsX30, w ∈ wsX3_undo := by decide +kernel
set_option maxRecDepth 20000 in
theorem iiX3_undo_1 : ∀ w ∈ wsX10, w ∈ wsX3_undo := by decide +kernel
set_option maxRecDepth 20000 in
theorem iiX3_undo_2 : ∀ w ∈ wsX20, w ∈ wsX3_undo := by decide +kernel
set_option maxRecDepth 20000 in
theorem iiX3_undo_0 : ∀ w ∈ wsX00, w ∈ wsX3_undo := by decide +kernel
set_option maxHeartbeats 4000000 in
set_option maxRecDepth 100000 in
/-- the latest is undone -/
theorem c_X3_undo (l : Launch) (G : va_G) (t : gT) (b : Nat) (z : Nat → Int32) (gr : Nat → Nat) (sl bc : Nat) (bk : Nat → Nat → Int32) (kp : Nat → Bool) (im : Nat → Nat → Int32) (hz : WF z) (hbc : bc ≤ 12) (hw : ∀ j, j < bc → WF (bk j)) : Met l yX3_undo wsX3_undo ({ frames := 3, cells := 0, slots := 0, locals := 73 } : Room) (pc_ [.ref b] (fun U H => KK G t U ∧ PX G t b (z, gr, sl, bc, bk, kp, im) H)) (qi_ (fun r H => r = rUndo bc ∧ PX G t b (oUndo z gr sl bc bk kp im) H) (iv b (b + 251))) 0 0 (iv b (b + 251)) := by
  refine Met.ofW (cc := cX3_undo) (maxL := 1) (ret := (some .int)) (by decide) rfl ?_
  intro p e s m args below meth c s₁ B hml hv
  obtain ⟨rfl, hB⟩ := hv
  have hx := B.exec
  have hb := B.bytes
  have hr := B.returns
  have hts := atoms_spec (ws := wsX3_undo) B.pre
  have hown : s.vm.findClass RX3 = some m.cls := findClass_of_methodNamed B.named
  have hlocks := B.notSynchronized
  have hK := hB.1
  obtain ⟨x0, x1, x2, ⟨x3, jm, x4, x5⟩, x6, x7, x8, x9, x10⟩ := hB.2
  have y0 := Sc_obj x1
  have y1 := (Sc_rows x1).1
  obtain ⟨fo, fl, f2, g0, g1, g2, g3, g4⟩ := id x7
  obtain ⟨nx, p0⟩ := Pa_obj x2
  have hn := hz.n
  have hu5 := hz.u5
  have hs8 := hz.s8
  have hS : va_S (iv b (b + 251)) s.heap s.heap [] := va_S.rf
  have hl := lv_entry ([.ref b]) (n := 1) (Nat.le_of_ble_eq_true rfl)
  rw [lg_entry_eq]
  generalize (lg_sl ([.ref b]) ++ List.replicate (1 - (lg_sl ([.ref b])).length) Slot.unset).toArray = ls at hl ⊢
  have hl : lv_has ls 1 [(0, .ref b)] := hl
  refine lv_aload_n hx hb dX3_undo_0 rfl (lv_at hl 0 rfl) ?_
  refine r_get (C := RX3) (T := TX3) (N := 8) hx hb hts iiX3_undo_3 hown hK x0 rfl 1 (by decide) (hts (.fieldLink RX3 19 "HopMeet" "past" "LHopMeet$Past;") (List.mem_of_getElem? (i := 1) rfl)) rfl dX3_undo_1 ?_
  refine r_get (C := RX1) (T := TX1) (N := 3) hx hb hts iiX3_undo_1 hown hK p0 rfl 2 (by decide) (hts (.fieldLink RX3 109 "HopMeet$Past" "count" "I") (List.mem_of_getElem? (i := 2) rfl)) rfl dX3_undo_4 ?_
  refine r_ifneN hx hb (by omega) dX3_undo_7 (tgt := 13) (by decide) (fun c1 => ?_) (fun c1 => ?_)
  · refine lv_aload_n hx hb dX3_undo_13 rfl (lv_at hl 0 rfl) ?_
    refine r_get (C := RX3) (T := TX3) (N := 8) hx hb hts iiX3_undo_3 hown hK x0 rfl 1 (by decide) (hts (.fieldLink RX3 19 "HopMeet" "past" "LHopMeet$Past;") (List.mem_of_getElem? (i := 1) rfl)) rfl dX3_undo_14 ?_
    refine lv_aload_n hx hb dX3_undo_17 rfl (lv_at hl 0 rfl) ?_
    refine r_get (C := RX3) (T := TX3) (N := 8) hx hb hts iiX3_undo_3 hown hK x0 rfl 0 (by decide) (hts (.fieldLink RX3 10 "HopMeet" "now" "LHopMeet$Scene;") (List.mem_of_getElem? (i := 4) rfl)) rfl dX3_undo_18 ?_
    refine r_mV (av := [.ref (b + 1)]) (c_X1_restore l G t (b + 17) bc bk (b + 1) (Nat.pos_of_ne_zero c1) hbc (hw 0 (Nat.pos_of_ne_zero c1)) (by omega)) ⟨hx, hb, hml, hown, hts⟩ (cwV 1 hts gX3_undo_X1_restore rfl rfl rfl (by decide +kernel) ⟨Nat.le_of_ble_eq_true rfl, Nat.le_of_ble_eq_true rfl⟩) mv_K ⟨hK, x2, Sc_Sy x1⟩ (at_recv hK p0 rfl) rfl hl (Nat.le_of_ble_eq_true rfl) ⟨Nat.le_of_ble_eq_true rfl, Nat.le_of_ble_eq_true rfl⟩ rfl dX3_undo_21 hS (iv_sub (by omega) (by omega)) (fun H locs hP hz9 hk hS => ?_)
    have x0 := at_keptA x0 hk (iv_no (by omega))
    have g0 := at_keptA g0 hk (iv_no (by omega))
    have g1 := at_keptA g1 hk (iv_no (by omega))
    have x6 := at_keptA x6 hk (iv_no (by omega))
    have x3 := at_keptA x3 hk (iv_no (by omega))
    have x1 := hP.1
    have x2 := hP.2
    have x4 := fun i hi => Sc_keptA (x4 i hi) hk (fun q h8 h9 => iv_no (by omega))
    have x7 := Gp_keptA x7 hk (fun q h8 h9 => iv_no (by omega))
    have x8 := ex_keptA x8 hk (iv_no (by omega))
    have x9 := ex_keptA x9 hk (iv_no (by omega))
    have x10 := ex_keptA x10 hk (iv_no (by omega))
    have y0 := Sc_obj x1
    obtain ⟨nx, p0⟩ := Pa_obj x2
    have h05 := (hw 0 (Nat.pos_of_ne_zero c1)).u5
    refine lv_aload_n hx hb dX3_undo_24 rfl (lv_at hl 0 rfl) ?_
    refine r_get (C := RX3) (T := TX3) (N := 8) hx hb hts iiX3_undo_3 hown hK x0 rfl 4 (by decide) (hts (.fieldLink RX3 34 "HopMeet" "groups" "LHopMeet$Groups;") (List.mem_of_getElem? (i := 5) rfl)) rfl dX3_undo_25 ?_
    refine lv_aload_n hx hb dX3_undo_28 rfl (lv_at hl 0 rfl) ?_
    refine r_get (C := RX3) (T := TX3) (N := 8) hx hb hts iiX3_undo_3 hown hK x0 rfl 0 (by decide) (hts (.fieldLink RX3 10 "HopMeet" "now" "LHopMeet$Scene;") (List.mem_of_getElem? (i := 4) rfl)) rfl dX3_undo_29 ?_
    refine r_get (C := RX2) (T := TX2) (N := 6) hx hb hts iiX3_undo_2 hown hK y0 rfl 2 (by decide) (hts (.fieldLink RX3 67 "HopMeet$Scene" "userCount" "I") (List.mem_of_getElem? (i := 6) rfl)) rfl dX3_undo_32 ?_
    refine r_mV (av := [.int (nI (cu (bk 0)))]) (c_X0_begin l G t (b + 245) gr sl (cu z) (cu (bk 0)) (by omega)) ⟨hx, hb, hml, hown, hts⟩ (cwV 1 hts gX3_undo_X0_begin rfl rfl rfl (by decide +kernel) ⟨Nat.le_of_ble_eq_true rfl, Nat.le_of_ble_eq_true rfl⟩) mv_K ⟨hK, x7⟩ (at_recv hK g0 rfl) rfl hl (Nat.le_of_ble_eq_true rfl) ⟨Nat.le_of_ble_eq_true rfl, Nat.le_of_ble_eq_true rfl⟩ rfl dX3_undo_35 hS (iv_sub (by omega) (by omega)) (fun H locs hP hz9 hk hS => ?_)
    have x0 := at_keptA x0 hk (iv_no (by omega))
    have x6 := at_keptA x6 hk (iv_no (by omega))
    have x3 := at_keptA x3 hk (iv_no (by omega))
    have p0 := at_keptA p0 hk (iv_no (by omega))
    have y0 := at_keptA y0 hk (iv_no (by omega))
    have x1 := Sc_keptA x1 hk (fun q h8 h9 => iv_no (by omega))
    have x2 := Pa_keptA x2 hk (fun q h8 h9 => iv_no (by omega))
    have x4 := fun i hi => Sc_keptA (x4 i hi) hk (fun q h8 h9 => iv_no (by omega))
    have x7 := hP
    have x8 := ex_keptA x8 hk (iv_no (by omega))
    have x9 := ex_keptA x9 hk (iv_no (by omega))
    have x10 := ex_keptA x10 hk (iv_no (by omega))
    refine lv_aload_n hx hb dX3_undo_38 rfl (lv_at hl 0 rfl) ?_
    refine r_get (C := RX3) (T := TX3) (N := 8) hx hb hts iiX3_undo_3 hown hK x0 rfl 1 (by decide) (hts (.fieldLink RX3 19 "HopMeet" "past" "LHopMeet$Past;") (List.mem_of_getElem? (i := 1) rfl)) rfl dX3_undo_39 ?_
    refine r_get (C := RX1) (T := TX1) (N := 3) hx hb hts iiX3_undo_1 hown hK p0 rfl 2 (by decide) (hts (.fieldLink RX3 109 "HopMeet$Past" "count" "I") (List.mem_of_getElem? (i := 2) rfl)) rfl dX3_undo_42 ?_
    exact r_retI (v := nI (bc - 1)) hx hb hr hlocks hS ⟨by unfold rUndo; rw [decide_eq_false c1]; rfl, by unfold oUndo; rw [decide_eq_false c1]; exact PX_mk x0 x1 x2 x3 x4 x5 x6 x7 x8 x9 x10⟩ dX3_undo_45
  · refine lv_ldc (v := (-1000000003)) hx hb hown (hts (.constant RX3 102 (-1000000003)) (List.mem_of_getElem? (i := 3) rfl)) dX3_undo_10 ?_
    exact r_retI (v := (-1000000003)) hx hb hr hlocks hS ⟨by unfold rUndo; rw [decide_eq_true c1]; rfl, by unfold oUndo; rw [decide_eq_true c1]; exact hB.2⟩ dX3_undo_12

set_option maxRecDepth 20000 in
theorem iiX3_part_3 : ∀ w ∈ wsX30, w ∈ wsX3_part := by decide +kernel
set_option maxRecDepth 20000 in
theorem iiX3_part_0 : ∀ w ∈ wsX00, w ∈ wsX3_part := by decide +kernel
set_option maxRecDepth 20000 in
theorem iiX3_part_2 : ∀ w ∈ wsX20, w ∈ wsX3_part := by decide +kernel
set_option maxHeartbeats 4000000 in
set_option maxRecDepth 100000 in
/-- RUN begins anew -/
theorem c_X3_part (l : Launch) (G : va_G) (t : gT) (b : Nat) (z : Nat → Int32) (gr : Nat → Nat) (sl bc : Nat) (bk : Nat → Nat → Int32) (kp : Nat → Bool) (im : Nat → Nat → Int32) (hz : WF z) : Met l yX3_part wsX3_part ({ frames := 1, cells := 0, slots := 0, locals := 22 } : Room) (pc_ [.ref b] (fun U H => KK G t U ∧ PX G t b (z, gr, sl, bc, bk, kp, im) H)) (qi_ (fun r H => r = nI sl ∧ PX G t b (z, idN, 0, bc, bk, kp, im) H) (iv b (b + 251))) 0 0 (iv b (b + 251)) := by
  refine Met.ofW (cc := cX3_part) (maxL := 2) (ret := (some .int)) (by decide) rfl ?_
  intro p e s m args below meth c s₁ B hml hv
  obtain ⟨rfl, hB⟩ := hv
  have hx := B.exec
  have hb := B.bytes
  have hr := B.returns
  have hts := atoms_spec (ws := wsX3_part) B.pre
  have hown : s.vm.findClass RX3 = some m.cls := findClass_of_methodNamed B.named
  have hlocks := B.notSynchronized
  have hK := hB.1
  obtain ⟨x0, x1, x2, ⟨x3, jm, x4, x5⟩, x6, x7, x8, x9, x10⟩ := hB.2
  have y0 := Sc_obj x1
  have y1 := (Sc_rows x1).1
  obtain ⟨fo, fl, f2, g0, g1, g2, g3, g4⟩ := id x7
  obtain ⟨nx, p0⟩ := Pa_obj x2
  have hn := hz.n
  have hu5 := hz.u5
  have hs8 := hz.s8
  have hS : va_S (iv b (b + 251)) s.heap s.heap [] := va_S.rf
  have hl := lv_entry ([.ref b]) (n := 2) (Nat.le_of_ble_eq_true rfl)
  rw [lg_entry_eq]
  generalize (lg_sl ([.ref b]) ++ List.replicate (2 - (lg_sl ([.ref b])).length) Slot.unset).toArray = ls at hl ⊢
  have hl : lv_has ls 2 [(0, .ref b)] := hl
  refine lv_aload_n hx hb dX3_part_0 rfl (lv_at hl 0 rfl) ?_
  refine r_get (C := RX3) (T := TX3) (N := 8) hx hb hts iiX3_part_3 hown hK x0 rfl 4 (by decide) (hts (.fieldLink RX3 34 "HopMeet" "groups" "LHopMeet$Groups;") (List.mem_of_getElem? (i := 1) rfl)) rfl dX3_part_1 ?_
  refine r_get (C := RX0) (T := TX0) (N := 4) hx hb hts iiX3_part_0 hown hK g0 rfl 0 (by decide) (hts (.fieldLink RX3 115 "HopMeet$Groups" "slotsRun" "I") (List.mem_of_getElem? (i := 2) rfl)) rfl dX3_part_4 ?_
  refine lv_istore_n (lv' := [(1, .int (nI sl)), (0, .ref b)]) hx hb dX3_part_7 rfl hl (by decide) rfl (fun ls hl => ?_)
  refine lv_aload_n hx hb dX3_part_8 rfl (lv_at hl 1 rfl) ?_
  refine r_get (C := RX3) (T := TX3) (N := 8) hx hb hts iiX3_part_3 hown hK x0 rfl 4 (by decide) (hts (.fieldLink RX3 34 "HopMeet" "groups" "LHopMeet$Groups;") (List.mem_of_getElem? (i := 1) rfl)) rfl dX3_part_9 ?_
  refine lv_aload_n hx hb dX3_part_12 rfl (lv_at hl 1 rfl) ?_
  refine r_get (C := RX3) (T := TX3) (N := 8) hx hb hts iiX3_part_3 hown hK x0 rfl 0 (by decide) (hts (.fieldLink RX3 10 "HopMeet" "now" "LHopMeet$Scene;") (List.mem_of_getElem? (i := 3) rfl)) rfl dX3_part_13 ?_
  refine r_get (C := RX2) (T := TX2) (N := 6) hx hb hts iiX3_part_2 hown hK y0 rfl 2 (by decide) (hts (.fieldLink RX3 67 "HopMeet$Scene" "userCount" "I") (List.mem_of_getElem? (i := 4) rfl)) rfl dX3_part_16 ?_
  refine r_mV (av := [.int (nI (cu z))]) (c_X0_begin l G t (b + 245) gr sl (cu z) (cu z) (by omega)) ⟨hx, hb, hml, hown, hts⟩ (cwV 1 hts gX3_part_X0_begin rfl rfl rfl (by decide +kernel) ⟨Nat.le_of_ble_eq_true rfl, Nat.le_of_ble_eq_true rfl⟩) mv_K ⟨hK, x7⟩ (at_recv hK g0 rfl) rfl hl (Nat.le_of_ble_eq_true rfl) ⟨Nat.le_of_ble_eq_true rfl, Nat.le_of_ble_eq_true rfl⟩ rfl dX3_part_19 hS (iv_sub (by omega) (by omega)) (fun H locs hP hz9 hk hS => ?_)
  have x0 := at_keptA x0 hk (iv_no (by omega))
  have y0 := at_keptA y0 hk (iv_no (by omega))
  have y1 := at_keptA y1 hk (iv_no (by omega))
  have p0 := at_keptA p0 hk (iv_no (by omega))
  have x6 := at_keptA x6 hk (iv_no (by omega))
  have x3 := at_keptA x3 hk (iv_no (by omega))
  have x1 := Sc_keptA x1 hk (fun q h8 h9 => iv_no (by omega))
  have x2 := Pa_keptA x2 hk (fun q h8 h9 => iv_no (by omega))
  have x4 := fun i hi => Sc_keptA (x4 i hi) hk (fun q h8 h9 => iv_no (by omega))
  have x7 := hP
  have x8 := ex_keptA x8 hk (iv_no (by omega))
  have x9 := ex_keptA x9 hk (iv_no (by omega))
  have x10 := ex_keptA x10 hk (iv_no (by omega))
  refine lv_iload_n hx hb dX3_part_22 rfl (lv_at hl 0 rfl) ?_
  exact r_retI (v := nI sl) hx hb hr hlocks hS ⟨rfl, PX_mk x0 x1 x2 x3 x4 x5 x6 x7 x8 x9 x10⟩ dX3_part_23

set_option maxRecDepth 20000 in
theorem iiX3_keep_3 : ∀ w ∈ wsX30, w ∈ wsX3_keep := by decide +kernel
set_option maxRecDepth 20000 in
theorem iiX3_keep_2 : ∀ w ∈ wsX20, w ∈ wsX3_keep := by decide +kernel
set_option maxHeartbeats 4000000 in
set_option maxRecDepth 100000 in
/-- an image becomes what is so -/
theorem c_X3_keep (l : Launch) (G : va_G) (t : gT) (b : Nat) (z : Nat → Int32) (gr : Nat → Nat) (sl bc : Nat) (bk : Nat → Nat → Int32) (kp : Nat → Bool) (im : Nat → Nat → Int32) (hz : WF z) (i : Int32) : Met l yX3_keep wsX3_keep ({ frames := 2, cells := 0, slots := 0, locals := 52 } : Room) (pc_ [.ref b, .int i] (fun U H => KK G t U ∧ PX G t b (z, gr, sl, bc, bk, kp, im) H)) (qi_ (fun r H => r = rKeep i z ∧ PX G t b (oKeep i z gr sl bc bk kp im) H) (iv b (b + 251))) 0 0 (iv b (b + 251)) := by
  refine Met.ofW (cc := cX3_keep) (maxL := 2) (ret := (some .int)) (by decide) rfl ?_
  intro p e s m args below meth c s₁ B hml hv
  obtain ⟨rfl, hB⟩ := hv
  have hx := B.exec
  have hb := B.bytes
  have hr := B.returns
  have hts := atoms_spec (ws := wsX3_keep) B.pre
  have hown : s.vm.findClass RX3 = some m.cls := findClass_of_methodNamed B.named
  have hlocks := B.notSynchronized
  have hK := hB.1
  obtain ⟨x0, x1, x2, ⟨x3, jm, x4, x5⟩, x6, x7, x8, x9, x10⟩ := hB.2
  have y0 := Sc_obj x1
  have y1 := (Sc_rows x1).1
  obtain ⟨fo, fl, f2, g0, g1, g2, g3, g4⟩ := id x7
  obtain ⟨nx, p0⟩ := Pa_obj x2
  have hn := hz.n
  have hu5 := hz.u5
  have hs8 := hz.s8
  have hS : va_S (iv b (b + 251)) s.heap s.heap [] := va_S.rf
  have hl := lv_entry ([.ref b, .int i]) (n := 2) (Nat.le_of_ble_eq_true rfl)
  rw [lg_entry_eq]
  generalize (lg_sl ([.ref b, .int i]) ++ List.replicate (2 - (lg_sl ([.ref b, .int i])).length) Slot.unset).toArray = ls at hl ⊢
  have hl : lv_has ls 2 [(0, .ref b), (1, .int i)] := hl
  refine lv_iload_n hx hb dX3_keep_0 rfl (lv_at hl 1 rfl) ?_
  refine r_cS (av := [.int i]) (c_X3_isImage l G t i) ⟨hx, hb, hml, hown, hts⟩ (va_cwS 1 hts gX3_keep_X3_isImage rfl rfl rfl (by decide +kernel) ⟨Nat.le_of_ble_eq_true rfl, Nat.le_of_ble_eq_true rfl⟩) mv_T trivial rfl hl (Nat.le_of_ble_eq_true rfl) ⟨Nat.le_of_ble_eq_true rfl, Nat.le_of_ble_eq_true rfl⟩ rfl dX3_keep_1 (fun r1 hr1 => ?_)
  subst hr1
  refine r_ifneB hx hb dX3_keep_4 (tgt := 10) (by decide) (fun c1 => ?_) (fun c1 => ?_)
  · obtain ⟨j, ja, jb, ej⟩ := in_of (by decide) (by decide) c1
    have ejc : cl i = j := by rw [ej]; exact cl_N (by omega)
    refine lv_aload_n hx hb dX3_keep_10 rfl (lv_at hl 0 rfl) ?_
    refine r_get (C := RX3) (T := TX3) (N := 8) hx hb hts iiX3_keep_3 hown hK x0 rfl 2 (by decide) (hts (.fieldLink RX3 23 "HopMeet" "images" "[LHopMeet$Scene;") (List.mem_of_getElem? (i := 2) rfl)) rfl dX3_keep_11 ?_
    refine lv_iload_n hx hb dX3_keep_14 rfl (lv_at hl 1 rfl) ?_
    refine r_top (y := nI j) ej ?_
    refine r_rald hx hb hK x3 3 rfl rfl j (by omega) (by decide) (b := b + 212 + 16 * j) (rowsG_at (by omega)) dX3_keep_15 ?_
    refine lv_aload_n hx hb dX3_keep_16 rfl (lv_at hl 0 rfl) ?_
    refine r_get (C := RX3) (T := TX3) (N := 8) hx hb hts iiX3_keep_3 hown hK x0 rfl 0 (by decide) (hts (.fieldLink RX3 10 "HopMeet" "now" "LHopMeet$Scene;") (List.mem_of_getElem? (i := 3) rfl)) rfl dX3_keep_17 ?_
    refine r_mV (av := [.ref (b + 1)]) (c_X2_become l G t (b + 212 + 16 * j) (b + 1) z hz (Or.inr (by omega))) ⟨hx, hb, hml, hown, hts⟩ (cwV 1 hts gX3_keep_X2_become rfl rfl rfl (by decide +kernel) ⟨Nat.le_of_ble_eq_true rfl, Nat.le_of_ble_eq_true rfl⟩) mv_K ⟨hK, Sc_Sy (x4 j (by omega)), x1⟩ (at_recv hK (Sc_obj (x4 j (by omega))) rfl) rfl hl (Nat.le_of_ble_eq_true rfl) ⟨Nat.le_of_ble_eq_true rfl, Nat.le_of_ble_eq_true rfl⟩ rfl dX3_keep_20 hS (iv_sub (by omega) (by omega)) (fun H locs hP hz9 hk hS => ?_)
    have x0 := at_keptA x0 hk (iv_no (by omega))
    have y0 := at_keptA y0 hk (iv_no (by omega))
    have y1 := at_keptA y1 hk (iv_no (by omega))
    have g0 := at_keptA g0 hk (iv_no (by omega))
    have g1 := at_keptA g1 hk (iv_no (by omega))
    have p0 := at_keptA p0 hk (iv_no (by omega))
    have x6 := at_keptA x6 hk (iv_no (by omega))
    have x3 := at_keptA x3 hk (iv_no (by omega))
    have x1 := Sc_keptA x1 hk (fun q h8 h9 => iv_no (by omega))
    have x2 := Pa_keptA x2 hk (fun q h8 h9 => iv_no (by omega))
    have x4 := scs_put hP (fun i hi hne => Sc_keptA (x4 i hi) hk (fun q h8 h9 => iv_no (by omega)))
    have x7 := Gp_keptA x7 hk (fun q h8 h9 => iv_no (by omega))
    have x8 := ex_keptA x8 hk (iv_no (by omega))
    have x9 := ex_keptA x9 hk (iv_no (by omega))
    have x10 := ex_keptA x10 hk (iv_no (by omega))
    refine lv_aload_n hx hb dX3_keep_23 rfl (lv_at hl 0 rfl) ?_
    refine r_get (C := RX3) (T := TX3) (N := 8) hx hb hts iiX3_keep_3 hown hK x0 rfl 3 (by decide) (hts (.fieldLink RX3 27 "HopMeet" "wasKept" "[Z") (List.mem_of_getElem? (i := 4) rfl)) rfl dX3_keep_24 ?_
    refine lv_iload_n hx hb dX3_keep_27 rfl (lv_at hl 1 rfl) ?_
    refine r_top (y := nI j) ej ?_
    refine lv_iconst (v := nI 1) hx hb dX3_keep_28 (by decide) ?_
    refine r_zast hx hb hK x6 ⟨by omega, by omega⟩ hS rfl j (by omega) (by decide) rfl dX3_keep_29 (fun H locs x6 hz9 hq hS => ?_)
    rw [kp_up] at x6
    have x0 := at_kept x0 (hq _ (by omega))
    have y0 := at_kept y0 (hq _ (by omega))
    have y1 := at_kept y1 (hq _ (by omega))
    have g0 := at_kept g0 (hq _ (by omega))
    have g1 := at_kept g1 (hq _ (by omega))
    have p0 := at_kept p0 (hq _ (by omega))
    have x3 := at_kept x3 (hq _ (by omega))
    have x1 := Sc_kept x1 (fun q h8 h9 => hq q (by omega))
    have x2 := Pa_kept x2 (fun q h8 h9 => hq q (by omega))
    have x4 := fun i hi => Sc_kept (x4 i hi) (fun q h8 h9 => hq q (by omega))
    have x7 := Gp_kept x7 (fun q h8 h9 => hq q (by omega))
    have x8 := ex_kept x8 (hq _ (by omega))
    have x9 := ex_kept x9 (hq _ (by omega))
    have x10 := ex_kept x10 (hq _ (by omega))
    refine lv_aload_n hx hb dX3_keep_30 rfl (lv_at hl 0 rfl) ?_
    refine r_get (C := RX3) (T := TX3) (N := 8) hx hb hts iiX3_keep_3 hown hK x0 rfl 0 (by decide) (hts (.fieldLink RX3 10 "HopMeet" "now" "LHopMeet$Scene;") (List.mem_of_getElem? (i := 3) rfl)) rfl dX3_keep_31 ?_
    refine r_get (C := RX2) (T := TX2) (N := 6) hx hb hts iiX3_keep_2 hown hK y0 rfl 2 (by decide) (hts (.fieldLink RX3 67 "HopMeet$Scene" "userCount" "I") (List.mem_of_getElem? (i := 5) rfl)) rfl dX3_keep_34 ?_
    exact r_retI (v := nI (cu z)) hx hb hr hlocks hS ⟨by unfold rKeep; rw [c1]; rfl, by unfold oKeep; rw [c1, ejc]; exact PX_mk x0 x1 x2 x3 x4 (im_up x5) x6 x7 x8 x9 x10⟩ dX3_keep_37
  · refine lv_ldc (v := (-1000000001)) hx hb hown (hts (.constant RX3 83 (-1000000001)) (List.mem_of_getElem? (i := 1) rfl)) dX3_keep_7 ?_
    exact r_retI (v := (-1000000001)) hx hb hr hlocks hS ⟨by unfold rKeep; rw [c1]; rfl, by unfold oKeep; rw [c1]; exact hB.2⟩ dX3_keep_9

set_option maxRecDepth 20000 in
theorem iiX3_goBack_3 : ∀ w ∈ wsX30, w ∈ wsX3_goBack := by decide +kernel
set_option maxRecDepth 20000 in
theorem iiX3_goBack_2 : ∀ w ∈ wsX20, w ∈ wsX3_goBack := by decide +kernel
set_option maxRecDepth 20000 in
theorem iiX3_goBack_1 : ∀ w ∈ wsX10, w ∈ wsX3_goBack := by decide +kernel
set_option maxRecDepth 20000 in
theorem iiX3_goBack_0 : ∀ w ∈ wsX00, w ∈ wsX3_goBack := by decide +kernel
set_option maxHeartbeats 4000000 in
set_option maxRecDepth 100000 in
/-- what is so becomes an image -/
theorem c_X3_goBack (l : Launch) (G : va_G) (t : gT) (b : Nat) (z : Nat → Int32) (gr : Nat → Nat) (sl bc : Nat) (bk : Nat → Nat → Int32) (kp : Nat → Bool) (im : Nat → Nat → Int32) (hz : WF z) (hw : ∀ i, i < 2 → kp i = true → WF (im i)) (i : Int32) : Met l yX3_goBack wsX3_goBack ({ frames := 2, cells := 0, slots := 0, locals := 52 } : Room) (pc_ [.ref b, .int i] (fun U H => KK G t U ∧ PX G t b (z, gr, sl, bc, bk, kp, im) H)) (qi_ (fun r H => r = rGoBack i kp im ∧ PX G t b (oGoBack i z gr sl bc bk kp im) H) (iv b (b + 251))) 0 0 (iv b (b + 251)) := by
  refine Met.ofW (cc := cX3_goBack) (maxL := 2) (ret := (some .int)) (by decide) rfl ?_
  intro p e s m args below meth c s₁ B hml hv
  obtain ⟨rfl, hB⟩ := hv
  have hx := B.exec
  have hb := B.bytes
  have hr := B.returns
  have hts := atoms_spec (ws := wsX3_goBack) B.pre
  have hown : s.vm.findClass RX3 = some m.cls := findClass_of_methodNamed B.named
  have hlocks := B.notSynchronized
  have hK := hB.1
  obtain ⟨x0, x1, x2, ⟨x3, jm, x4, x5⟩, x6, x7, x8, x9, x10⟩ := hB.2
  have y0 := Sc_obj x1
  have y1 := (Sc_rows x1).1
  obtain ⟨fo, fl, f2, g0, g1, g2, g3, g4⟩ := id x7
  obtain ⟨nx, p0⟩ := Pa_obj x2
  have hn := hz.n
  have hu5 := hz.u5
  have hs8 := hz.s8
  have hS : va_S (iv b (b + 251)) s.heap s.heap [] := va_S.rf
  have hl := lv_entry ([.ref b, .int i]) (n := 2) (Nat.le_of_ble_eq_true rfl)
  rw [lg_entry_eq]
  generalize (lg_sl ([.ref b, .int i]) ++ List.replicate (2 - (lg_sl ([.ref b, .int i])).length) Slot.unset).toArray = ls at hl ⊢
  have hl : lv_has ls 2 [(0, .ref b), (1, .int i)] := hl
  refine lv_iload_n hx hb dX3_goBack_0 rfl (lv_at hl 1 rfl) ?_
  refine r_cS (av := [.int i]) (c_X3_isImage l G t i) ⟨hx, hb, hml, hown, hts⟩ (va_cwS 1 hts gX3_goBack_X3_isImage rfl rfl rfl (by decide +kernel) ⟨Nat.le_of_ble_eq_true rfl, Nat.le_of_ble_eq_true rfl⟩) mv_T trivial rfl hl (Nat.le_of_ble_eq_true rfl) ⟨Nat.le_of_ble_eq_true rfl, Nat.le_of_ble_eq_true rfl⟩ rfl dX3_goBack_1 (fun r1 hr1 => ?_)
  subst hr1
  refine r_ifneB hx hb dX3_goBack_4 (tgt := 10) (by decide) (fun c1 => ?_) (fun c1 => ?_)
  · obtain ⟨j, ja, jb, ej⟩ := in_of (by decide) (by decide) c1
    have ejc : cl i = j := by rw [ej]; exact cl_N (by omega)
    refine lv_aload_n hx hb dX3_goBack_10 rfl (lv_at hl 0 rfl) ?_
    refine r_get (C := RX3) (T := TX3) (N := 8) hx hb hts iiX3_goBack_3 hown hK x0 rfl 3 (by decide) (hts (.fieldLink RX3 27 "HopMeet" "wasKept" "[Z") (List.mem_of_getElem? (i := 2) rfl)) rfl dX3_goBack_11 ?_
    refine lv_iload_n hx hb dX3_goBack_14 rfl (lv_at hl 1 rfl) ?_
    refine r_top (y := nI j) ej ?_
    refine r_zald hx hb hK x6 rfl j (by omega) (by decide) (v := bI (kp j)) rfl dX3_goBack_15 ?_
    refine r_ifneB hx hb dX3_goBack_16 (tgt := 22) (by decide) (fun c2 => ?_) (fun c2 => ?_)
    · have h05 := (hw j (by omega) c2).u5
      have ej5 := x5 j (by omega) c2
      refine lv_aload_n hx hb dX3_goBack_22 rfl (lv_at hl 0 rfl) ?_
      refine r_get (C := RX3) (T := TX3) (N := 8) hx hb hts iiX3_goBack_3 hown hK x0 rfl 0 (by decide) (hts (.fieldLink RX3 10 "HopMeet" "now" "LHopMeet$Scene;") (List.mem_of_getElem? (i := 4) rfl)) rfl dX3_goBack_23 ?_
      refine lv_aload_n hx hb dX3_goBack_26 rfl (lv_at hl 0 rfl) ?_
      refine r_get (C := RX3) (T := TX3) (N := 8) hx hb hts iiX3_goBack_3 hown hK x0 rfl 2 (by decide) (hts (.fieldLink RX3 23 "HopMeet" "images" "[LHopMeet$Scene;") (List.mem_of_getElem? (i := 5) rfl)) rfl dX3_goBack_27 ?_
      refine lv_iload_n hx hb dX3_goBack_30 rfl (lv_at hl 1 rfl) ?_
      refine r_top (y := nI j) ej ?_
      refine r_rald hx hb hK x3 3 rfl rfl j (by omega) (by decide) (b := b + 212 + 16 * j) (rowsG_at (by omega)) dX3_goBack_31 ?_
      refine r_mV (av := [.ref (b + 212 + 16 * j)]) (c_X2_become l G t (b + 1) (b + 212 + 16 * j) (jm j) (by rw [ej5]; exact hw j (by omega) c2) (Or.inl (by omega))) ⟨hx, hb, hml, hown, hts⟩ (cwV 1 hts gX3_goBack_X2_become rfl rfl rfl (by decide +kernel) ⟨Nat.le_of_ble_eq_true rfl, Nat.le_of_ble_eq_true rfl⟩) mv_K ⟨hK, Sc_Sy x1, x4 j (by omega)⟩ (at_recv hK y0 rfl) rfl hl (Nat.le_of_ble_eq_true rfl) ⟨Nat.le_of_ble_eq_true rfl, Nat.le_of_ble_eq_true rfl⟩ rfl dX3_goBack_32 hS (iv_sub (by omega) (by omega)) (fun H locs hP hz9 hk hS => ?_)
      have x0 := at_keptA x0 hk (iv_no (by omega))
      have g0 := at_keptA g0 hk (iv_no (by omega))
      have g1 := at_keptA g1 hk (iv_no (by omega))
      have p0 := at_keptA p0 hk (iv_no (by omega))
      have x6 := at_keptA x6 hk (iv_no (by omega))
      have x3 := at_keptA x3 hk (iv_no (by omega))
      have x1 := hP
      have x2 := Pa_keptA x2 hk (fun q h8 h9 => iv_no (by omega))
      have x4 := fun i hi => Sc_keptA (x4 i hi) hk (fun q h8 h9 => iv_no (by omega))
      have x7 := Gp_keptA x7 hk (fun q h8 h9 => iv_no (by omega))
      have x8 := ex_keptA x8 hk (iv_no (by omega))
      have x9 := ex_keptA x9 hk (iv_no (by omega))
      have x10 := ex_keptA x10 hk (iv_no (by omega))
      rw [ej5] at x1
      have y0 := Sc_obj x1
      refine lv_aload_n hx hb dX3_goBack_35 rfl (lv_at hl 0 rfl) ?_
      refine r_get (C := RX3) (T := TX3) (N := 8) hx hb hts iiX3_goBack_3 hown hK x0 rfl 1 (by decide) (hts (.fieldLink RX3 19 "HopMeet" "past" "LHopMeet$Past;") (List.mem_of_getElem? (i := 6) rfl)) rfl dX3_goBack_36 ?_
      refine r_mV (av := []) (c_X1_forget l G t (b + 17) bc bk) ⟨hx, hb, hml, hown, hts⟩ (cwV 0 hts gX3_goBack_X1_forget rfl rfl rfl (by decide +kernel) ⟨Nat.le_of_ble_eq_true rfl, Nat.le_of_ble_eq_true rfl⟩) mv_K ⟨hK, x2⟩ (at_recv hK p0 rfl) rfl hl (Nat.le_of_ble_eq_true rfl) ⟨Nat.le_of_ble_eq_true rfl, Nat.le_of_ble_eq_true rfl⟩ rfl dX3_goBack_39 hS (iv_sub (by omega) (by omega)) (fun H locs hP hz9 hk hS => ?_)
      have x0 := at_keptA x0 hk (iv_no (by omega))
      have g0 := at_keptA g0 hk (iv_no (by omega))
      have g1 := at_keptA g1 hk (iv_no (by omega))
      have x6 := at_keptA x6 hk (iv_no (by omega))
      have x3 := at_keptA x3 hk (iv_no (by omega))
      have y0 := at_keptA y0 hk (iv_no (by omega))
      have x1 := Sc_keptA x1 hk (fun q h8 h9 => iv_no (by omega))
      have x2 := (hP bk)
      have x4 := fun i hi => Sc_keptA (x4 i hi) hk (fun q h8 h9 => iv_no (by omega))
      have x7 := Gp_keptA x7 hk (fun q h8 h9 => iv_no (by omega))
      have x8 := ex_keptA x8 hk (iv_no (by omega))
      have x9 := ex_keptA x9 hk (iv_no (by omega))
      have x10 := ex_keptA x10 hk (iv_no (by omega))
      refine lv_aload_n hx hb dX3_goBack_42 rfl (lv_at hl 0 rfl) ?_
      refine r_get (C := RX3) (T := TX3) (N := 8) hx hb hts iiX3_goBack_3 hown hK x0 rfl 4 (by decide) (hts (.fieldLink RX3 34 "HopMeet" "groups" "LHopMeet$Groups;") (List.mem_of_getElem? (i := 7) rfl)) rfl dX3_goBack_43 ?_
      refine lv_aload_n hx hb dX3_goBack_46 rfl (lv_at hl 0 rfl) ?_
      refine r_get (C := RX3) (T := TX3) (N := 8) hx hb hts iiX3_goBack_3 hown hK x0 rfl 0 (by decide) (hts (.fieldLink RX3 10 "HopMeet" "now" "LHopMeet$Scene;") (List.mem_of_getElem? (i := 4) rfl)) rfl dX3_goBack_47 ?_
      refine r_get (C := RX2) (T := TX2) (N := 6) hx hb hts iiX3_goBack_2 hown hK y0 rfl 2 (by decide) (hts (.fieldLink RX3 67 "HopMeet$Scene" "userCount" "I") (List.mem_of_getElem? (i := 8) rfl)) rfl dX3_goBack_50 ?_
      refine r_mV (av := [.int (nI (cu (im j)))]) (c_X0_begin l G t (b + 245) gr sl (cu z) (cu (im j)) (by omega)) ⟨hx, hb, hml, hown, hts⟩ (cwV 1 hts gX3_goBack_X0_begin rfl rfl rfl (by decide +kernel) ⟨Nat.le_of_ble_eq_true rfl, Nat.le_of_ble_eq_true rfl⟩) mv_K ⟨hK, x7⟩ (at_recv hK g0 rfl) rfl hl (Nat.le_of_ble_eq_true rfl) ⟨Nat.le_of_ble_eq_true rfl, Nat.le_of_ble_eq_true rfl⟩ rfl dX3_goBack_53 hS (iv_sub (by omega) (by omega)) (fun H locs hP hz9 hk hS => ?_)
      have x0 := at_keptA x0 hk (iv_no (by omega))
      have x6 := at_keptA x6 hk (iv_no (by omega))
      have x3 := at_keptA x3 hk (iv_no (by omega))
      have y0 := at_keptA y0 hk (iv_no (by omega))
      have x1 := Sc_keptA x1 hk (fun q h8 h9 => iv_no (by omega))
      have x2 := Pa_keptA x2 hk (fun q h8 h9 => iv_no (by omega))
      have x4 := fun i hi => Sc_keptA (x4 i hi) hk (fun q h8 h9 => iv_no (by omega))
      have x7 := hP
      have x8 := ex_keptA x8 hk (iv_no (by omega))
      have x9 := ex_keptA x9 hk (iv_no (by omega))
      have x10 := ex_keptA x10 hk (iv_no (by omega))
      refine lv_aload_n hx hb dX3_goBack_56 rfl (lv_at hl 0 rfl) ?_
      refine r_get (C := RX3) (T := TX3) (N := 8) hx hb hts iiX3_goBack_3 hown hK x0 rfl 0 (by decide) (hts (.fieldLink RX3 10 "HopMeet" "now" "LHopMeet$Scene;") (List.mem_of_getElem? (i := 4) rfl)) rfl dX3_goBack_57 ?_
      refine r_get (C := RX2) (T := TX2) (N := 6) hx hb hts iiX3_goBack_2 hown hK y0 rfl 2 (by decide) (hts (.fieldLink RX3 67 "HopMeet$Scene" "userCount" "I") (List.mem_of_getElem? (i := 8) rfl)) rfl dX3_goBack_60 ?_
      exact r_retI (v := nI (cu (im j))) hx hb hr hlocks hS ⟨by unfold rGoBack; rw [c1, ejc, c2]; rfl, by unfold oGoBack; rw [ejc, and_t c1 c2]; exact PX_mk x0 x1 x2 x3 x4 x5 x6 x7 x8 x9 x10⟩ dX3_goBack_63
    · refine lv_ldc (v := (-1000000003)) hx hb hown (hts (.constant RX3 102 (-1000000003)) (List.mem_of_getElem? (i := 3) rfl)) dX3_goBack_19 ?_
      exact r_retI (v := (-1000000003)) hx hb hr hlocks hS ⟨by unfold rGoBack; rw [c1, ejc, c2]; rfl, by unfold oGoBack; rw [ejc, and_f2 c2]; exact hB.2⟩ dX3_goBack_21
  · refine lv_ldc (v := (-1000000001)) hx hb hown (hts (.constant RX3 83 (-1000000001)) (List.mem_of_getElem? (i := 1) rfl)) dX3_goBack_7 ?_
    exact r_retI (v := (-1000000001)) hx hb hr hlocks hS ⟨by unfold rGoBack; rw [c1]; rfl, by unfold oGoBack; rw [and_f1 c1]; exact hB.2⟩ dX3_goBack_9
