/-! the reference: what reads alone, on (printed by wip/whole/m9.py) -/
set_option maxRecDepth 20000 in
theorem iiX4_pointsAt_4 : ∀ w ∈ wsX40, w ∈ wsX4_pointsAt := by decide +kernel
set_option maxHeartbeats 4000000 in
set_option maxRecDepth 100000 in
/-- what a user points at -/
theorem c_X4_pointsAt (l : Launch) (G : va_G) (t : gT) (d : Nat) (z : Nat → Int32) (hz : WF z) (u y : Int32) : Met l yX4_pointsAt wsX4_pointsAt ({ frames := 2, cells := 0, slots := 0, locals := 51 } : Room) (pc_ [.ref d, .int u, .int y] (fun U H => KK G t U ∧ Mn G t d z H)) (vp_Si (fun r => r = rPts u y z)) 0 0 (fun _ => False) := by
  refine Met.ofW (cc := cX4_pointsAt) (maxL := 3) (ret := (some .int)) (by decide) rfl ?_
  intro p e s m args below meth c s₁ B hml hv
  obtain ⟨rfl, hB⟩ := hv
  have hx := B.exec
  have hb := B.bytes
  have hr := B.returns
  have hts := atoms_spec (ws := wsX4_pointsAt) B.pre
  have hown : s.vm.findClass RX4 = some m.cls := findClass_of_methodNamed B.named
  have hlocks := B.notSynchronized
  have hK := hB.1
  obtain ⟨bc, sl, lo, h0, h1⟩ := hB.2
  have hn := hz.n
  have hu5 := hz.u5
  have hs8 := hz.s8
  have hp := prN_in (cn z)
  have hl := lv_entry ([.ref d, .int u, .int y]) (n := 3) (Nat.le_of_ble_eq_true rfl)
  rw [lg_entry_eq]
  generalize (lg_sl ([.ref d, .int u, .int y]) ++ List.replicate (3 - (lg_sl ([.ref d, .int u, .int y])).length) Slot.unset).toArray = ls at hl ⊢
  have hl : lv_has ls 3 [(0, .ref d), (1, .int u), (2, .int y)] := hl
  refine lv_aload_n hx hb dX4_pointsAt_0 rfl (lv_at hl 0 rfl) ?_
  refine lv_iload_n hx hb dX4_pointsAt_1 rfl (lv_at hl 1 rfl) ?_
  refine r_cV (av := [.int u]) (c_X4_isUser l G t d z hz u) ⟨hx, hb, hml, hown, hts⟩ (cwV 1 hts gX4_pointsAt_X4_isUser rfl rfl rfl (by decide +kernel) ⟨Nat.le_of_ble_eq_true rfl, Nat.le_of_ble_eq_true rfl⟩) mv_K hB (at_recv hK h0 rfl) rfl hl (Nat.le_of_ble_eq_true rfl) ⟨Nat.le_of_ble_eq_true rfl, Nat.le_of_ble_eq_true rfl⟩ rfl dX4_pointsAt_2 (fun r1 hr1 => ?_)
  subst hr1
  refine r_ifneB hx hb dX4_pointsAt_5 (tgt := 11) (by decide) (fun c1 => ?_) (fun c1 => ?_)
  · obtain ⟨k, hk, ek⟩ := usB_t hz c1
    have ekc : cl u = k := by rw [ek]; exact cl_N (by omega)
    have huf := hz.us hk
    have hwb := huf.2.2.2.1.2
    refine lv_iload_n hx hb dX4_pointsAt_11 rfl (lv_at hl 2 rfl) ?_
    refine lv_iconst (v := nI 0) hx hb dX4_pointsAt_12 (by decide) ?_
    refine lv_sipush (v := nI 3000) hx hb dX4_pointsAt_13 (by decide) ?_
    refine r_cS (av := [.int y, .int (nI 0), .int (nI 3000)]) (c_X4_in l G t y (nI 0) (nI 3000)) ⟨hx, hb, hml, hown, hts⟩ (va_cwS 3 hts gX4_pointsAt_X4_in rfl rfl rfl (by decide +kernel) ⟨Nat.le_of_ble_eq_true rfl, Nat.le_of_ble_eq_true rfl⟩) mv_T trivial rfl hl (Nat.le_of_ble_eq_true rfl) ⟨Nat.le_of_ble_eq_true rfl, Nat.le_of_ble_eq_true rfl⟩ rfl dX4_pointsAt_16 (fun r2 hr2 => ?_)
    subst hr2
    refine r_ifneB hx hb dX4_pointsAt_19 (tgt := 25) (by decide) (fun c2 => ?_) (fun c2 => ?_)
    · obtain ⟨j, ja, jb, ej⟩ := in_of (by decide) (by decide) c2
      have ejc : cl y = j := by rw [ej]; exact cl_N (by omega)
      refine lv_iload_n hx hb dX4_pointsAt_25 rfl (lv_at hl 2 rfl) ?_
      refine r_top (y := nI j) ej ?_
      refine lv_aload_n hx hb dX4_pointsAt_26 rfl (lv_at hl 0 rfl) ?_
      refine lv_iload_n hx hb dX4_pointsAt_27 rfl (lv_at hl 1 rfl) ?_
      refine r_top (y := nI k) ek ?_
      refine lv_iconst (v := nI 3) hx hb dX4_pointsAt_28 (by decide) ?_
      refine r_cV (av := [.int (nI k), .int (nI 3)]) (c_X4_of l G t d z hz k 3 (by omega) (by decide)) ⟨hx, hb, hml, hown, hts⟩ (cwV 2 hts gX4_pointsAt_X4_of rfl rfl rfl (by decide +kernel) ⟨Nat.le_of_ble_eq_true rfl, Nat.le_of_ble_eq_true rfl⟩) mv_K hB (at_recv hK h0 rfl) rfl hl (Nat.le_of_ble_eq_true rfl) ⟨Nat.le_of_ble_eq_true rfl, Nat.le_of_ble_eq_true rfl⟩ rfl dX4_pointsAt_29 (fun r3 hr3 => ?_)
      subst hr3
      refine r_top (y := nI (uW z k)) huf.2.2.2.1.1 ?_
      refine r_geN hx hb (by omega) (by omega) dX4_pointsAt_32 (tgt := 39) (by decide) (fun c3 => ?_) (fun c3 => ?_)
      · refine lv_aload_n hx hb dX4_pointsAt_39 rfl (lv_at hl 0 rfl) ?_
        refine lv_iload_n hx hb dX4_pointsAt_40 rfl (lv_at hl 1 rfl) ?_
        refine r_top (y := nI k) ek ?_
        refine lv_iload_n hx hb dX4_pointsAt_41 rfl (lv_at hl 2 rfl) ?_
        refine r_top (y := nI j) ej ?_
        refine lv_aload_n hx hb dX4_pointsAt_42 rfl (lv_at hl 0 rfl) ?_
        refine lv_iload_n hx hb dX4_pointsAt_43 rfl (lv_at hl 1 rfl) ?_
        refine r_top (y := nI k) ek ?_
        refine lv_iconst (v := nI 3) hx hb dX4_pointsAt_44 (by decide) ?_
        refine r_cV (av := [.int (nI k), .int (nI 3)]) (c_X4_of l G t d z hz k 3 (by omega) (by decide)) ⟨hx, hb, hml, hown, hts⟩ (cwV 2 hts gX4_pointsAt_X4_of rfl rfl rfl (by decide +kernel) ⟨Nat.le_of_ble_eq_true rfl, Nat.le_of_ble_eq_true rfl⟩) mv_K hB (at_recv hK h0 rfl) rfl hl (Nat.le_of_ble_eq_true rfl) ⟨Nat.le_of_ble_eq_true rfl, Nat.le_of_ble_eq_true rfl⟩ rfl dX4_pointsAt_45 (fun r4 hr4 => ?_)
        subst hr4
        refine r_top (y := nI (uW z k)) huf.2.2.2.1.1 ?_
        refine r_isubN hx hb (by omega) dX4_pointsAt_48 ?_
        refine r_cV (av := [.int (nI k), .int (nI (j - (uW z k)))]) (c_X4_points l G t d z hz k (j - uW z k) hk (by omega)) ⟨hx, hb, hml, hown, hts⟩ (cwV 2 hts gX4_pointsAt_X4_points rfl rfl rfl (by decide +kernel) ⟨Nat.le_of_ble_eq_true rfl, Nat.le_of_ble_eq_true rfl⟩) mv_K hB (at_recv hK h0 rfl) rfl hl (Nat.le_of_ble_eq_true rfl) ⟨Nat.le_of_ble_eq_true rfl, Nat.le_of_ble_eq_true rfl⟩ rfl dX4_pointsAt_49 (fun r5 hr5 => ?_)
        subst hr5
        exact r_retS (v := nI (aimN z k (j - uW z k))) hx hb hr hlocks (by unfold rPts; rw [c1, c2, ekc, ejc]; exact (if_neg (by omega)).symm) dX4_pointsAt_52
      · refine lv_iconst (v := (-1)) hx hb dX4_pointsAt_35 (by decide) ?_
        refine lv_goto (tgt := 52) hx hb dX4_pointsAt_36 (by decide) ?_
        exact r_retS (v := (-1)) hx hb hr hlocks (by unfold rPts; rw [c1, c2, ekc, ejc]; exact (if_pos c3).symm) dX4_pointsAt_52
    · refine lv_ldc (v := (-1000000002)) hx hb hown (hts (.constant RX4 83 (-1000000002)) (List.mem_of_getElem? (i := 2) rfl)) dX4_pointsAt_22 ?_
      exact r_retS (v := (-1000000002)) hx hb hr hlocks (by unfold rPts; rw [c1, c2]; rfl) dX4_pointsAt_24
  · refine lv_ldc (v := (-1000000001)) hx hb hown (hts (.constant RX4 96 (-1000000001)) (List.mem_of_getElem? (i := 1) rfl)) dX4_pointsAt_8 ?_
    exact r_retS (v := (-1000000001)) hx hb hr hlocks (by unfold rPts; rw [c1]; rfl) dX4_pointsAt_10

set_option maxRecDepth 20000 in
theorem iiX4_on_4 : ∀ w ∈ wsX40, w ∈ wsX4_on := by decide +kernel
set_option maxHeartbeats 4000000 in
set_option maxRecDepth 100000 in
/-- at a slot -/
theorem c_X4_on (l : Launch) (G : va_G) (t : gT) (d : Nat) (z : Nat → Int32) (hz : WF z) (u y : Int32) : Met l yX4_on wsX4_on ({ frames := 5, cells := 0, slots := 0, locals := 122 } : Room) (pc_ [.ref d, .int u, .int y] (fun U H => KK G t U ∧ Mn G t d z H)) (vp_Si (fun r => r = rOn u y z)) 0 0 (fun _ => False) := by
  refine Met.ofW (cc := cX4_on) (maxL := 3) (ret := (some .int)) (by decide) rfl ?_
  intro p e s m args below meth c s₁ B hml hv
  obtain ⟨rfl, hB⟩ := hv
  have hx := B.exec
  have hb := B.bytes
  have hr := B.returns
  have hts := atoms_spec (ws := wsX4_on) B.pre
  have hown : s.vm.findClass RX4 = some m.cls := findClass_of_methodNamed B.named
  have hlocks := B.notSynchronized
  have hK := hB.1
  obtain ⟨bc, sl, lo, h0, h1⟩ := hB.2
  have hn := hz.n
  have hu5 := hz.u5
  have hs8 := hz.s8
  have hp := prN_in (cn z)
  have hl := lv_entry ([.ref d, .int u, .int y]) (n := 3) (Nat.le_of_ble_eq_true rfl)
  rw [lg_entry_eq]
  generalize (lg_sl ([.ref d, .int u, .int y]) ++ List.replicate (3 - (lg_sl ([.ref d, .int u, .int y])).length) Slot.unset).toArray = ls at hl ⊢
  have hl : lv_has ls 3 [(0, .ref d), (1, .int u), (2, .int y)] := hl
  refine lv_aload_n hx hb dX4_on_0 rfl (lv_at hl 0 rfl) ?_
  refine lv_iload_n hx hb dX4_on_1 rfl (lv_at hl 1 rfl) ?_
  refine r_cV (av := [.int u]) (c_X4_isUser l G t d z hz u) ⟨hx, hb, hml, hown, hts⟩ (cwV 1 hts gX4_on_X4_isUser rfl rfl rfl (by decide +kernel) ⟨Nat.le_of_ble_eq_true rfl, Nat.le_of_ble_eq_true rfl⟩) mv_K hB (at_recv hK h0 rfl) rfl hl (Nat.le_of_ble_eq_true rfl) ⟨Nat.le_of_ble_eq_true rfl, Nat.le_of_ble_eq_true rfl⟩ rfl dX4_on_2 (fun r1 hr1 => ?_)
  subst hr1
  refine r_ifneB hx hb dX4_on_5 (tgt := 11) (by decide) (fun c1 => ?_) (fun c1 => ?_)
  · obtain ⟨k, hk, ek⟩ := usB_t hz c1
    have ekc : cl u = k := by rw [ek]; exact cl_N (by omega)
    refine lv_iload_n hx hb dX4_on_11 rfl (lv_at hl 2 rfl) ?_
    refine lv_iconst (v := nI 0) hx hb dX4_on_12 (by decide) ?_
    refine lv_sipush (v := nI 3000) hx hb dX4_on_13 (by decide) ?_
    refine r_cS (av := [.int y, .int (nI 0), .int (nI 3000)]) (c_X4_in l G t y (nI 0) (nI 3000)) ⟨hx, hb, hml, hown, hts⟩ (va_cwS 3 hts gX4_on_X4_in rfl rfl rfl (by decide +kernel) ⟨Nat.le_of_ble_eq_true rfl, Nat.le_of_ble_eq_true rfl⟩) mv_T trivial rfl hl (Nat.le_of_ble_eq_true rfl) ⟨Nat.le_of_ble_eq_true rfl, Nat.le_of_ble_eq_true rfl⟩ rfl dX4_on_16 (fun r2 hr2 => ?_)
    subst hr2
    refine r_ifeqB hx hb dX4_on_19 (tgt := 31) (by decide) (fun c2 => ?_) (fun c2 => ?_)
    · refine lv_ldc (v := (-1000000002)) hx hb hown (hts (.constant RX4 83 (-1000000002)) (List.mem_of_getElem? (i := 2) rfl)) dX4_on_31 ?_
      exact r_retS (v := (-1000000002)) hx hb hr hlocks (by unfold rOn; rw [c1, c2]; rfl) dX4_on_33
    · obtain ⟨j, ja, jb, ej⟩ := in_of (by decide) (by decide) c2
      have ejc : cl y = j := by rw [ej]; exact cl_N (by omega)
      refine lv_aload_n hx hb dX4_on_22 rfl (lv_at hl 0 rfl) ?_
      refine lv_iload_n hx hb dX4_on_23 rfl (lv_at hl 1 rfl) ?_
      refine r_top (y := nI k) ek ?_
      refine lv_iload_n hx hb dX4_on_24 rfl (lv_at hl 2 rfl) ?_
      refine r_top (y := nI j) ej ?_
      refine r_cV (av := [.int (nI k), .int (nI j)]) (c_X4_place l G t d z hz k j hk (by omega)) ⟨hx, hb, hml, hown, hts⟩ (cwV 2 hts gX4_on_X4_place rfl rfl rfl (by decide +kernel) ⟨Nat.le_of_ble_eq_true rfl, Nat.le_of_ble_eq_true rfl⟩) mv_K hB (at_recv hK h0 rfl) rfl hl (Nat.le_of_ble_eq_true rfl) ⟨Nat.le_of_ble_eq_true rfl, Nat.le_of_ble_eq_true rfl⟩ rfl dX4_on_25 (fun r3 hr3 => ?_)
      subst hr3
      refine lv_goto (tgt := 33) hx hb dX4_on_28 (by decide) ?_
      exact r_retS (v := plC z k j) hx hb hr hlocks (by unfold rOn; rw [c1, c2, ekc, ejc]; rfl) dX4_on_33
  · refine lv_ldc (v := (-1000000001)) hx hb hown (hts (.constant RX4 96 (-1000000001)) (List.mem_of_getElem? (i := 1) rfl)) dX4_on_8 ?_
    exact r_retS (v := (-1000000001)) hx hb hr hlocks (by unfold rOn; rw [c1]; rfl) dX4_on_10

set_option maxRecDepth 20000 in
theorem iiX4_why_4 : ∀ w ∈ wsX40, w ∈ wsX4_why := by decide +kernel
set_option maxHeartbeats 4000000 in
set_option maxRecDepth 100000 in
/-- at a slot -/
theorem c_X4_why (l : Launch) (G : va_G) (t : gT) (d : Nat) (z : Nat → Int32) (hz : WF z) (u y : Int32) : Met l yX4_why wsX4_why ({ frames := 4, cells := 0, slots := 0, locals := 100 } : Room) (pc_ [.ref d, .int u, .int y] (fun U H => KK G t U ∧ Mn G t d z H)) (vp_Si (fun r => r = rWhy u y z)) 0 0 (fun _ => False) := by
  refine Met.ofW (cc := cX4_why) (maxL := 3) (ret := (some .int)) (by decide) rfl ?_
  intro p e s m args below meth c s₁ B hml hv
  obtain ⟨rfl, hB⟩ := hv
  have hx := B.exec
  have hb := B.bytes
  have hr := B.returns
  have hts := atoms_spec (ws := wsX4_why) B.pre
  have hown : s.vm.findClass RX4 = some m.cls := findClass_of_methodNamed B.named
  have hlocks := B.notSynchronized
  have hK := hB.1
  obtain ⟨bc, sl, lo, h0, h1⟩ := hB.2
  have hn := hz.n
  have hu5 := hz.u5
  have hs8 := hz.s8
  have hp := prN_in (cn z)
  have hl := lv_entry ([.ref d, .int u, .int y]) (n := 3) (Nat.le_of_ble_eq_true rfl)
  rw [lg_entry_eq]
  generalize (lg_sl ([.ref d, .int u, .int y]) ++ List.replicate (3 - (lg_sl ([.ref d, .int u, .int y])).length) Slot.unset).toArray = ls at hl ⊢
  have hl : lv_has ls 3 [(0, .ref d), (1, .int u), (2, .int y)] := hl
  refine lv_aload_n hx hb dX4_why_0 rfl (lv_at hl 0 rfl) ?_
  refine lv_iload_n hx hb dX4_why_1 rfl (lv_at hl 1 rfl) ?_
  refine r_cV (av := [.int u]) (c_X4_isUser l G t d z hz u) ⟨hx, hb, hml, hown, hts⟩ (cwV 1 hts gX4_why_X4_isUser rfl rfl rfl (by decide +kernel) ⟨Nat.le_of_ble_eq_true rfl, Nat.le_of_ble_eq_true rfl⟩) mv_K hB (at_recv hK h0 rfl) rfl hl (Nat.le_of_ble_eq_true rfl) ⟨Nat.le_of_ble_eq_true rfl, Nat.le_of_ble_eq_true rfl⟩ rfl dX4_why_2 (fun r1 hr1 => ?_)
  subst hr1
  refine r_ifneB hx hb dX4_why_5 (tgt := 11) (by decide) (fun c1 => ?_) (fun c1 => ?_)
  · obtain ⟨k, hk, ek⟩ := usB_t hz c1
    have ekc : cl u = k := by rw [ek]; exact cl_N (by omega)
    refine lv_iload_n hx hb dX4_why_11 rfl (lv_at hl 2 rfl) ?_
    refine lv_iconst (v := nI 0) hx hb dX4_why_12 (by decide) ?_
    refine lv_sipush (v := nI 3000) hx hb dX4_why_13 (by decide) ?_
    refine r_cS (av := [.int y, .int (nI 0), .int (nI 3000)]) (c_X4_in l G t y (nI 0) (nI 3000)) ⟨hx, hb, hml, hown, hts⟩ (va_cwS 3 hts gX4_why_X4_in rfl rfl rfl (by decide +kernel) ⟨Nat.le_of_ble_eq_true rfl, Nat.le_of_ble_eq_true rfl⟩) mv_T trivial rfl hl (Nat.le_of_ble_eq_true rfl) ⟨Nat.le_of_ble_eq_true rfl, Nat.le_of_ble_eq_true rfl⟩ rfl dX4_why_16 (fun r2 hr2 => ?_)
    subst hr2
    refine r_ifeqB hx hb dX4_why_19 (tgt := 31) (by decide) (fun c2 => ?_) (fun c2 => ?_)
    · refine lv_ldc (v := (-1000000002)) hx hb hown (hts (.constant RX4 83 (-1000000002)) (List.mem_of_getElem? (i := 2) rfl)) dX4_why_31 ?_
      exact r_retS (v := (-1000000002)) hx hb hr hlocks (by unfold rWhy; rw [c1, c2]; rfl) dX4_why_33
    · obtain ⟨j, ja, jb, ej⟩ := in_of (by decide) (by decide) c2
      have ejc : cl y = j := by rw [ej]; exact cl_N (by omega)
      refine lv_aload_n hx hb dX4_why_22 rfl (lv_at hl 0 rfl) ?_
      refine lv_iload_n hx hb dX4_why_23 rfl (lv_at hl 1 rfl) ?_
      refine r_top (y := nI k) ek ?_
      refine lv_iload_n hx hb dX4_why_24 rfl (lv_at hl 2 rfl) ?_
      refine r_top (y := nI j) ej ?_
      refine r_cV (av := [.int (nI k), .int (nI j)]) (c_X4_whyNot l G t d z hz k j hk (by omega)) ⟨hx, hb, hml, hown, hts⟩ (cwV 2 hts gX4_why_X4_whyNot rfl rfl rfl (by decide +kernel) ⟨Nat.le_of_ble_eq_true rfl, Nat.le_of_ble_eq_true rfl⟩) mv_K hB (at_recv hK h0 rfl) rfl hl (Nat.le_of_ble_eq_true rfl) ⟨Nat.le_of_ble_eq_true rfl, Nat.le_of_ble_eq_true rfl⟩ rfl dX4_why_25 (fun r3 hr3 => ?_)
      subst hr3
      refine lv_goto (tgt := 33) hx hb dX4_why_28 (by decide) ?_
      exact r_retS (v := whC z k j) hx hb hr hlocks (by unfold rWhy; rw [c1, c2, ekc, ejc]; rfl) dX4_why_33
  · refine lv_ldc (v := (-1000000001)) hx hb hown (hts (.constant RX4 96 (-1000000001)) (List.mem_of_getElem? (i := 1) rfl)) dX4_why_8 ?_
    exact r_retS (v := (-1000000001)) hx hb hr hlocks (by unfold rWhy; rw [c1]; rfl) dX4_why_10

set_option maxRecDepth 20000 in
theorem iiX4_first_4 : ∀ w ∈ wsX40, w ∈ wsX4_first := by decide +kernel
set_option maxHeartbeats 4000000 in
set_option maxRecDepth 100000 in
/-- the first slot in which two meet -/
theorem c_X4_first (l : Launch) (G : va_G) (t : gT) (d : Nat) (z : Nat → Int32) (hz : WF z) (u v : Int32) : Met l yX4_first wsX4_first ({ frames := 6, cells := 0, slots := 0, locals := 146 } : Room) (pc_ [.ref d, .int u, .int v] (fun U H => KK G t U ∧ Mn G t d z H)) (vp_Si (fun r => r = rFirst u v z)) 0 0 (fun _ => False) := by
  refine Met.ofW (cc := cX4_first) (maxL := 4) (ret := (some .int)) (by decide) rfl ?_
  intro p e s m args below meth c s₁ B hml hv
  obtain ⟨rfl, hB⟩ := hv
  have hx := B.exec
  have hb := B.bytes
  have hr := B.returns
  have hts := atoms_spec (ws := wsX4_first) B.pre
  have hown : s.vm.findClass RX4 = some m.cls := findClass_of_methodNamed B.named
  have hlocks := B.notSynchronized
  have hK := hB.1
  obtain ⟨bc, sl, lo, h0, h1⟩ := hB.2
  have hn := hz.n
  have hu5 := hz.u5
  have hs8 := hz.s8
  have hp := prN_in (cn z)
  have hl := lv_entry ([.ref d, .int u, .int v]) (n := 4) (Nat.le_of_ble_eq_true rfl)
  rw [lg_entry_eq]
  generalize (lg_sl ([.ref d, .int u, .int v]) ++ List.replicate (4 - (lg_sl ([.ref d, .int u, .int v])).length) Slot.unset).toArray = ls at hl ⊢
  have hl : lv_has ls 4 [(0, .ref d), (1, .int u), (2, .int v)] := hl
  refine lv_aload_n hx hb dX4_first_0 rfl (lv_at hl 0 rfl) ?_
  refine lv_iload_n hx hb dX4_first_1 rfl (lv_at hl 1 rfl) ?_
  refine lv_iload_n hx hb dX4_first_2 rfl (lv_at hl 2 rfl) ?_
  refine r_cV (av := [.int u, .int v]) (c_X4_areTwo l G t d z hz u v) ⟨hx, hb, hml, hown, hts⟩ (cwV 2 hts gX4_first_X4_areTwo rfl rfl rfl (by decide +kernel) ⟨Nat.le_of_ble_eq_true rfl, Nat.le_of_ble_eq_true rfl⟩) mv_K hB (at_recv hK h0 rfl) rfl hl (Nat.le_of_ble_eq_true rfl) ⟨Nat.le_of_ble_eq_true rfl, Nat.le_of_ble_eq_true rfl⟩ rfl dX4_first_3 (fun r1 hr1 => ?_)
  subst hr1
  refine r_ifneB hx hb dX4_first_6 (tgt := 12) (by decide) (fun c1 => ?_) (fun c1 => ?_)
  · obtain ⟨k, k2, hk, hk2, ek, ek2⟩ := twB_t hz c1
    have ekc : cl u = k := by rw [ek]; exact cl_N (by omega)
    have ekc2 : cl v = k2 := by rw [ek2]; exact cl_N (by omega)
    refine lv_iconst (v := nI 0) hx hb dX4_first_12 (by decide) ?_
    refine lv_istore_n (lv' := [(3, .int (nI 0)), (0, .ref d), (1, .int u), (2, .int v)]) hx hb dX4_first_13 rfl hl (by decide) rfl (fun ls hl => ?_)
    have loop14 : ∀ (fu : Nat) (i : Nat) (hi : i ≤ 1500) (hp : ∀ j, j < i → meB z k k2 j = false) (hfu : 1500 - i < fu) (ls : Array Slot) (hl : lv_has ls 4 [(0, .ref d), (1, .int u), (2, .int v), (3, .int (nI i))]), W p l e (headSpec wsX4_first ({ frames := 6, cells := 0, slots := 0, locals := 146 } : Room)).room s m ([.ref d, .int u, .int v] : List Value).toArray below meth c s.heap [] 0 0 (MQ below (vp_Si (fun r => r = rFirst u v z)) ([.ref d, .int u, .int v] : List Value).toArray s 0 0 (fun _ => False)) (F0 m 14 ls []) := by
      intro fu
      induction fu with
      | zero => intro i hi hp hfu; exact absurd hfu (Nat.not_lt_zero _)
      | succ fu14 ih14 =>
        intro i hi hp hfu ls hl
        refine lv_iload_n hx hb dX4_first_14 rfl (lv_at hl 3 rfl) ?_
        refine lv_sipush (v := nI 1500) hx hb dX4_first_15 (by decide) ?_
        refine r_geN hx hb (by omega) (by omega) dX4_first_18 (tgt := 37) (by decide) (fun c2 => ?_) (fun c2 => ?_)
        · refine lv_iload_n hx hb dX4_first_37 rfl (lv_at hl 3 rfl) ?_
          refine lv_sipush (v := nI 1500) hx hb dX4_first_38 (by decide) ?_
          refine r_geN hx hb (by omega) (by omega) dX4_first_41 (tgt := 48) (by decide) (fun _ => ?_) (fun c4 => absurd c2 (by omega))
          refine lv_iconst (v := (-1)) hx hb dX4_first_48 (by decide) ?_
          exact r_retS (v := (-1)) hx hb hr hlocks (by unfold rFirst frN; rw [c1, ekc, ekc2, fi_none (fun j hj => hp j (by omega))]; rfl) dX4_first_49
        · refine lv_aload_n hx hb dX4_first_21 rfl (lv_at hl 0 rfl) ?_
          refine lv_iload_n hx hb dX4_first_22 rfl (lv_at hl 1 rfl) ?_
          refine r_top (y := nI k) ek ?_
          refine lv_iload_n hx hb dX4_first_23 rfl (lv_at hl 2 rfl) ?_
          refine r_top (y := nI k2) ek2 ?_
          refine lv_iload_n hx hb dX4_first_24 rfl (lv_at hl 3 rfl) ?_
          refine r_cV (av := [.int (nI k), .int (nI k2), .int (nI i)]) (c_X4_isMet l G t d z hz k k2 i hk hk2 (by omega)) ⟨hx, hb, hml, hown, hts⟩ (cwV 3 hts gX4_first_X4_isMet rfl rfl rfl (by decide +kernel) ⟨Nat.le_of_ble_eq_true rfl, Nat.le_of_ble_eq_true rfl⟩) mv_K hB (at_recv hK h0 rfl) rfl hl (Nat.le_of_ble_eq_true rfl) ⟨Nat.le_of_ble_eq_true rfl, Nat.le_of_ble_eq_true rfl⟩ rfl dX4_first_25 (fun r2 hr2 => ?_)
          subst hr2
          refine r_ifneB hx hb dX4_first_28 (tgt := 37) (by decide) (fun c3 => ?_) (fun c3 => ?_)
          · refine lv_iload_n hx hb dX4_first_37 rfl (lv_at hl 3 rfl) ?_
            refine lv_sipush (v := nI 1500) hx hb dX4_first_38 (by decide) ?_
            refine r_geN hx hb (by omega) (by omega) dX4_first_41 (tgt := 48) (by decide) (fun c4 => absurd c4 (by omega)) (fun _ => ?_)
            refine lv_iload_n hx hb dX4_first_44 rfl (lv_at hl 3 rfl) ?_
            refine lv_goto (tgt := 49) hx hb dX4_first_45 (by decide) ?_
            exact r_retS (v := nI i) hx hb hr hlocks (by unfold rFirst frN; rw [c1, ekc, ekc2, fi_eq hp c3 c2]; exact (if_pos c2).symm) dX4_first_49
          · refine lv_iinc (v := nI (i + 1)) (lv' := [(3, .int (nI (i + 1))), (0, .ref d), (1, .int u), (2, .int v)]) hx hb dX4_first_31 hl (k := 3) rfl (nI_1 _) (by decide) rfl (fun ls hl => ?_)
            refine lv_goto (tgt := 14) hx hb dX4_first_34 (by decide) ?_
            exact ih14 (i + 1) (by omega) (lt_s hp c3) (by omega) ls (lv_sub hl [1, 2, 3, 0] rfl)
    exact loop14 _ 0 (Nat.zero_le _) (fun j h => absurd h (Nat.not_lt_zero _)) (Nat.lt_succ_self _) ls (lv_sub hl [1, 2, 3, 0] rfl)
  · refine lv_ldc (v := (-1000000001)) hx hb hown (hts (.constant RX4 96 (-1000000001)) (List.mem_of_getElem? (i := 1) rfl)) dX4_first_9 ?_
    exact r_retS (v := (-1000000001)) hx hb hr hlocks (by unfold rFirst; rw [c1]; rfl) dX4_first_11

set_option maxRecDepth 20000 in
theorem iiX4_together_4 : ∀ w ∈ wsX40, w ∈ wsX4_together := by decide +kernel
set_option maxHeartbeats 4000000 in
set_option maxRecDepth 100000 in
/-- how often two meet -/
theorem c_X4_together (l : Launch) (G : va_G) (t : gT) (d : Nat) (z : Nat → Int32) (hz : WF z) (u v n : Int32) : Met l yX4_together wsX4_together ({ frames := 6, cells := 0, slots := 0, locals := 146 } : Room) (pc_ [.ref d, .int u, .int v, .int n] (fun U H => KK G t U ∧ Mn G t d z H)) (vp_Si (fun r => r = rTogether u v n z)) 0 0 (fun _ => False) := by
  refine Met.ofW (cc := cX4_together) (maxL := 6) (ret := (some .int)) (by decide) rfl ?_
  intro p e s m args below meth c s₁ B hml hv
  obtain ⟨rfl, hB⟩ := hv
  have hx := B.exec
  have hb := B.bytes
  have hr := B.returns
  have hts := atoms_spec (ws := wsX4_together) B.pre
  have hown : s.vm.findClass RX4 = some m.cls := findClass_of_methodNamed B.named
  have hlocks := B.notSynchronized
  have hK := hB.1
  obtain ⟨bc, sl, lo, h0, h1⟩ := hB.2
  have hn := hz.n
  have hu5 := hz.u5
  have hs8 := hz.s8
  have hp := prN_in (cn z)
  have hl := lv_entry ([.ref d, .int u, .int v, .int n]) (n := 6) (Nat.le_of_ble_eq_true rfl)
  rw [lg_entry_eq]
  generalize (lg_sl ([.ref d, .int u, .int v, .int n]) ++ List.replicate (6 - (lg_sl ([.ref d, .int u, .int v, .int n])).length) Slot.unset).toArray = ls at hl ⊢
  have hl : lv_has ls 6 [(0, .ref d), (1, .int u), (2, .int v), (3, .int n)] := hl
  refine lv_aload_n hx hb dX4_together_0 rfl (lv_at hl 0 rfl) ?_
  refine lv_iload_n hx hb dX4_together_1 rfl (lv_at hl 1 rfl) ?_
  refine lv_iload_n hx hb dX4_together_2 rfl (lv_at hl 2 rfl) ?_
  refine r_cV (av := [.int u, .int v]) (c_X4_areTwo l G t d z hz u v) ⟨hx, hb, hml, hown, hts⟩ (cwV 2 hts gX4_together_X4_areTwo rfl rfl rfl (by decide +kernel) ⟨Nat.le_of_ble_eq_true rfl, Nat.le_of_ble_eq_true rfl⟩) mv_K hB (at_recv hK h0 rfl) rfl hl (Nat.le_of_ble_eq_true rfl) ⟨Nat.le_of_ble_eq_true rfl, Nat.le_of_ble_eq_true rfl⟩ rfl dX4_together_3 (fun r1 hr1 => ?_)
  subst hr1
  refine r_ifneB hx hb dX4_together_6 (tgt := 12) (by decide) (fun c1 => ?_) (fun c1 => ?_)
  · obtain ⟨k, k2, hk, hk2, ek, ek2⟩ := twB_t hz c1
    have ekc : cl u = k := by rw [ek]; exact cl_N (by omega)
    have ekc2 : cl v = k2 := by rw [ek2]; exact cl_N (by omega)
    refine lv_iload_n hx hb dX4_together_12 rfl (lv_at hl 3 rfl) ?_
    refine lv_iconst (v := nI 0) hx hb dX4_together_13 (by decide) ?_
    refine lv_sipush (v := nI 1500) hx hb dX4_together_14 (by decide) ?_
    refine r_cS (av := [.int n, .int (nI 0), .int (nI 1500)]) (c_X4_in l G t n (nI 0) (nI 1500)) ⟨hx, hb, hml, hown, hts⟩ (va_cwS 3 hts gX4_together_X4_in rfl rfl rfl (by decide +kernel) ⟨Nat.le_of_ble_eq_true rfl, Nat.le_of_ble_eq_true rfl⟩) mv_T trivial rfl hl (Nat.le_of_ble_eq_true rfl) ⟨Nat.le_of_ble_eq_true rfl, Nat.le_of_ble_eq_true rfl⟩ rfl dX4_together_17 (fun r2 hr2 => ?_)
    subst hr2
    refine r_ifneB hx hb dX4_together_20 (tgt := 26) (by decide) (fun c2 => ?_) (fun c2 => ?_)
    · obtain ⟨j, ja, jb, ej⟩ := in_of (by decide) (by decide) c2
      have ejc : cl n = j := by rw [ej]; exact cl_N (by omega)
      refine lv_iconst (v := nI 0) hx hb dX4_together_26 (by decide) ?_
      refine lv_istore (lv' := [(4, .int (nI 0)), (0, .ref d), (1, .int u), (2, .int v), (3, .int n)]) hx hb dX4_together_27 hl (by decide) rfl (fun ls hl => ?_)
      refine lv_iconst (v := nI 0) hx hb dX4_together_29 (by decide) ?_
      refine lv_istore (lv' := [(5, .int (nI 0)), (4, .int (nI 0)), (0, .ref d), (1, .int u), (2, .int v), (3, .int n)]) hx hb dX4_together_30 hl (by decide) rfl (fun ls hl => ?_)
      have loop32 : ∀ (fu : Nat) (i : Nat) (w : Nat) (hi : i ≤ j) (hw : w = cntF (meB z k k2) i) (hfu : j - i < fu) (ls : Array Slot) (hl : lv_has ls 6 [(0, .ref d), (1, .int u), (2, .int v), (3, .int n), (4, .int (nI w)), (5, .int (nI i))]), W p l e (headSpec wsX4_together ({ frames := 6, cells := 0, slots := 0, locals := 146 } : Room)).room s m ([.ref d, .int u, .int v, .int n] : List Value).toArray below meth c s.heap [] 0 0 (MQ below (vp_Si (fun r => r = rTogether u v n z)) ([.ref d, .int u, .int v, .int n] : List Value).toArray s 0 0 (fun _ => False)) (F0 m 32 ls []) := by
        intro fu
        induction fu with
        | zero => intro i w hi hw hfu; exact absurd hfu (Nat.not_lt_zero _)
        | succ fu32 ih32 =>
          intro i w hi hw hfu ls hl
          refine lv_iload hx hb dX4_together_32 (lv_at hl 5 rfl) ?_
          refine lv_iload_n hx hb dX4_together_34 rfl (lv_at hl 3 rfl) ?_
          refine r_top (y := nI j) ej ?_
          refine r_geN hx hb (by omega) (by omega) dX4_together_35 (tgt := 65) (by decide) (fun c6 => ?_) (fun c6 => ?_)
          · refine lv_iload hx hb dX4_together_65 (lv_at hl 4 rfl) ?_
            exact r_retS (v := nI w) hx hb hr hlocks (by unfold rTogether; rw [c1, c2, ekc, ekc2, ejc, hw, show i = j by omega]; rfl) dX4_together_67
          · refine lv_iload hx hb dX4_together_38 (lv_at hl 4 rfl) ?_
            refine lv_aload_n hx hb dX4_together_40 rfl (lv_at hl 0 rfl) ?_
            refine lv_iload_n hx hb dX4_together_41 rfl (lv_at hl 1 rfl) ?_
            refine r_top (y := nI k) ek ?_
            refine lv_iload_n hx hb dX4_together_42 rfl (lv_at hl 2 rfl) ?_
            refine r_top (y := nI k2) ek2 ?_
            refine lv_iload hx hb dX4_together_43 (lv_at hl 5 rfl) ?_
            refine r_cV (av := [.int (nI k), .int (nI k2), .int (nI i)]) (c_X4_isMet l G t d z hz k k2 i hk hk2 (by omega)) ⟨hx, hb, hml, hown, hts⟩ (cwV 3 hts gX4_together_X4_isMet rfl rfl rfl (by decide +kernel) ⟨Nat.le_of_ble_eq_true rfl, Nat.le_of_ble_eq_true rfl⟩) mv_K hB (at_recv hK h0 rfl) rfl hl (Nat.le_of_ble_eq_true rfl) ⟨Nat.le_of_ble_eq_true rfl, Nat.le_of_ble_eq_true rfl⟩ rfl dX4_together_45 (fun r3 hr3 => ?_)
            subst hr3
            refine r_ifeqB hx hb dX4_together_48 (tgt := 55) (by decide) (fun c3 => ?_) (fun c3 => ?_)
            · refine lv_iconst (v := nI 0) hx hb dX4_together_55 (by decide) ?_
              refine r_iaddN hx hb dX4_together_56 ?_
              refine lv_istore (lv' := [(4, .int (nI (w + 0))), (0, .ref d), (1, .int u), (2, .int v), (3, .int n), (5, .int (nI i))]) hx hb dX4_together_57 hl (by decide) rfl (fun ls hl => ?_)
              refine lv_iinc (v := nI (i + 1)) (lv' := [(5, .int (nI (i + 1))), (4, .int (nI (w + 0))), (0, .ref d), (1, .int u), (2, .int v), (3, .int n)]) hx hb dX4_together_59 hl (k := 5) rfl (nI_1 _) (by decide) rfl (fun ls hl => ?_)
              refine lv_goto (tgt := 32) hx hb dX4_together_62 (by decide) ?_
              exact ih32 (i + 1) w (by omega) (cnt_n hw c3) (by omega) ls (lv_sub hl [2, 3, 4, 5, 1, 0] rfl)
            · refine lv_iconst (v := nI 1) hx hb dX4_together_51 (by decide) ?_
              refine lv_goto (tgt := 56) hx hb dX4_together_52 (by decide) ?_
              refine r_iaddN hx hb dX4_together_56 ?_
              refine lv_istore (lv' := [(4, .int (nI (w + 1))), (0, .ref d), (1, .int u), (2, .int v), (3, .int n), (5, .int (nI i))]) hx hb dX4_together_57 hl (by decide) rfl (fun ls hl => ?_)
              refine lv_iinc (v := nI (i + 1)) (lv' := [(5, .int (nI (i + 1))), (4, .int (nI (w + 1))), (0, .ref d), (1, .int u), (2, .int v), (3, .int n)]) hx hb dX4_together_59 hl (k := 5) rfl (nI_1 _) (by decide) rfl (fun ls hl => ?_)
              refine lv_goto (tgt := 32) hx hb dX4_together_62 (by decide) ?_
              exact ih32 (i + 1) (w + 1) (by omega) (cnt_y hw c3) (by omega) ls (lv_sub hl [2, 3, 4, 5, 1, 0] rfl)
      exact loop32 _ 0 0 (Nat.zero_le _) rfl (Nat.lt_succ_self _) ls (lv_sub hl [2, 3, 4, 5, 1, 0] rfl)
    · refine lv_ldc (v := (-1000000002)) hx hb hown (hts (.constant RX4 83 (-1000000002)) (List.mem_of_getElem? (i := 2) rfl)) dX4_together_23 ?_
      exact r_retS (v := (-1000000002)) hx hb hr hlocks (by unfold rTogether; rw [c1, c2]; rfl) dX4_together_25
  · refine lv_ldc (v := (-1000000001)) hx hb hown (hts (.constant RX4 96 (-1000000001)) (List.mem_of_getElem? (i := 1) rfl)) dX4_together_9 ?_
    exact r_retS (v := (-1000000001)) hx hb hr hlocks (by unfold rTogether; rw [c1]; rfl) dX4_together_11

set_option maxRecDepth 20000 in
theorem iiX4_worstOf_4 : ∀ w ∈ wsX40, w ∈ wsX4_worstOf := by decide +kernel
set_option maxHeartbeats 4000000 in
set_option maxRecDepth 100000 in
/-- the worst of all shifts -/
theorem c_X4_worstOf (l : Launch) (G : va_G) (t : gT) (d : Nat) (z : Nat → Int32) (hz : WF z) (k k2 d0 : Nat) (hk0 : k < cu z) (hk2 : k2 < cu z) (hd : d0 ≤ 200) : Met l yX4_worstOf wsX4_worstOf ({ frames := 3, cells := 0, slots := 0, locals := 77 } : Room) (pc_ [.ref d, .int (nI k), .int (nI k2), .int (nI d0)] (fun U H => KK G t U ∧ Mn G t d z H)) (vp_Si (fun r => r = nI (wsN z k k2 (d0 + 1)))) 0 0 (fun _ => False) := by
  refine Met.ofW (cc := cX4_worstOf) (maxL := 7) (ret := (some .int)) (by decide) rfl ?_
  intro p e s m args below meth c s₁ B hml hv
  obtain ⟨rfl, hB⟩ := hv
  have hx := B.exec
  have hb := B.bytes
  have hr := B.returns
  have hts := atoms_spec (ws := wsX4_worstOf) B.pre
  have hown : s.vm.findClass RX4 = some m.cls := findClass_of_methodNamed B.named
  have hlocks := B.notSynchronized
  have hK := hB.1
  obtain ⟨bc, sl, lo, h0, h1⟩ := hB.2
  have hn := hz.n
  have hu5 := hz.u5
  have hs8 := hz.s8
  have hp := prN_in (cn z)
  have huf := hz.us hk0
  have b5 := hz.o hk0
  have hl := lv_entry ([.ref d, .int (nI k), .int (nI k2), .int (nI d0)]) (n := 7) (Nat.le_of_ble_eq_true rfl)
  rw [lg_entry_eq]
  generalize (lg_sl ([.ref d, .int (nI k), .int (nI k2), .int (nI d0)]) ++ List.replicate (7 - (lg_sl ([.ref d, .int (nI k), .int (nI k2), .int (nI d0)])).length) Slot.unset).toArray = ls at hl ⊢
  have hl : lv_has ls 7 [(0, .ref d), (1, .int (nI k)), (2, .int (nI k2)), (3, .int (nI d0))] := hl
  refine lv_iconst (v := nI 0) hx hb dX4_worstOf_0 (by decide) ?_
  refine lv_istore (lv' := [(4, .int (nI 0)), (0, .ref d), (1, .int (nI k)), (2, .int (nI k2)), (3, .int (nI d0))]) hx hb dX4_worstOf_1 hl (by decide) rfl (fun ls hl => ?_)
  refine lv_iconst (v := nI 0) hx hb dX4_worstOf_3 (by decide) ?_
  refine lv_istore (lv' := [(5, .int (nI 0)), (4, .int (nI 0)), (0, .ref d), (1, .int (nI k)), (2, .int (nI k2)), (3, .int (nI d0))]) hx hb dX4_worstOf_4 hl (by decide) rfl (fun ls hl => ?_)
  have loop6 : ∀ (fu : Nat) (x : Nat) (hx8 : x ≤ d0 + 1) (hfu : d0 + 1 - x < fu) (ls : Array Slot) (hl : lv_has ls 7 [(0, .ref d), (1, .int (nI k)), (2, .int (nI k2)), (3, .int (nI d0)), (4, .int (nI (wsN z k k2 x))), (5, .int (nI x))]), W p l e (headSpec wsX4_worstOf ({ frames := 3, cells := 0, slots := 0, locals := 77 } : Room)).room s m ([.ref d, .int (nI k), .int (nI k2), .int (nI d0)] : List Value).toArray below meth c s.heap [] 0 0 (MQ below (vp_Si (fun r => r = nI (wsN z k k2 (d0 + 1)))) ([.ref d, .int (nI k), .int (nI k2), .int (nI d0)] : List Value).toArray s 0 0 (fun _ => False)) (F0 m 6 ls []) := by
    intro fu
    induction fu with
    | zero => intro x hx8 hfu; exact absurd hfu (Nat.not_lt_zero _)
    | succ fu6 ih6 =>
      intro x hx8 hfu ls hl
      have hw1 := wsN_le z k k2 x
      refine lv_iload hx hb dX4_worstOf_6 (lv_at hl 5 rfl) ?_
      refine lv_iload_n hx hb dX4_worstOf_8 rfl (lv_at hl 3 rfl) ?_
      refine r_gtN hx hb (by omega) (by omega) dX4_worstOf_9 (tgt := 93) (by decide) (fun c1 => ?_) (fun c1 => ?_)
      · refine lv_iload hx hb dX4_worstOf_93 (lv_at hl 4 rfl) ?_
        exact r_retS (v := nI (wsN z k k2 x)) hx hb hr hlocks (by rw [show x = d0 + 1 by omega]) dX4_worstOf_95
      · refine lv_iconst (v := nI 0) hx hb dX4_worstOf_12 (by decide) ?_
        refine lv_istore (lv' := [(6, .int (nI 0)), (0, .ref d), (1, .int (nI k)), (2, .int (nI k2)), (3, .int (nI d0)), (4, .int (nI (wsN z k k2 x))), (5, .int (nI x))]) hx hb dX4_worstOf_13 hl (by decide) rfl (fun ls hl => ?_)
        have loop15 : ∀ (fu : Nat) (i : Nat) (hi : i ≤ 1500) (hp : ∀ j, j < i → wsP z k k2 x j = false) (hfu : 1500 - i < fu) (ls : Array Slot) (hl : lv_has ls 7 [(0, .ref d), (1, .int (nI k)), (2, .int (nI k2)), (3, .int (nI d0)), (4, .int (nI (wsN z k k2 x))), (5, .int (nI x)), (6, .int (nI i))]), W p l e (headSpec wsX4_worstOf ({ frames := 3, cells := 0, slots := 0, locals := 77 } : Room)).room s m ([.ref d, .int (nI k), .int (nI k2), .int (nI d0)] : List Value).toArray below meth c s.heap [] 0 0 (MQ below (vp_Si (fun r => r = nI (wsN z k k2 (d0 + 1)))) ([.ref d, .int (nI k), .int (nI k2), .int (nI d0)] : List Value).toArray s 0 0 (fun _ => False)) (F0 m 15 ls []) := by
          intro fu
          induction fu with
          | zero => intro i hi hp hfu; exact absurd hfu (Nat.not_lt_zero _)
          | succ fu15 ih15 =>
            intro i hi hp hfu ls hl
            refine lv_iload hx hb dX4_worstOf_15 (lv_at hl 6 rfl) ?_
            refine lv_sipush (v := nI 1500) hx hb dX4_worstOf_17 (by decide) ?_
            refine r_geN hx hb (by omega) (by omega) dX4_worstOf_20 (tgt := 58) (by decide) (fun c2 => ?_) (fun c2 => ?_)
            · have hT : wsT z k k2 x = 1500 := fi_none (fun j hj => hp j (by omega))
              refine lv_iload hx hb dX4_worstOf_58 (lv_at hl 6 rfl) ?_
              refine lv_sipush (v := nI 1500) hx hb dX4_worstOf_60 (by decide) ?_
              refine r_neN hx hb (by omega) (by omega) dX4_worstOf_63 (tgt := 71) (by decide) (fun c5 => absurd c2 (by omega)) (fun _ => ?_)
              refine lv_ldc (v := (99999)) hx hb hown (hts (.constant RX4 126 (99999)) (List.mem_of_getElem? (i := 1) rfl)) dX4_worstOf_66 ?_
              refine r_top (y := nI 99999) rfl ?_
              refine lv_goto (tgt := 85) hx hb dX4_worstOf_68 (by decide) ?_
              refine r_top (y := nI (wsN z k k2 (x + 1))) (congrArg nI (ws_s1 hT)) ?_
              refine lv_istore (lv' := [(4, .int (nI (wsN z k k2 (x + 1)))), (0, .ref d), (1, .int (nI k)), (2, .int (nI k2)), (3, .int (nI d0)), (5, .int (nI x)), (6, .int (nI i))]) hx hb dX4_worstOf_85 hl (by decide) rfl (fun ls hl => ?_)
              refine lv_iinc (v := nI (x + 1)) (lv' := [(5, .int (nI (x + 1))), (4, .int (nI (wsN z k k2 (x + 1)))), (0, .ref d), (1, .int (nI k)), (2, .int (nI k2)), (3, .int (nI d0)), (6, .int (nI i))]) hx hb dX4_worstOf_87 hl (k := 5) rfl (nI_1 _) (by decide) rfl (fun ls hl => ?_)
              refine lv_goto (tgt := 6) hx hb dX4_worstOf_90 (by decide) ?_
              exact ih6 (x + 1) (by omega) (by omega) ls (lv_sub hl [2, 3, 4, 5, 1, 0] rfl)
            · refine lv_aload_n hx hb dX4_worstOf_23 rfl (lv_at hl 0 rfl) ?_
              refine lv_iload_n hx hb dX4_worstOf_24 rfl (lv_at hl 1 rfl) ?_
              refine lv_iconst (v := nI 4) hx hb dX4_worstOf_25 (by decide) ?_
              refine r_cV (av := [.int (nI k), .int (nI 4)]) (c_X4_of l G t d z hz k 4 (by omega) (by decide)) ⟨hx, hb, hml, hown, hts⟩ (cwV 2 hts gX4_worstOf_X4_of rfl rfl rfl (by decide +kernel) ⟨Nat.le_of_ble_eq_true rfl, Nat.le_of_ble_eq_true rfl⟩) mv_K hB (at_recv hK h0 rfl) rfl hl (Nat.le_of_ble_eq_true rfl) ⟨Nat.le_of_ble_eq_true rfl, Nat.le_of_ble_eq_true rfl⟩ rfl dX4_worstOf_26 (fun r1 hr1 => ?_)
              subst hr1
              refine r_top (y := nI (uO z k)) huf.2.2.2.2.1 ?_
              refine r_ifeqN hx hb (by omega) dX4_worstOf_29 (tgt := 52) (by decide) (fun c3 => ?_) (fun c3 => ?_)
              · refine lv_iinc (v := nI (i + 1)) (lv' := [(6, .int (nI (i + 1))), (0, .ref d), (1, .int (nI k)), (2, .int (nI k2)), (3, .int (nI d0)), (4, .int (nI (wsN z k k2 x))), (5, .int (nI x))]) hx hb dX4_worstOf_52 hl (k := 6) rfl (nI_1 _) (by decide) rfl (fun ls hl => ?_)
                refine lv_goto (tgt := 15) hx hb dX4_worstOf_55 (by decide) ?_
                exact ih15 (i + 1) (by omega) (lt_s hp (ws_no hz hk0 (by first | exact Or.inl c3 | exact Or.inr c4))) (by omega) ls (lv_sub hl [1, 2, 3, 4, 5, 6, 0] rfl)
              · refine lv_aload_n hx hb dX4_worstOf_32 rfl (lv_at hl 0 rfl) ?_
                refine lv_iload_n hx hb dX4_worstOf_33 rfl (lv_at hl 1 rfl) ?_
                refine lv_iload hx hb dX4_worstOf_34 (lv_at hl 6 rfl) ?_
                refine lv_iload hx hb dX4_worstOf_36 (lv_at hl 5 rfl) ?_
                refine r_iaddN hx hb dX4_worstOf_38 ?_
                refine r_cV (av := [.int (nI k), .int (nI (i + x))]) (c_X4_lands l G t d z hz k (i + x) hk0 (by omega)) ⟨hx, hb, hml, hown, hts⟩ (cwV 2 hts gX4_worstOf_X4_lands rfl rfl rfl (by decide +kernel) ⟨Nat.le_of_ble_eq_true rfl, Nat.le_of_ble_eq_true rfl⟩) mv_K hB (at_recv hK h0 rfl) rfl hl (Nat.le_of_ble_eq_true rfl) ⟨Nat.le_of_ble_eq_true rfl, Nat.le_of_ble_eq_true rfl⟩ rfl dX4_worstOf_39 (fun r2 hr2 => ?_)
                subst hr2
                refine lv_aload_n hx hb dX4_worstOf_42 rfl (lv_at hl 0 rfl) ?_
                refine lv_iload_n hx hb dX4_worstOf_43 rfl (lv_at hl 2 rfl) ?_
                refine lv_iload hx hb dX4_worstOf_44 (lv_at hl 6 rfl) ?_
                refine r_cV (av := [.int (nI k2), .int (nI i)]) (c_X4_lands l G t d z hz k2 i hk2 (by omega)) ⟨hx, hb, hml, hown, hts⟩ (cwV 2 hts gX4_worstOf_X4_lands rfl rfl rfl (by decide +kernel) ⟨Nat.le_of_ble_eq_true rfl, Nat.le_of_ble_eq_true rfl⟩) mv_K hB (at_recv hK h0 rfl) rfl hl (Nat.le_of_ble_eq_true rfl) ⟨Nat.le_of_ble_eq_true rfl, Nat.le_of_ble_eq_true rfl⟩ rfl dX4_worstOf_46 (fun r3 hr3 => ?_)
                subst hr3
                refine lv_icmp_eq (tgt := 58) hx hb dX4_worstOf_49 (by decide) (fun c4 => ?_) (fun c4 => ?_)
                · have hT : wsT z k k2 x = i := fi_eq hp (ws_yes hz hk0 c3 c4) c2
                  refine lv_iload hx hb dX4_worstOf_58 (lv_at hl 6 rfl) ?_
                  refine lv_sipush (v := nI 1500) hx hb dX4_worstOf_60 (by decide) ?_
                  refine r_neN hx hb (by omega) (by omega) dX4_worstOf_63 (tgt := 71) (by decide) (fun _ => ?_) (fun c5 => absurd c5 (by omega))
                  refine lv_iload hx hb dX4_worstOf_71 (lv_at hl 6 rfl) ?_
                  refine lv_iload hx hb dX4_worstOf_73 (lv_at hl 4 rfl) ?_
                  refine r_leN hx hb (by omega) (by omega) dX4_worstOf_75 (tgt := 83) (by decide) (fun c6 => ?_) (fun c6 => ?_)
                  · refine lv_iload hx hb dX4_worstOf_83 (lv_at hl 4 rfl) ?_
                    refine r_top (y := nI (wsN z k k2 (x + 1))) (congrArg nI (ws_s3 hT c2 c6)) ?_
                    refine lv_istore (lv' := [(4, .int (nI (wsN z k k2 (x + 1)))), (0, .ref d), (1, .int (nI k)), (2, .int (nI k2)), (3, .int (nI d0)), (5, .int (nI x)), (6, .int (nI i))]) hx hb dX4_worstOf_85 hl (by decide) rfl (fun ls hl => ?_)
                    refine lv_iinc (v := nI (x + 1)) (lv' := [(5, .int (nI (x + 1))), (4, .int (nI (wsN z k k2 (x + 1)))), (0, .ref d), (1, .int (nI k)), (2, .int (nI k2)), (3, .int (nI d0)), (6, .int (nI i))]) hx hb dX4_worstOf_87 hl (k := 5) rfl (nI_1 _) (by decide) rfl (fun ls hl => ?_)
                    refine lv_goto (tgt := 6) hx hb dX4_worstOf_90 (by decide) ?_
                    exact ih6 (x + 1) (by omega) (by omega) ls (lv_sub hl [2, 3, 4, 5, 1, 0] rfl)
                  · refine lv_iload hx hb dX4_worstOf_78 (lv_at hl 6 rfl) ?_
                    refine lv_goto (tgt := 85) hx hb dX4_worstOf_80 (by decide) ?_
                    refine r_top (y := nI (wsN z k k2 (x + 1))) (congrArg nI (ws_s2 hT c2 (Nat.not_le.mpr c6))) ?_
                    refine lv_istore (lv' := [(4, .int (nI (wsN z k k2 (x + 1)))), (0, .ref d), (1, .int (nI k)), (2, .int (nI k2)), (3, .int (nI d0)), (5, .int (nI x)), (6, .int (nI i))]) hx hb dX4_worstOf_85 hl (by decide) rfl (fun ls hl => ?_)
                    refine lv_iinc (v := nI (x + 1)) (lv' := [(5, .int (nI (x + 1))), (4, .int (nI (wsN z k k2 (x + 1)))), (0, .ref d), (1, .int (nI k)), (2, .int (nI k2)), (3, .int (nI d0)), (6, .int (nI i))]) hx hb dX4_worstOf_87 hl (k := 5) rfl (nI_1 _) (by decide) rfl (fun ls hl => ?_)
                    refine lv_goto (tgt := 6) hx hb dX4_worstOf_90 (by decide) ?_
                    exact ih6 (x + 1) (by omega) (by omega) ls (lv_sub hl [2, 3, 4, 5, 1, 0] rfl)
                · refine lv_iinc (v := nI (i + 1)) (lv' := [(6, .int (nI (i + 1))), (0, .ref d), (1, .int (nI k)), (2, .int (nI k2)), (3, .int (nI d0)), (4, .int (nI (wsN z k k2 x))), (5, .int (nI x))]) hx hb dX4_worstOf_52 hl (k := 6) rfl (nI_1 _) (by decide) rfl (fun ls hl => ?_)
                  refine lv_goto (tgt := 15) hx hb dX4_worstOf_55 (by decide) ?_
                  exact ih15 (i + 1) (by omega) (lt_s hp (ws_no hz hk0 (by first | exact Or.inl c3 | exact Or.inr c4))) (by omega) ls (lv_sub hl [1, 2, 3, 4, 5, 6, 0] rfl)
        exact loop15 _ 0 (Nat.zero_le _) (fun j h => absurd h (Nat.not_lt_zero _)) (Nat.lt_succ_self _) ls (lv_sub hl [1, 2, 3, 4, 5, 6, 0] rfl)
  exact loop6 _ 0 (Nat.zero_le _) (Nat.lt_succ_self _) ls (lv_sub hl [2, 3, 4, 5, 1, 0] rfl)

set_option maxRecDepth 20000 in
theorem iiX4_worst_4 : ∀ w ∈ wsX40, w ∈ wsX4_worst := by decide +kernel
set_option maxHeartbeats 4000000 in
set_option maxRecDepth 100000 in
/-- the worst of all shifts -/
theorem c_X4_worst (l : Launch) (G : va_G) (t : gT) (d0 : Nat) (z : Nat → Int32) (hz : WF z) (u v d : Int32) : Met l yX4_worst wsX4_worst ({ frames := 4, cells := 0, slots := 0, locals := 103 } : Room) (pc_ [.ref d0, .int u, .int v, .int d] (fun U H => KK G t U ∧ Mn G t d0 z H)) (vp_Si (fun r => r = rWorst u v d z)) 0 0 (fun _ => False) := by
  refine Met.ofW (cc := cX4_worst) (maxL := 4) (ret := (some .int)) (by decide) rfl ?_
  intro p e s m args below meth c s₁ B hml hv
  obtain ⟨rfl, hB⟩ := hv
  have hx := B.exec
  have hb := B.bytes
  have hr := B.returns
  have hts := atoms_spec (ws := wsX4_worst) B.pre
  have hown : s.vm.findClass RX4 = some m.cls := findClass_of_methodNamed B.named
  have hlocks := B.notSynchronized
  have hK := hB.1
  obtain ⟨bc, sl, lo, h0, h1⟩ := hB.2
  have hn := hz.n
  have hu5 := hz.u5
  have hs8 := hz.s8
  have hp := prN_in (cn z)
  have hl := lv_entry ([.ref d0, .int u, .int v, .int d]) (n := 4) (Nat.le_of_ble_eq_true rfl)
  rw [lg_entry_eq]
  generalize (lg_sl ([.ref d0, .int u, .int v, .int d]) ++ List.replicate (4 - (lg_sl ([.ref d0, .int u, .int v, .int d])).length) Slot.unset).toArray = ls at hl ⊢
  have hl : lv_has ls 4 [(0, .ref d0), (1, .int u), (2, .int v), (3, .int d)] := hl
  refine lv_aload_n hx hb dX4_worst_0 rfl (lv_at hl 0 rfl) ?_
  refine lv_iload_n hx hb dX4_worst_1 rfl (lv_at hl 1 rfl) ?_
  refine lv_iload_n hx hb dX4_worst_2 rfl (lv_at hl 2 rfl) ?_
  refine r_cV (av := [.int u, .int v]) (c_X4_areTwo l G t d0 z hz u v) ⟨hx, hb, hml, hown, hts⟩ (cwV 2 hts gX4_worst_X4_areTwo rfl rfl rfl (by decide +kernel) ⟨Nat.le_of_ble_eq_true rfl, Nat.le_of_ble_eq_true rfl⟩) mv_K hB (at_recv hK h0 rfl) rfl hl (Nat.le_of_ble_eq_true rfl) ⟨Nat.le_of_ble_eq_true rfl, Nat.le_of_ble_eq_true rfl⟩ rfl dX4_worst_3 (fun r1 hr1 => ?_)
  subst hr1
  refine r_ifneB hx hb dX4_worst_6 (tgt := 12) (by decide) (fun c1 => ?_) (fun c1 => ?_)
  · obtain ⟨k, k2, hk, hk2, ek, ek2⟩ := twB_t hz c1
    have ekc : cl u = k := by rw [ek]; exact cl_N (by omega)
    have ekc2 : cl v = k2 := by rw [ek2]; exact cl_N (by omega)
    refine lv_iload_n hx hb dX4_worst_12 rfl (lv_at hl 3 rfl) ?_
    refine lv_iconst (v := nI 0) hx hb dX4_worst_13 (by decide) ?_
    refine lv_sipush (v := nI 200) hx hb dX4_worst_14 (by decide) ?_
    refine r_cS (av := [.int d, .int (nI 0), .int (nI 200)]) (c_X4_in l G t d (nI 0) (nI 200)) ⟨hx, hb, hml, hown, hts⟩ (va_cwS 3 hts gX4_worst_X4_in rfl rfl rfl (by decide +kernel) ⟨Nat.le_of_ble_eq_true rfl, Nat.le_of_ble_eq_true rfl⟩) mv_T trivial rfl hl (Nat.le_of_ble_eq_true rfl) ⟨Nat.le_of_ble_eq_true rfl, Nat.le_of_ble_eq_true rfl⟩ rfl dX4_worst_17 (fun r2 hr2 => ?_)
    subst hr2
    refine r_ifeqB hx hb dX4_worst_20 (tgt := 33) (by decide) (fun c2 => ?_) (fun c2 => ?_)
    · refine lv_ldc (v := (-1000000002)) hx hb hown (hts (.constant RX4 83 (-1000000002)) (List.mem_of_getElem? (i := 2) rfl)) dX4_worst_33 ?_
      exact r_retS (v := (-1000000002)) hx hb hr hlocks (by unfold rWorst; rw [c1, c2]; rfl) dX4_worst_35
    · obtain ⟨j, ja, jb, ej⟩ := in_of (by decide) (by decide) c2
      have ejc : cl d = j := by rw [ej]; exact cl_N (by omega)
      refine lv_aload_n hx hb dX4_worst_23 rfl (lv_at hl 0 rfl) ?_
      refine lv_iload_n hx hb dX4_worst_24 rfl (lv_at hl 1 rfl) ?_
      refine r_top (y := nI k) ek ?_
      refine lv_iload_n hx hb dX4_worst_25 rfl (lv_at hl 2 rfl) ?_
      refine r_top (y := nI k2) ek2 ?_
      refine lv_iload_n hx hb dX4_worst_26 rfl (lv_at hl 3 rfl) ?_
      refine r_top (y := nI j) ej ?_
      refine r_cV (av := [.int (nI k), .int (nI k2), .int (nI j)]) (c_X4_worstOf l G t d0 z hz k k2 j hk hk2 (by omega)) ⟨hx, hb, hml, hown, hts⟩ (cwV 3 hts gX4_worst_X4_worstOf rfl rfl rfl (by decide +kernel) ⟨Nat.le_of_ble_eq_true rfl, Nat.le_of_ble_eq_true rfl⟩) mv_K hB (at_recv hK h0 rfl) rfl hl (Nat.le_of_ble_eq_true rfl) ⟨Nat.le_of_ble_eq_true rfl, Nat.le_of_ble_eq_true rfl⟩ rfl dX4_worst_27 (fun r3 hr3 => ?_)
      subst hr3
      refine lv_goto (tgt := 35) hx hb dX4_worst_30 (by decide) ?_
      exact r_retS (v := nI (wsN z k k2 (j + 1))) hx hb hr hlocks (by unfold rWorst; rw [c1, c2, ekc, ekc2, ejc]; rfl) dX4_worst_35
  · refine lv_ldc (v := (-1000000001)) hx hb hown (hts (.constant RX4 96 (-1000000001)) (List.mem_of_getElem? (i := 1) rfl)) dX4_worst_9 ?_
    exact r_retS (v := (-1000000001)) hx hb hr hlocks (by unfold rWorst; rw [c1]; rfl) dX4_worst_11

set_option maxRecDepth 20000 in
theorem iiX4_bound_4 : ∀ w ∈ wsX40, w ∈ wsX4_bound := by decide +kernel
set_option maxHeartbeats 4000000 in
set_option maxRecDepth 100000 in
/-- whether a bound holds -/
theorem c_X4_bound (l : Launch) (G : va_G) (t : gT) (d0 : Nat) (z : Nat → Int32) (hz : WF z) (u v d x : Int32) : Met l yX4_bound wsX4_bound ({ frames := 4, cells := 0, slots := 0, locals := 103 } : Room) (pc_ [.ref d0, .int u, .int v, .int d, .int x] (fun U H => KK G t U ∧ Mn G t d0 z H)) (vp_Si (fun r => r = rBound u v d x z)) 0 0 (fun _ => False) := by
  refine Met.ofW (cc := cX4_bound) (maxL := 5) (ret := (some .int)) (by decide) rfl ?_
  intro p e s m args below meth c s₁ B hml hv
  obtain ⟨rfl, hB⟩ := hv
  have hx := B.exec
  have hb := B.bytes
  have hr := B.returns
  have hts := atoms_spec (ws := wsX4_bound) B.pre
  have hown : s.vm.findClass RX4 = some m.cls := findClass_of_methodNamed B.named
  have hlocks := B.notSynchronized
  have hK := hB.1
  obtain ⟨bc, sl, lo, h0, h1⟩ := hB.2
  have hn := hz.n
  have hu5 := hz.u5
  have hs8 := hz.s8
  have hp := prN_in (cn z)
  have hl := lv_entry ([.ref d0, .int u, .int v, .int d, .int x]) (n := 5) (Nat.le_of_ble_eq_true rfl)
  rw [lg_entry_eq]
  generalize (lg_sl ([.ref d0, .int u, .int v, .int d, .int x]) ++ List.replicate (5 - (lg_sl ([.ref d0, .int u, .int v, .int d, .int x])).length) Slot.unset).toArray = ls at hl ⊢
  have hl : lv_has ls 5 [(0, .ref d0), (1, .int u), (2, .int v), (3, .int d), (4, .int x)] := hl
  refine lv_aload_n hx hb dX4_bound_0 rfl (lv_at hl 0 rfl) ?_
  refine lv_iload_n hx hb dX4_bound_1 rfl (lv_at hl 1 rfl) ?_
  refine lv_iload_n hx hb dX4_bound_2 rfl (lv_at hl 2 rfl) ?_
  refine r_cV (av := [.int u, .int v]) (c_X4_areTwo l G t d0 z hz u v) ⟨hx, hb, hml, hown, hts⟩ (cwV 2 hts gX4_bound_X4_areTwo rfl rfl rfl (by decide +kernel) ⟨Nat.le_of_ble_eq_true rfl, Nat.le_of_ble_eq_true rfl⟩) mv_K hB (at_recv hK h0 rfl) rfl hl (Nat.le_of_ble_eq_true rfl) ⟨Nat.le_of_ble_eq_true rfl, Nat.le_of_ble_eq_true rfl⟩ rfl dX4_bound_3 (fun r1 hr1 => ?_)
  subst hr1
  refine r_ifneB hx hb dX4_bound_6 (tgt := 12) (by decide) (fun c1 => ?_) (fun c1 => ?_)
  · obtain ⟨k, k2, hk, hk2, ek, ek2⟩ := twB_t hz c1
    have ekc : cl u = k := by rw [ek]; exact cl_N (by omega)
    have ekc2 : cl v = k2 := by rw [ek2]; exact cl_N (by omega)
    refine lv_iload_n hx hb dX4_bound_12 rfl (lv_at hl 3 rfl) ?_
    refine lv_iconst (v := nI 0) hx hb dX4_bound_13 (by decide) ?_
    refine lv_sipush (v := nI 200) hx hb dX4_bound_14 (by decide) ?_
    refine r_cS (av := [.int d, .int (nI 0), .int (nI 200)]) (c_X4_in l G t d (nI 0) (nI 200)) ⟨hx, hb, hml, hown, hts⟩ (va_cwS 3 hts gX4_bound_X4_in rfl rfl rfl (by decide +kernel) ⟨Nat.le_of_ble_eq_true rfl, Nat.le_of_ble_eq_true rfl⟩) mv_T trivial rfl hl (Nat.le_of_ble_eq_true rfl) ⟨Nat.le_of_ble_eq_true rfl, Nat.le_of_ble_eq_true rfl⟩ rfl dX4_bound_17 (fun r2 hr2 => ?_)
    subst hr2
    refine r_ifeqB hx hb dX4_bound_20 (tgt := 35) (by decide) (fun c2 => ?_) (fun c2 => ?_)
    · refine lv_ldc (v := (-1000000002)) hx hb hown (hts (.constant RX4 83 (-1000000002)) (List.mem_of_getElem? (i := 2) rfl)) dX4_bound_35 ?_
      exact r_retS (v := (-1000000002)) hx hb hr hlocks (by unfold rBound; rw [c1]; first | (rw [and_f1 c2]; rfl) | (rw [and_f2 c3]; rfl)) dX4_bound_37
    · obtain ⟨j, ja, jb, ej⟩ := in_of (by decide) (by decide) c2
      have ejc : cl d = j := by rw [ej]; exact cl_N (by omega)
      refine lv_iload hx hb dX4_bound_23 (lv_at hl 4 rfl) ?_
      refine lv_iconst (v := nI 0) hx hb dX4_bound_25 (by decide) ?_
      refine lv_sipush (v := nI 1500) hx hb dX4_bound_26 (by decide) ?_
      refine r_cS (av := [.int x, .int (nI 0), .int (nI 1500)]) (c_X4_in l G t x (nI 0) (nI 1500)) ⟨hx, hb, hml, hown, hts⟩ (va_cwS 3 hts gX4_bound_X4_in rfl rfl rfl (by decide +kernel) ⟨Nat.le_of_ble_eq_true rfl, Nat.le_of_ble_eq_true rfl⟩) mv_T trivial rfl hl (Nat.le_of_ble_eq_true rfl) ⟨Nat.le_of_ble_eq_true rfl, Nat.le_of_ble_eq_true rfl⟩ rfl dX4_bound_29 (fun r3 hr3 => ?_)
      subst hr3
      refine r_ifneB hx hb dX4_bound_32 (tgt := 38) (by decide) (fun c3 => ?_) (fun c3 => ?_)
      · obtain ⟨i, ia, ib, ei⟩ := in_of (by decide) (by decide) c3
        have eic : cl x = i := by rw [ei]; exact cl_N (by omega)
        refine lv_aload_n hx hb dX4_bound_38 rfl (lv_at hl 0 rfl) ?_
        refine lv_iload_n hx hb dX4_bound_39 rfl (lv_at hl 1 rfl) ?_
        refine r_top (y := nI k) ek ?_
        refine lv_iload_n hx hb dX4_bound_40 rfl (lv_at hl 2 rfl) ?_
        refine r_top (y := nI k2) ek2 ?_
        refine lv_iload_n hx hb dX4_bound_41 rfl (lv_at hl 3 rfl) ?_
        refine r_top (y := nI j) ej ?_
        refine r_cV (av := [.int (nI k), .int (nI k2), .int (nI j)]) (c_X4_worstOf l G t d0 z hz k k2 j hk hk2 (by omega)) ⟨hx, hb, hml, hown, hts⟩ (cwV 3 hts gX4_bound_X4_worstOf rfl rfl rfl (by decide +kernel) ⟨Nat.le_of_ble_eq_true rfl, Nat.le_of_ble_eq_true rfl⟩) mv_K hB (at_recv hK h0 rfl) rfl hl (Nat.le_of_ble_eq_true rfl) ⟨Nat.le_of_ble_eq_true rfl, Nat.le_of_ble_eq_true rfl⟩ rfl dX4_bound_42 (fun r4 hr4 => ?_)
        subst hr4
        refine lv_iload hx hb dX4_bound_45 (lv_at hl 4 rfl) ?_
        refine r_top (y := nI i) ei ?_
        refine r_gtN hx hb (Nat.lt_of_le_of_lt (wsN_le z k k2 _) (by decide)) (by omega) dX4_bound_47 (tgt := 54) (by decide) (fun c7 => ?_) (fun c7 => ?_)
        · refine lv_iconst (v := nI 0) hx hb dX4_bound_54 (by decide) ?_
          exact r_retS (v := nI 0) hx hb hr hlocks (rBound_n c1 (and_t c2 c3) ekc ekc2 ejc eic c7) dX4_bound_55
        · refine lv_iconst (v := nI 1) hx hb dX4_bound_50 (by decide) ?_
          refine lv_goto (tgt := 55) hx hb dX4_bound_51 (by decide) ?_
          exact r_retS (v := nI 1) hx hb hr hlocks (rBound_y c1 (and_t c2 c3) ekc ekc2 ejc eic c7) dX4_bound_55
      · refine lv_ldc (v := (-1000000002)) hx hb hown (hts (.constant RX4 83 (-1000000002)) (List.mem_of_getElem? (i := 2) rfl)) dX4_bound_35 ?_
        exact r_retS (v := (-1000000002)) hx hb hr hlocks (by unfold rBound; rw [c1]; first | (rw [and_f1 c2]; rfl) | (rw [and_f2 c3]; rfl)) dX4_bound_37
  · refine lv_ldc (v := (-1000000001)) hx hb hown (hts (.constant RX4 96 (-1000000001)) (List.mem_of_getElem? (i := 1) rfl)) dX4_bound_9 ?_
    exact r_retS (v := (-1000000001)) hx hb hr hlocks (by unfold rBound; rw [c1]; rfl) dX4_bound_11

set_option maxRecDepth 20000 in
theorem iiX4_groups_4 : ∀ w ∈ wsX40, w ∈ wsX4_groups := by decide +kernel
set_option maxHeartbeats 4000000 in
set_option maxRecDepth 100000 in
/-- how many groups -/
theorem c_X4_groups (l : Launch) (G : va_G) (t : gT) (d : Nat) (z : Nat → Int32) (gr : Nat → Nat) (sl bc : Nat) (bk : Nat → Nat → Int32) (kp : Nat → Bool) (im : Nat → Nat → Int32) (hz : WF z) (hg : ∀ u, gr u ≤ u) : Met l yX4_groups wsX4_groups ({ frames := 0, cells := 0, slots := 0, locals := 0 } : Room) (pc_ [.ref d] (fun U H => KK G t U ∧ PM G t d (z, gr, sl, bc, bk, kp, im) H)) (vp_Si (fun r => r = nI (grN gr (cu z)))) 0 0 (fun _ => False) := by
  refine Met.ofW (cc := cX4_groups) (maxL := 3) (ret := (some .int)) (by decide) rfl ?_
  intro p e s m args below meth c s₁ B hml hv
  obtain ⟨rfl, hB⟩ := hv
  have hx := B.exec
  have hb := B.bytes
  have hr := B.returns
  have hts := atoms_spec (ws := wsX4_groups) B.pre
  have hown : s.vm.findClass RX4 = some m.cls := findClass_of_methodNamed B.named
  have hlocks := B.notSynchronized
  have hK := hB.1
  obtain ⟨lo, fB, fI, fG, fM, h0, h1, h2, h3, h4, h5, h6, e1, e2, e3⟩ := hB.2
  have hn := hz.n
  have hu5 := hz.u5
  have hs8 := hz.s8
  have hl := lv_entry ([.ref d]) (n := 3) (Nat.le_of_ble_eq_true rfl)
  rw [lg_entry_eq]
  generalize (lg_sl ([.ref d]) ++ List.replicate (3 - (lg_sl ([.ref d])).length) Slot.unset).toArray = ls at hl ⊢
  have hl : lv_has ls 3 [(0, .ref d)] := hl
  refine lv_iconst (v := nI 0) hx hb dX4_groups_0 (by decide) ?_
  refine lv_istore_n (lv' := [(1, .int (nI 0)), (0, .ref d)]) hx hb dX4_groups_1 rfl hl (by decide) rfl (fun ls hl => ?_)
  refine lv_iconst (v := nI 0) hx hb dX4_groups_2 (by decide) ?_
  refine lv_istore_n (lv' := [(2, .int (nI 0)), (1, .int (nI 0)), (0, .ref d)]) hx hb dX4_groups_3 rfl hl (by decide) rfl (fun ls hl => ?_)
  have loop4 : ∀ (fu : Nat) (i : Nat) (w : Nat) (hi : i ≤ cu z) (hw : w = cntF (fun u => decide (gr u = u)) i) (hfu : cu z - i < fu) (ls : Array Slot) (hl : lv_has ls 3 [(0, .ref d), (1, .int (nI w)), (2, .int (nI i))]), W p l e (headSpec wsX4_groups ({ frames := 0, cells := 0, slots := 0, locals := 0 } : Room)).room s m ([.ref d] : List Value).toArray below meth c s.heap [] 0 0 (MQ below (vp_Si (fun r => r = nI (grN gr (cu z)))) ([.ref d] : List Value).toArray s 0 0 (fun _ => False)) (F0 m 4 ls []) := by
    intro fu
    induction fu with
    | zero => intro i w hi hw hfu; exact absurd hfu (Nat.not_lt_zero _)
    | succ fu4 ih4 =>
      intro i w hi hw hfu ls hl
      have hgi := hg i
      refine lv_iload_n hx hb dX4_groups_4 rfl (lv_at hl 2 rfl) ?_
      refine lv_aload_n hx hb dX4_groups_5 rfl (lv_at hl 0 rfl) ?_
      refine r_get (C := RX4) (T := TX4) (N := 10) hx hb hts iiX4_groups_4 hown hK h0 rfl 0 (by decide) (hts (.fieldLink RX4 7 "HopMeetModel" "now" "[I") (List.mem_of_getElem? (i := 1) rfl)) rfl dX4_groups_6 ?_
      refine lv_iconst (v := nI 1) hx hb dX4_groups_9 (by decide) ?_
      refine r_iald hx hb hK h1 rfl 1 (by omega) (by decide) (v := nI (cu z)) hz.2.1.1 dX4_groups_10 ?_
      refine r_geN hx hb (by omega) (by omega) dX4_groups_11 (tgt := 38) (by decide) (fun c1 => ?_) (fun c1 => ?_)
      · refine lv_iload_n hx hb dX4_groups_38 rfl (lv_at hl 1 rfl) ?_
        exact r_retS (v := nI w) hx hb hr hlocks (by rw [hw, show i = cu z by omega]; rfl) dX4_groups_39
      · refine lv_iload_n hx hb dX4_groups_14 rfl (lv_at hl 1 rfl) ?_
        refine lv_aload_n hx hb dX4_groups_15 rfl (lv_at hl 0 rfl) ?_
        refine r_get (C := RX4) (T := TX4) (N := 10) hx hb hts iiX4_groups_4 hown hK h0 rfl 7 (by decide) (hts (.fieldLink RX4 23 "HopMeetModel" "group" "[I") (List.mem_of_getElem? (i := 2) rfl)) rfl dX4_groups_16 ?_
        refine lv_iload_n hx hb dX4_groups_19 rfl (lv_at hl 2 rfl) ?_
        refine r_iald hx hb hK h5 rfl i (by omega) (by decide) (v := nI (gr i)) (e3 i (by omega)) dX4_groups_20 ?_
        refine lv_iload_n hx hb dX4_groups_21 rfl (lv_at hl 2 rfl) ?_
        refine r_neN hx hb (by omega) (by omega) dX4_groups_22 (tgt := 29) (by decide) (fun c2 => ?_) (fun c2 => ?_)
        · refine lv_iconst (v := nI 0) hx hb dX4_groups_29 (by decide) ?_
          refine r_iaddN hx hb dX4_groups_30 ?_
          refine lv_istore_n (lv' := [(1, .int (nI (w + 0))), (0, .ref d), (2, .int (nI i))]) hx hb dX4_groups_31 rfl hl (by decide) rfl (fun ls hl => ?_)
          refine lv_iinc (v := nI (i + 1)) (lv' := [(2, .int (nI (i + 1))), (1, .int (nI (w + 0))), (0, .ref d)]) hx hb dX4_groups_32 hl (k := 2) rfl (nI_1 _) (by decide) rfl (fun ls hl => ?_)
          refine lv_goto (tgt := 4) hx hb dX4_groups_35 (by decide) ?_
          exact ih4 (i + 1) w (by omega) (cnt_n hw (decide_eq_false c2)) (by omega) ls (lv_sub hl [2, 1, 0] rfl)
        · refine lv_iconst (v := nI 1) hx hb dX4_groups_25 (by decide) ?_
          refine lv_goto (tgt := 30) hx hb dX4_groups_26 (by decide) ?_
          refine r_iaddN hx hb dX4_groups_30 ?_
          refine lv_istore_n (lv' := [(1, .int (nI (w + 1))), (0, .ref d), (2, .int (nI i))]) hx hb dX4_groups_31 rfl hl (by decide) rfl (fun ls hl => ?_)
          refine lv_iinc (v := nI (i + 1)) (lv' := [(2, .int (nI (i + 1))), (1, .int (nI (w + 1))), (0, .ref d)]) hx hb dX4_groups_32 hl (k := 2) rfl (nI_1 _) (by decide) rfl (fun ls hl => ?_)
          refine lv_goto (tgt := 4) hx hb dX4_groups_35 (by decide) ?_
          exact ih4 (i + 1) (w + 1) (by omega) (cnt_y hw (decide_eq_true c2)) (by omega) ls (lv_sub hl [2, 1, 0] rfl)
  exact loop4 _ 0 0 (Nat.zero_le _) rfl (Nat.lt_succ_self _) ls (lv_sub hl [2, 1, 0] rfl)

set_option maxRecDepth 20000 in
theorem iiX4_told_4 : ∀ w ∈ wsX40, w ∈ wsX4_told := by decide +kernel
set_option maxHeartbeats 4000000 in
set_option maxRecDepth 100000 in
/-- what is told -/
theorem c_X4_told (l : Launch) (G : va_G) (t : gT) (d : Nat) (z : Nat → Int32) (gr : Nat → Nat) (sl bc : Nat) (bk : Nat → Nat → Int32) (kp : Nat → Bool) (im : Nat → Nat → Int32) (hz : WF z) (hg : ∀ u, gr u ≤ u) (w : Int32) : Met l yX4_told wsX4_told ({ frames := 2, cells := 0, slots := 0, locals := 44 } : Room) (pc_ [.ref d, .int w] (fun U H => KK G t U ∧ PM G t d (z, gr, sl, bc, bk, kp, im) H)) (vp_Si (fun r => r = rTold w z gr sl bc)) 0 0 (fun _ => False) := by
  refine Met.ofW (cc := cX4_told) (maxL := 2) (ret := (some .int)) (by decide) rfl ?_
  intro p e s m args below meth c s₁ B hml hv
  obtain ⟨rfl, hB⟩ := hv
  have hx := B.exec
  have hb := B.bytes
  have hr := B.returns
  have hts := atoms_spec (ws := wsX4_told) B.pre
  have hown : s.vm.findClass RX4 = some m.cls := findClass_of_methodNamed B.named
  have hlocks := B.notSynchronized
  have hK := hB.1
  obtain ⟨lo, fB, fI, fG, fM, h0, h1, h2, h3, h4, h5, h6, e1, e2, e3⟩ := hB.2
  have hn := hz.n
  have hu5 := hz.u5
  have hs8 := hz.s8
  have hl := lv_entry ([.ref d, .int w]) (n := 2) (Nat.le_of_ble_eq_true rfl)
  rw [lg_entry_eq]
  generalize (lg_sl ([.ref d, .int w]) ++ List.replicate (2 - (lg_sl ([.ref d, .int w])).length) Slot.unset).toArray = ls at hl ⊢
  have hl : lv_has ls 2 [(0, .ref d), (1, .int w)] := hl
  rcases told_cases w with ⟨hw2, ho⟩ | ⟨hw, ew | ew | ew | ew | ew | ew | ew | ew | ew⟩
  · refine lv_iload_n hx hb dX4_told_0 rfl (lv_at hl 1 rfl) ?_
    refine lv_tableOut (tgt := 112) hx hb dX4_told_1 ho (by decide) ?_
    refine lv_ldc (v := (-1000000002)) hx hb hown (hts (.constant RX4 83 (-1000000002)) (List.mem_of_getElem? (i := 5) rfl)) dX4_told_112 ?_
    exact r_retS (v := (-1000000002)) hx hb hr hlocks (by unfold rTold; rw [hw2]; rfl) dX4_told_114
  · refine lv_iload_n hx hb dX4_told_0 rfl (lv_at hl 1 rfl) ?_
    refine r_top (y := nI 0) ew ?_
    refine lv_tableIn (off := 51) (tgt := 52) hx hb dX4_told_1 (by decide) (by decide) (by decide) (by decide) ?_
    refine lv_aload_n hx hb dX4_told_52 rfl (lv_at hl 0 rfl) ?_
    refine r_get (C := RX4) (T := TX4) (N := 10) hx hb hts iiX4_told_4 hown hK h0 rfl 0 (by decide) (hts (.fieldLink RX4 7 "HopMeetModel" "now" "[I") (List.mem_of_getElem? (i := 1) rfl)) rfl dX4_told_53 ?_
    refine lv_iconst (v := nI 0) hx hb dX4_told_56 (by decide) ?_
    refine r_iald hx hb hK h1 rfl 0 (by omega) (by decide) (v := nI (cn z)) hz.1.1 dX4_told_57 ?_
    exact r_retS (v := nI (cn z)) hx hb hr hlocks (by unfold rTold; rw [hw, ew, show cl (nI 0) = 0 from rfl]; rfl) dX4_told_58
  · refine lv_iload_n hx hb dX4_told_0 rfl (lv_at hl 1 rfl) ?_
    refine r_top (y := nI 1) ew ?_
    refine lv_tableIn (off := 58) (tgt := 59) hx hb dX4_told_1 (by decide) (by decide) (by decide) (by decide) ?_
    refine lv_aload_n hx hb dX4_told_59 rfl (lv_at hl 0 rfl) ?_
    refine r_get (C := RX4) (T := TX4) (N := 10) hx hb hts iiX4_told_4 hown hK h0 rfl 6 (by decide) (hts (.fieldLink RX4 35 "HopMeetModel" "prime" "I") (List.mem_of_getElem? (i := 2) rfl)) rfl dX4_told_60 ?_
    exact r_retS (v := nI (prN (cn z))) hx hb hr hlocks (by unfold rTold; rw [hw, ew, show cl (nI 1) = 1 from rfl]; rfl) dX4_told_63
  · refine lv_iload_n hx hb dX4_told_0 rfl (lv_at hl 1 rfl) ?_
    refine r_top (y := nI 2) ew ?_
    refine lv_tableIn (off := 63) (tgt := 64) hx hb dX4_told_1 (by decide) (by decide) (by decide) (by decide) ?_
    refine lv_aload_n hx hb dX4_told_64 rfl (lv_at hl 0 rfl) ?_
    refine r_get (C := RX4) (T := TX4) (N := 10) hx hb hts iiX4_told_4 hown hK h0 rfl 0 (by decide) (hts (.fieldLink RX4 7 "HopMeetModel" "now" "[I") (List.mem_of_getElem? (i := 1) rfl)) rfl dX4_told_65 ?_
    refine lv_iconst (v := nI 1) hx hb dX4_told_68 (by decide) ?_
    refine r_iald hx hb hK h1 rfl 1 (by omega) (by decide) (v := nI (cu z)) hz.2.1.1 dX4_told_69 ?_
    exact r_retS (v := nI (cu z)) hx hb hr hlocks (by unfold rTold; rw [hw, ew, show cl (nI 2) = 2 from rfl]; rfl) dX4_told_70
  · refine lv_iload_n hx hb dX4_told_0 rfl (lv_at hl 1 rfl) ?_
    refine r_top (y := nI 3) ew ?_
    refine lv_tableIn (off := 70) (tgt := 71) hx hb dX4_told_1 (by decide) (by decide) (by decide) (by decide) ?_
    refine lv_aload_n hx hb dX4_told_71 rfl (lv_at hl 0 rfl) ?_
    refine r_get (C := RX4) (T := TX4) (N := 10) hx hb hts iiX4_told_4 hown hK h0 rfl 0 (by decide) (hts (.fieldLink RX4 7 "HopMeetModel" "now" "[I") (List.mem_of_getElem? (i := 1) rfl)) rfl dX4_told_72 ?_
    refine lv_iconst (v := nI 2) hx hb dX4_told_75 (by decide) ?_
    refine r_iald hx hb hK h1 rfl 2 (by omega) (by decide) (v := nI (cs z)) hz.2.2.1.1 dX4_told_76 ?_
    exact r_retS (v := nI (cs z)) hx hb hr hlocks (by unfold rTold; rw [hw, ew, show cl (nI 3) = 3 from rfl]; rfl) dX4_told_77
  · refine lv_iload_n hx hb dX4_told_0 rfl (lv_at hl 1 rfl) ?_
    refine r_top (y := nI 4) ew ?_
    refine lv_tableIn (off := 77) (tgt := 78) hx hb dX4_told_1 (by decide) (by decide) (by decide) (by decide) ?_
    refine lv_aload_n hx hb dX4_told_78 rfl (lv_at hl 0 rfl) ?_
    refine r_cV (av := []) (c_X4_common l G t d z hz) ⟨hx, hb, hml, hown, hts⟩ (cwV 0 hts gX4_told_X4_common rfl rfl rfl (by decide +kernel) ⟨Nat.le_of_ble_eq_true rfl, Nat.le_of_ble_eq_true rfl⟩) mv_K ⟨hK, ⟨_, _, _, h0, h1⟩⟩ (at_recv hK h0 rfl) rfl hl (Nat.le_of_ble_eq_true rfl) ⟨Nat.le_of_ble_eq_true rfl, Nat.le_of_ble_eq_true rfl⟩ rfl dX4_told_79 (fun r1 hr1 => ?_)
    subst hr1
    exact r_retS (v := nI (comN z (cu z))) hx hb hr hlocks (by unfold rTold; rw [hw, ew, show cl (nI 4) = 4 from rfl]; rfl) dX4_told_82
  · refine lv_iload_n hx hb dX4_told_0 rfl (lv_at hl 1 rfl) ?_
    refine r_top (y := nI 5) ew ?_
    refine lv_tableIn (off := 82) (tgt := 83) hx hb dX4_told_1 (by decide) (by decide) (by decide) (by decide) ?_
    refine lv_aload_n hx hb dX4_told_83 rfl (lv_at hl 0 rfl) ?_
    refine r_get (C := RX4) (T := TX4) (N := 10) hx hb hts iiX4_told_4 hown hK h0 rfl 5 (by decide) (hts (.fieldLink RX4 73 "HopMeetModel" "slots" "I") (List.mem_of_getElem? (i := 3) rfl)) rfl dX4_told_84 ?_
    exact r_retS (v := nI sl) hx hb hr hlocks (by unfold rTold; rw [hw, ew, show cl (nI 5) = 5 from rfl]; rfl) dX4_told_87
  · refine lv_iload_n hx hb dX4_told_0 rfl (lv_at hl 1 rfl) ?_
    refine r_top (y := nI 6) ew ?_
    refine lv_tableIn (off := 87) (tgt := 88) hx hb dX4_told_1 (by decide) (by decide) (by decide) (by decide) ?_
    refine lv_aload_n hx hb dX4_told_88 rfl (lv_at hl 0 rfl) ?_
    refine r_cV (av := []) (c_X4_groups l G t d z gr sl bc bk kp im hz hg) ⟨hx, hb, hml, hown, hts⟩ (cwV 0 hts gX4_told_X4_groups rfl rfl rfl (by decide +kernel) ⟨Nat.le_of_ble_eq_true rfl, Nat.le_of_ble_eq_true rfl⟩) mv_K hB (at_recv hK h0 rfl) rfl hl (Nat.le_of_ble_eq_true rfl) ⟨Nat.le_of_ble_eq_true rfl, Nat.le_of_ble_eq_true rfl⟩ rfl dX4_told_89 (fun r2 hr2 => ?_)
    subst hr2
    exact r_retS (v := nI (grN gr (cu z))) hx hb hr hlocks (by unfold rTold; rw [hw, ew, show cl (nI 6) = 6 from rfl]; rfl) dX4_told_92
  · refine lv_iload_n hx hb dX4_told_0 rfl (lv_at hl 1 rfl) ?_
    refine r_top (y := nI 7) ew ?_
    refine lv_tableIn (off := 92) (tgt := 93) hx hb dX4_told_1 (by decide) (by decide) (by decide) (by decide) ?_
    refine lv_aload_n hx hb dX4_told_93 rfl (lv_at hl 0 rfl) ?_
    refine r_cV (av := []) (c_X4_groups l G t d z gr sl bc bk kp im hz hg) ⟨hx, hb, hml, hown, hts⟩ (cwV 0 hts gX4_told_X4_groups rfl rfl rfl (by decide +kernel) ⟨Nat.le_of_ble_eq_true rfl, Nat.le_of_ble_eq_true rfl⟩) mv_K hB (at_recv hK h0 rfl) rfl hl (Nat.le_of_ble_eq_true rfl) ⟨Nat.le_of_ble_eq_true rfl, Nat.le_of_ble_eq_true rfl⟩ rfl dX4_told_94 (fun r3 hr3 => ?_)
    subst hr3
    refine lv_iconst (v := nI 1) hx hb dX4_told_97 (by decide) ?_
    refine r_neN hx hb (Nat.lt_of_le_of_lt (cnt_le _ _) (by omega)) (by decide) dX4_told_98 (tgt := 105) (by decide) (fun c1 => ?_) (fun c1 => ?_)
    · refine lv_iconst (v := nI 0) hx hb dX4_told_105 (by decide) ?_
      exact r_retS (v := nI 0) hx hb hr hlocks (by unfold rTold; rw [hw, ew, show cl (nI 7) = 7 from rfl]; exact (if_neg c1).symm) dX4_told_106
    · refine lv_iconst (v := nI 1) hx hb dX4_told_101 (by decide) ?_
      refine lv_goto (tgt := 106) hx hb dX4_told_102 (by decide) ?_
      exact r_retS (v := nI 1) hx hb hr hlocks (by unfold rTold; rw [hw, ew, show cl (nI 7) = 7 from rfl]; exact (if_pos c1).symm) dX4_told_106
  · refine lv_iload_n hx hb dX4_told_0 rfl (lv_at hl 1 rfl) ?_
    refine r_top (y := nI 8) ew ?_
    refine lv_tableIn (off := 106) (tgt := 107) hx hb dX4_told_1 (by decide) (by decide) (by decide) (by decide) ?_
    refine lv_aload_n hx hb dX4_told_107 rfl (lv_at hl 0 rfl) ?_
    refine r_get (C := RX4) (T := TX4) (N := 10) hx hb hts iiX4_told_4 hown hK h0 rfl 1 (by decide) (hts (.fieldLink RX4 76 "HopMeetModel" "backs" "I") (List.mem_of_getElem? (i := 4) rfl)) rfl dX4_told_108 ?_
    exact r_retS (v := nI bc) hx hb hr hlocks (by unfold rTold; rw [hw, ew, show cl (nI 8) = 8 from rfl]; rfl) dX4_told_111

set_option maxRecDepth 20000 in
theorem iiX4_userOf_4 : ∀ w ∈ wsX40, w ∈ wsX4_userOf := by decide +kernel
set_option maxHeartbeats 4000000 in
set_option maxRecDepth 100000 in
/-- of a user -/
theorem c_X4_userOf (l : Launch) (G : va_G) (t : gT) (d : Nat) (z : Nat → Int32) (gr : Nat → Nat) (sl bc : Nat) (bk : Nat → Nat → Int32) (kp : Nat → Bool) (im : Nat → Nat → Int32) (hz : WF z) (hg : ∀ u, gr u ≤ u) (u w : Int32) : Met l yX4_userOf wsX4_userOf ({ frames := 2, cells := 0, slots := 0, locals := 43 } : Room) (pc_ [.ref d, .int u, .int w] (fun U H => KK G t U ∧ PM G t d (z, gr, sl, bc, bk, kp, im) H)) (vp_Si (fun r => r = rUserOf u w z gr)) 0 0 (fun _ => False) := by
  refine Met.ofW (cc := cX4_userOf) (maxL := 5) (ret := (some .int)) (by decide) rfl ?_
  intro p e s m args below meth c s₁ B hml hv
  obtain ⟨rfl, hB⟩ := hv
  have hx := B.exec
  have hb := B.bytes
  have hr := B.returns
  have hts := atoms_spec (ws := wsX4_userOf) B.pre
  have hown : s.vm.findClass RX4 = some m.cls := findClass_of_methodNamed B.named
  have hlocks := B.notSynchronized
  have hK := hB.1
  obtain ⟨lo, fB, fI, fG, fM, h0, h1, h2, h3, h4, h5, h6, e1, e2, e3⟩ := hB.2
  have hn := hz.n
  have hu5 := hz.u5
  have hs8 := hz.s8
  have hl := lv_entry ([.ref d, .int u, .int w]) (n := 5) (Nat.le_of_ble_eq_true rfl)
  rw [lg_entry_eq]
  generalize (lg_sl ([.ref d, .int u, .int w]) ++ List.replicate (5 - (lg_sl ([.ref d, .int u, .int w])).length) Slot.unset).toArray = ls at hl ⊢
  have hl : lv_has ls 5 [(0, .ref d), (1, .int u), (2, .int w)] := hl
  refine lv_aload_n hx hb dX4_userOf_0 rfl (lv_at hl 0 rfl) ?_
  refine lv_iload_n hx hb dX4_userOf_1 rfl (lv_at hl 1 rfl) ?_
  refine r_cV (av := [.int u]) (c_X4_isUser l G t d z hz u) ⟨hx, hb, hml, hown, hts⟩ (cwV 1 hts gX4_userOf_X4_isUser rfl rfl rfl (by decide +kernel) ⟨Nat.le_of_ble_eq_true rfl, Nat.le_of_ble_eq_true rfl⟩) mv_K ⟨hK, ⟨_, _, _, h0, h1⟩⟩ (at_recv hK h0 rfl) rfl hl (Nat.le_of_ble_eq_true rfl) ⟨Nat.le_of_ble_eq_true rfl, Nat.le_of_ble_eq_true rfl⟩ rfl dX4_userOf_2 (fun r1 hr1 => ?_)
  subst hr1
  refine r_ifneB hx hb dX4_userOf_5 (tgt := 11) (by decide) (fun c1 => ?_) (fun c1 => ?_)
  · obtain ⟨k, hk, ek⟩ := usB_t hz c1
    have ekc : cl u = k := by rw [ek]; exact cl_N (by omega)
    refine lv_iload_n hx hb dX4_userOf_11 rfl (lv_at hl 2 rfl) ?_
    refine lv_iconst (v := nI 0) hx hb dX4_userOf_12 (by decide) ?_
    refine lv_bipush (v := nI 6) hx hb dX4_userOf_13 (by decide) ?_
    refine r_cS (av := [.int w, .int (nI 0), .int (nI 6)]) (c_X4_in l G t w (nI 0) (nI 6)) ⟨hx, hb, hml, hown, hts⟩ (va_cwS 3 hts gX4_userOf_X4_in rfl rfl rfl (by decide +kernel) ⟨Nat.le_of_ble_eq_true rfl, Nat.le_of_ble_eq_true rfl⟩) mv_T trivial rfl hl (Nat.le_of_ble_eq_true rfl) ⟨Nat.le_of_ble_eq_true rfl, Nat.le_of_ble_eq_true rfl⟩ rfl dX4_userOf_15 (fun r2 hr2 => ?_)
    subst hr2
    refine r_ifneB hx hb dX4_userOf_18 (tgt := 24) (by decide) (fun c2 => ?_) (fun c2 => ?_)
    · obtain ⟨i, ia, ib, ei⟩ := in_of (by decide) (by decide) c2
      have eic : cl w = i := by rw [ei]; exact cl_N (by omega)
      have hgk := hg k
      refine lv_iload_n hx hb dX4_userOf_24 rfl (lv_at hl 2 rfl) ?_
      refine r_top (y := nI i) ei ?_
      refine lv_iconst (v := nI 5) hx hb dX4_userOf_25 (by decide) ?_
      refine r_geN hx hb (by omega) (by omega) dX4_userOf_26 (tgt := 36) (by decide) (fun c3 => ?_) (fun c3 => ?_)
      · refine lv_iconst (v := nI 0) hx hb dX4_userOf_36 (by decide) ?_
        refine lv_istore_n (lv' := [(3, .int (nI 0)), (0, .ref d), (1, .int u), (2, .int w)]) hx hb dX4_userOf_37 rfl hl (by decide) rfl (fun ls hl => ?_)
        refine lv_iconst (v := nI 0) hx hb dX4_userOf_38 (by decide) ?_
        refine lv_istore (lv' := [(4, .int (nI 0)), (3, .int (nI 0)), (0, .ref d), (1, .int u), (2, .int w)]) hx hb dX4_userOf_39 hl (by decide) rfl (fun ls hl => ?_)
        have loop41 : ∀ (fu : Nat) (q : Nat) (x : Nat) (hq : q ≤ cu z) (hw : x = cntF (fun v => decide (gr v = gr k)) q) (hfu : cu z - q < fu) (ls : Array Slot) (hl : lv_has ls 5 [(0, .ref d), (1, .int u), (2, .int w), (3, .int (nI x)), (4, .int (nI q))]), W p l e (headSpec wsX4_userOf ({ frames := 2, cells := 0, slots := 0, locals := 43 } : Room)).room s m ([.ref d, .int u, .int w] : List Value).toArray below meth c s.heap [] 0 0 (MQ below (vp_Si (fun r => r = rUserOf u w z gr)) ([.ref d, .int u, .int w] : List Value).toArray s 0 0 (fun _ => False)) (F0 m 41 ls []) := by
          intro fu
          induction fu with
          | zero => intro q x hq hw hfu; exact absurd hfu (Nat.not_lt_zero _)
          | succ fu41 ih41 =>
            intro q x hq hw hfu ls hl
            have hgq := hg q
            refine lv_iload hx hb dX4_userOf_41 (lv_at hl 4 rfl) ?_
            refine lv_aload_n hx hb dX4_userOf_43 rfl (lv_at hl 0 rfl) ?_
            refine r_get (C := RX4) (T := TX4) (N := 10) hx hb hts iiX4_userOf_4 hown hK h0 rfl 0 (by decide) (hts (.fieldLink RX4 7 "HopMeetModel" "now" "[I") (List.mem_of_getElem? (i := 3) rfl)) rfl dX4_userOf_44 ?_
            refine lv_iconst (v := nI 1) hx hb dX4_userOf_47 (by decide) ?_
            refine r_iald hx hb hK h1 rfl 1 (by omega) (by decide) (v := nI (cu z)) hz.2.1.1 dX4_userOf_48 ?_
            refine r_geN hx hb (by omega) (by omega) dX4_userOf_49 (tgt := 82) (by decide) (fun c4 => ?_) (fun c4 => ?_)
            · refine lv_iload_n hx hb dX4_userOf_82 rfl (lv_at hl 2 rfl) ?_
              refine r_top (y := nI i) ei ?_
              refine lv_iconst (v := nI 5) hx hb dX4_userOf_83 (by decide) ?_
              refine r_neN hx hb (by omega) (by omega) dX4_userOf_84 (tgt := 96) (by decide) (fun c6 => ?_) (fun c6 => ?_)
              · refine lv_iload_n hx hb dX4_userOf_96 rfl (lv_at hl 3 rfl) ?_
                exact r_retS (v := nI x) hx hb hr hlocks (by unfold rUserOf; rw [c1, c2, ekc, eic, hw, show q = cu z by omega]; exact ((if_neg c6).trans (if_pos (by omega))).symm) dX4_userOf_97
              · refine lv_aload_n hx hb dX4_userOf_87 rfl (lv_at hl 0 rfl) ?_
                refine r_get (C := RX4) (T := TX4) (N := 10) hx hb hts iiX4_userOf_4 hown hK h0 rfl 7 (by decide) (hts (.fieldLink RX4 23 "HopMeetModel" "group" "[I") (List.mem_of_getElem? (i := 4) rfl)) rfl dX4_userOf_88 ?_
                refine lv_iload_n hx hb dX4_userOf_91 rfl (lv_at hl 1 rfl) ?_
                refine r_top (y := nI k) ek ?_
                refine r_iald hx hb hK h5 rfl k (by omega) (by decide) (v := nI (gr k)) (e3 k (by omega)) dX4_userOf_92 ?_
                refine lv_goto (tgt := 97) hx hb dX4_userOf_93 (by decide) ?_
                exact r_retS (v := nI (gr k)) hx hb hr hlocks (by unfold rUserOf; rw [c1, c2, ekc, eic]; exact (if_pos c6).symm) dX4_userOf_97
            · refine lv_iload_n hx hb dX4_userOf_52 rfl (lv_at hl 3 rfl) ?_
              refine lv_aload_n hx hb dX4_userOf_53 rfl (lv_at hl 0 rfl) ?_
              refine r_get (C := RX4) (T := TX4) (N := 10) hx hb hts iiX4_userOf_4 hown hK h0 rfl 7 (by decide) (hts (.fieldLink RX4 23 "HopMeetModel" "group" "[I") (List.mem_of_getElem? (i := 4) rfl)) rfl dX4_userOf_54 ?_
              refine lv_iload hx hb dX4_userOf_57 (lv_at hl 4 rfl) ?_
              refine r_iald hx hb hK h5 rfl q (by omega) (by decide) (v := nI (gr q)) (e3 q (by omega)) dX4_userOf_59 ?_
              refine lv_aload_n hx hb dX4_userOf_60 rfl (lv_at hl 0 rfl) ?_
              refine r_get (C := RX4) (T := TX4) (N := 10) hx hb hts iiX4_userOf_4 hown hK h0 rfl 7 (by decide) (hts (.fieldLink RX4 23 "HopMeetModel" "group" "[I") (List.mem_of_getElem? (i := 4) rfl)) rfl dX4_userOf_61 ?_
              refine lv_iload_n hx hb dX4_userOf_64 rfl (lv_at hl 1 rfl) ?_
              refine r_top (y := nI k) ek ?_
              refine r_iald hx hb hK h5 rfl k (by omega) (by decide) (v := nI (gr k)) (e3 k (by omega)) dX4_userOf_65 ?_
              refine r_neN hx hb (by omega) (by omega) dX4_userOf_66 (tgt := 73) (by decide) (fun c5 => ?_) (fun c5 => ?_)
              · refine lv_iconst (v := nI 0) hx hb dX4_userOf_73 (by decide) ?_
                refine r_iaddN hx hb dX4_userOf_74 ?_
                refine lv_istore_n (lv' := [(3, .int (nI (x + 0))), (0, .ref d), (1, .int u), (2, .int w), (4, .int (nI q))]) hx hb dX4_userOf_75 rfl hl (by decide) rfl (fun ls hl => ?_)
                refine lv_iinc (v := nI (q + 1)) (lv' := [(4, .int (nI (q + 1))), (3, .int (nI (x + 0))), (0, .ref d), (1, .int u), (2, .int w)]) hx hb dX4_userOf_76 hl (k := 4) rfl (nI_1 _) (by decide) rfl (fun ls hl => ?_)
                refine lv_goto (tgt := 41) hx hb dX4_userOf_79 (by decide) ?_
                exact ih41 (q + 1) x (by omega) (cnt_n hw (decide_eq_false c5)) (by omega) ls (lv_sub hl [2, 3, 4, 1, 0] rfl)
              · refine lv_iconst (v := nI 1) hx hb dX4_userOf_69 (by decide) ?_
                refine lv_goto (tgt := 74) hx hb dX4_userOf_70 (by decide) ?_
                refine r_iaddN hx hb dX4_userOf_74 ?_
                refine lv_istore_n (lv' := [(3, .int (nI (x + 1))), (0, .ref d), (1, .int u), (2, .int w), (4, .int (nI q))]) hx hb dX4_userOf_75 rfl hl (by decide) rfl (fun ls hl => ?_)
                refine lv_iinc (v := nI (q + 1)) (lv' := [(4, .int (nI (q + 1))), (3, .int (nI (x + 1))), (0, .ref d), (1, .int u), (2, .int w)]) hx hb dX4_userOf_76 hl (k := 4) rfl (nI_1 _) (by decide) rfl (fun ls hl => ?_)
                refine lv_goto (tgt := 41) hx hb dX4_userOf_79 (by decide) ?_
                exact ih41 (q + 1) (x + 1) (by omega) (cnt_y hw (decide_eq_true c5)) (by omega) ls (lv_sub hl [2, 3, 4, 1, 0] rfl)
        exact loop41 _ 0 0 (Nat.zero_le _) rfl (Nat.lt_succ_self _) ls (lv_sub hl [2, 3, 4, 1, 0] rfl)
      · refine lv_aload_n hx hb dX4_userOf_29 rfl (lv_at hl 0 rfl) ?_
        refine lv_iload_n hx hb dX4_userOf_30 rfl (lv_at hl 1 rfl) ?_
        refine r_top (y := nI k) ek ?_
        refine lv_iload_n hx hb dX4_userOf_31 rfl (lv_at hl 2 rfl) ?_
        refine r_top (y := nI i) ei ?_
        refine r_cV (av := [.int (nI k), .int (nI i)]) (c_X4_of l G t d z hz k i (by omega) (by omega)) ⟨hx, hb, hml, hown, hts⟩ (cwV 2 hts gX4_userOf_X4_of rfl rfl rfl (by decide +kernel) ⟨Nat.le_of_ble_eq_true rfl, Nat.le_of_ble_eq_true rfl⟩) mv_K ⟨hK, ⟨_, _, _, h0, h1⟩⟩ (at_recv hK h0 rfl) rfl hl (Nat.le_of_ble_eq_true rfl) ⟨Nat.le_of_ble_eq_true rfl, Nat.le_of_ble_eq_true rfl⟩ rfl dX4_userOf_32 (fun r3 hr3 => ?_)
        subst hr3
        exact r_retS (v := z (3 + 5 * k + i)) hx hb hr hlocks (by unfold rUserOf; rw [c1, c2, ekc, eic]; exact ((if_neg (by omega)).trans (if_neg (by omega))).symm) dX4_userOf_35
    · refine lv_ldc (v := (-1000000002)) hx hb hown (hts (.constant RX4 83 (-1000000002)) (List.mem_of_getElem? (i := 2) rfl)) dX4_userOf_21 ?_
      exact r_retS (v := (-1000000002)) hx hb hr hlocks (by unfold rUserOf; rw [c1, c2]; rfl) dX4_userOf_23
  · refine lv_ldc (v := (-1000000001)) hx hb hown (hts (.constant RX4 96 (-1000000001)) (List.mem_of_getElem? (i := 1) rfl)) dX4_userOf_8 ?_
    exact r_retS (v := (-1000000001)) hx hb hr hlocks (by unfold rUserOf; rw [c1]; rfl) dX4_userOf_10
