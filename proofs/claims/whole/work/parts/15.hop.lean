/-! HopMeet: what reads alone (printed by wip/whole/m6.py) -/
set_option maxRecDepth 20000 in
theorem iiX3_isUser_3 : ∀ w ∈ wsX30, w ∈ wsX3_isUser := by decide +kernel
set_option maxRecDepth 20000 in
theorem iiX3_isUser_2 : ∀ w ∈ wsX20, w ∈ wsX3_isUser := by decide +kernel
set_option maxHeartbeats 4000000 in
set_option maxRecDepth 100000 in
/-- whether there is such a user -/
theorem c_X3_isUser (l : Launch) (G : va_G) (t : gT) (b : Nat) (z : Nat → Int32) (gr : Nat → Nat) (sl bc : Nat) (bk : Nat → Nat → Int32) (kp : Nat → Bool) (im : Nat → Nat → Int32) (hz : WF z) (u : Int32) : Met l yX3_isUser wsX3_isUser ({ frames := 0, cells := 0, slots := 0, locals := 0 } : Room) (pc_ [.ref b, .int u] (fun U H => KK G t U ∧ PX G t b (z, gr, sl, bc, bk, kp, im) H)) (vp_Si (fun r => r = bI (usB z u))) 0 0 (fun _ => False) := by
  refine Met.ofW (cc := cX3_isUser) (maxL := 2) (ret := (some .boolean)) (by decide) rfl ?_
  intro p e s m args below meth c s₁ B hml hv
  obtain ⟨rfl, hB⟩ := hv
  have hx := B.exec
  have hb := B.bytes
  have hr := B.returns
  have hts := atoms_spec (ws := wsX3_isUser) B.pre
  have hown : s.vm.findClass RX3 = some m.cls := findClass_of_methodNamed B.named
  have hlocks := B.notSynchronized
  have hK := hB.1
  obtain ⟨x0, x1, x2, ⟨x3, jm, x4, x5⟩, x6, x7, x8, x9, x10⟩ := hB.2
  have y0 := Sc_obj x1
  have y1 := (Sc_rows x1).1
  obtain ⟨fo, fl, f2, g0, g1, g2, g3, g4⟩ := id x7
  obtain ⟨nx, p0⟩ := Pa_obj x2
  have hn := hz.n
  have hu5 := hz.u5
  have hs8 := hz.s8
  have hl := lv_entry ([.ref b, .int u]) (n := 2) (Nat.le_of_ble_eq_true rfl)
  rw [lg_entry_eq]
  generalize (lg_sl ([.ref b, .int u]) ++ List.replicate (2 - (lg_sl ([.ref b, .int u])).length) Slot.unset).toArray = ls at hl ⊢
  have hl : lv_has ls 2 [(0, .ref b), (1, .int u)] := hl
  refine lv_iload_n hx hb dX3_isUser_0 rfl (lv_at hl 1 rfl) ?_
  refine lv_if_lt (tgt := 19) hx hb dX3_isUser_1 (by decide) (fun c1 => ?_) (fun c1 => ?_)
  · refine lv_iconst (v := nI 0) hx hb dX3_isUser_19 (by decide) ?_
    exact r_retZ (v := nI 0) hx hb hr hlocks false rfl (by first | (rw [us_f1 c1]; rfl) | (rw [us_f2 c2]; rfl)) dX3_isUser_20
  · refine lv_iload_n hx hb dX3_isUser_4 rfl (lv_at hl 1 rfl) ?_
    refine lv_aload_n hx hb dX3_isUser_5 rfl (lv_at hl 0 rfl) ?_
    refine r_get (C := RX3) (T := TX3) (N := 8) hx hb hts iiX3_isUser_3 hown hK x0 rfl 0 (by decide) (hts (.fieldLink RX3 10 "HopMeet" "now" "LHopMeet$Scene;") (List.mem_of_getElem? (i := 1) rfl)) rfl dX3_isUser_6 ?_
    refine r_get (C := RX2) (T := TX2) (N := 6) hx hb hts iiX3_isUser_2 hown hK y0 rfl 2 (by decide) (hts (.fieldLink RX3 67 "HopMeet$Scene" "userCount" "I") (List.mem_of_getElem? (i := 2) rfl)) rfl dX3_isUser_9 ?_
    refine lv_icmp_ge (tgt := 19) hx hb dX3_isUser_12 (by decide) (fun c2 => ?_) (fun c2 => ?_)
    · refine lv_iconst (v := nI 0) hx hb dX3_isUser_19 (by decide) ?_
      exact r_retZ (v := nI 0) hx hb hr hlocks false rfl (by first | (rw [us_f1 c1]; rfl) | (rw [us_f2 c2]; rfl)) dX3_isUser_20
    · refine lv_iconst (v := nI 1) hx hb dX3_isUser_15 (by decide) ?_
      refine lv_goto (tgt := 20) hx hb dX3_isUser_16 (by decide) ?_
      exact r_retZ (v := nI 1) hx hb hr hlocks true rfl (by rw [us_t c1 c2]; rfl) dX3_isUser_20

set_option maxRecDepth 20000 in
theorem iiX3_areTwoUsers_3 : ∀ w ∈ wsX30, w ∈ wsX3_areTwoUsers := by decide +kernel
set_option maxRecDepth 20000 in
theorem iiX3_areTwoUsers_2 : ∀ w ∈ wsX20, w ∈ wsX3_areTwoUsers := by decide +kernel
set_option maxHeartbeats 4000000 in
set_option maxRecDepth 100000 in
/-- whether there are two such users -/
theorem c_X3_areTwoUsers (l : Launch) (G : va_G) (t : gT) (b : Nat) (z : Nat → Int32) (gr : Nat → Nat) (sl bc : Nat) (bk : Nat → Nat → Int32) (kp : Nat → Bool) (im : Nat → Nat → Int32) (hz : WF z) (u v : Int32) : Met l yX3_areTwoUsers wsX3_areTwoUsers ({ frames := 1, cells := 0, slots := 0, locals := 21 } : Room) (pc_ [.ref b, .int u, .int v] (fun U H => KK G t U ∧ PX G t b (z, gr, sl, bc, bk, kp, im) H)) (vp_Si (fun r => r = bI (twB z u v))) 0 0 (fun _ => False) := by
  refine Met.ofW (cc := cX3_areTwoUsers) (maxL := 3) (ret := (some .boolean)) (by decide) rfl ?_
  intro p e s m args below meth c s₁ B hml hv
  obtain ⟨rfl, hB⟩ := hv
  have hx := B.exec
  have hb := B.bytes
  have hr := B.returns
  have hts := atoms_spec (ws := wsX3_areTwoUsers) B.pre
  have hown : s.vm.findClass RX3 = some m.cls := findClass_of_methodNamed B.named
  have hlocks := B.notSynchronized
  have hK := hB.1
  obtain ⟨x0, x1, x2, ⟨x3, jm, x4, x5⟩, x6, x7, x8, x9, x10⟩ := hB.2
  have y0 := Sc_obj x1
  have y1 := (Sc_rows x1).1
  obtain ⟨fo, fl, f2, g0, g1, g2, g3, g4⟩ := id x7
  obtain ⟨nx, p0⟩ := Pa_obj x2
  have hn := hz.n
  have hu5 := hz.u5
  have hs8 := hz.s8
  have hl := lv_entry ([.ref b, .int u, .int v]) (n := 3) (Nat.le_of_ble_eq_true rfl)
  rw [lg_entry_eq]
  generalize (lg_sl ([.ref b, .int u, .int v]) ++ List.replicate (3 - (lg_sl ([.ref b, .int u, .int v])).length) Slot.unset).toArray = ls at hl ⊢
  have hl : lv_has ls 3 [(0, .ref b), (1, .int u), (2, .int v)] := hl
  refine lv_aload_n hx hb dX3_areTwoUsers_0 rfl (lv_at hl 0 rfl) ?_
  refine lv_iload_n hx hb dX3_areTwoUsers_1 rfl (lv_at hl 1 rfl) ?_
  refine r_cV (av := [.int u]) (c_X3_isUser l G t b z gr sl bc bk kp im hz u) ⟨hx, hb, hml, hown, hts⟩ (cwV 1 hts gX3_areTwoUsers_X3_isUser rfl rfl rfl (by decide +kernel) ⟨Nat.le_of_ble_eq_true rfl, Nat.le_of_ble_eq_true rfl⟩) mv_K hB (at_recv hK x0 rfl) rfl hl (Nat.le_of_ble_eq_true rfl) ⟨Nat.le_of_ble_eq_true rfl, Nat.le_of_ble_eq_true rfl⟩ rfl dX3_areTwoUsers_2 (fun r1 hr1 => ?_)
  subst hr1
  refine r_ifeqB hx hb dX3_areTwoUsers_5 (tgt := 25) (by decide) (fun c1 => ?_) (fun c1 => ?_)
  · refine lv_iconst (v := nI 0) hx hb dX3_areTwoUsers_25 (by decide) ?_
    exact r_retZ (v := nI 0) hx hb hr hlocks false rfl (by first | (rw [tw_n1 c1]; rfl) | (rw [tw_n2 c2]; rfl) | (rw [tw_n3 c3]; rfl)) dX3_areTwoUsers_26
  · refine lv_aload_n hx hb dX3_areTwoUsers_8 rfl (lv_at hl 0 rfl) ?_
    refine lv_iload_n hx hb dX3_areTwoUsers_9 rfl (lv_at hl 2 rfl) ?_
    refine r_cV (av := [.int v]) (c_X3_isUser l G t b z gr sl bc bk kp im hz v) ⟨hx, hb, hml, hown, hts⟩ (cwV 1 hts gX3_areTwoUsers_X3_isUser rfl rfl rfl (by decide +kernel) ⟨Nat.le_of_ble_eq_true rfl, Nat.le_of_ble_eq_true rfl⟩) mv_K hB (at_recv hK x0 rfl) rfl hl (Nat.le_of_ble_eq_true rfl) ⟨Nat.le_of_ble_eq_true rfl, Nat.le_of_ble_eq_true rfl⟩ rfl dX3_areTwoUsers_10 (fun r2 hr2 => ?_)
    subst hr2
    refine r_ifeqB hx hb dX3_areTwoUsers_13 (tgt := 25) (by decide) (fun c2 => ?_) (fun c2 => ?_)
    · refine lv_iconst (v := nI 0) hx hb dX3_areTwoUsers_25 (by decide) ?_
      exact r_retZ (v := nI 0) hx hb hr hlocks false rfl (by first | (rw [tw_n1 c1]; rfl) | (rw [tw_n2 c2]; rfl) | (rw [tw_n3 c3]; rfl)) dX3_areTwoUsers_26
    · refine lv_iload_n hx hb dX3_areTwoUsers_16 rfl (lv_at hl 1 rfl) ?_
      refine lv_iload_n hx hb dX3_areTwoUsers_17 rfl (lv_at hl 2 rfl) ?_
      refine lv_icmp_eq (tgt := 25) hx hb dX3_areTwoUsers_18 (by decide) (fun c3 => ?_) (fun c3 => ?_)
      · refine lv_iconst (v := nI 0) hx hb dX3_areTwoUsers_25 (by decide) ?_
        exact r_retZ (v := nI 0) hx hb hr hlocks false rfl (by first | (rw [tw_n1 c1]; rfl) | (rw [tw_n2 c2]; rfl) | (rw [tw_n3 c3]; rfl)) dX3_areTwoUsers_26
      · refine lv_iconst (v := nI 1) hx hb dX3_areTwoUsers_21 (by decide) ?_
        refine lv_goto (tgt := 26) hx hb dX3_areTwoUsers_22 (by decide) ?_
        exact r_retZ (v := nI 1) hx hb hr hlocks true rfl (by rw [tw_y c1 c2 c3]; rfl) dX3_areTwoUsers_26

set_option maxHeartbeats 4000000 in
set_option maxRecDepth 100000 in
/-- whether there is such an image -/
theorem c_X3_isImage (l : Launch) (G : va_G) (t : gT) (i : Int32) : Met l yX3_isImage wsX3_isImage ({ frames := 0, cells := 0, slots := 0, locals := 0 } : Room) (pc_ [.int i] (fun _ _ => True)) (vp_Si (fun r => r = bI (inB i (nI 0) (nI 1)))) 0 0 (fun _ => False) := by
  refine Met.ofW (cc := cX3_isImage) (maxL := 1) (ret := (some .boolean)) (by decide) rfl ?_
  intro p e s m args below meth c s₁ B hml hv
  obtain ⟨rfl, hB⟩ := hv
  have hx := B.exec
  have hb := B.bytes
  have hr := B.returns
  have hts := atoms_spec (ws := wsX3_isImage) B.pre
  have hown : s.vm.findClass RX3 = some m.cls := findClass_of_methodNamed B.named
  have hlocks := B.notSynchronized
  have hl := lv_entry ([.int i]) (n := 1) (Nat.le_of_ble_eq_true rfl)
  rw [lg_entry_eq]
  generalize (lg_sl ([.int i]) ++ List.replicate (1 - (lg_sl ([.int i])).length) Slot.unset).toArray = ls at hl ⊢
  have hl : lv_has ls 1 [(0, .int i)] := hl
  refine lv_iload_n hx hb dX3_isImage_0 rfl (lv_at hl 0 rfl) ?_
  refine lv_if_lt (tgt := 13) hx hb dX3_isImage_1 (by decide) (fun c1 => ?_) (fun c1 => ?_)
  · refine lv_iconst (v := nI 0) hx hb dX3_isImage_13 (by decide) ?_
    exact r_retZ (v := nI 0) hx hb hr hlocks false rfl (by first | (rw [in_f1 (a := nI 0) c1]; rfl) | (rw [im_f c2]; rfl)) dX3_isImage_14
  · refine lv_iload_n hx hb dX3_isImage_4 rfl (lv_at hl 0 rfl) ?_
    refine lv_iconst (v := nI 2) hx hb dX3_isImage_5 (by decide) ?_
    refine lv_icmp_ge (tgt := 13) hx hb dX3_isImage_6 (by decide) (fun c2 => ?_) (fun c2 => ?_)
    · refine lv_iconst (v := nI 0) hx hb dX3_isImage_13 (by decide) ?_
      exact r_retZ (v := nI 0) hx hb hr hlocks false rfl (by first | (rw [in_f1 (a := nI 0) c1]; rfl) | (rw [im_f c2]; rfl)) dX3_isImage_14
    · refine lv_iconst (v := nI 1) hx hb dX3_isImage_9 (by decide) ?_
      refine lv_goto (tgt := 14) hx hb dX3_isImage_10 (by decide) ?_
      exact r_retZ (v := nI 1) hx hb hr hlocks true rfl (by rw [im_t c1 c2]; rfl) dX3_isImage_14

set_option maxHeartbeats 4000000 in
set_option maxRecDepth 100000 in
/-- within bounds -/
theorem c_X3_isSlotAsked (l : Launch) (G : va_G) (t : gT) (y : Int32) : Met l yX3_isSlotAsked wsX3_isSlotAsked ({ frames := 0, cells := 0, slots := 0, locals := 0 } : Room) (pc_ [.int y] (fun _ _ => True)) (vp_Si (fun r => r = bI (inB y (nI 0) (nI 3000)))) 0 0 (fun _ => False) := by
  refine Met.ofW (cc := cX3_isSlotAsked) (maxL := 1) (ret := (some .boolean)) (by decide) rfl ?_
  intro p e s m args below meth c s₁ B hml hv
  obtain ⟨rfl, hB⟩ := hv
  have hx := B.exec
  have hb := B.bytes
  have hr := B.returns
  have hts := atoms_spec (ws := wsX3_isSlotAsked) B.pre
  have hown : s.vm.findClass RX3 = some m.cls := findClass_of_methodNamed B.named
  have hlocks := B.notSynchronized
  have hl := lv_entry ([.int y]) (n := 1) (Nat.le_of_ble_eq_true rfl)
  rw [lg_entry_eq]
  generalize (lg_sl ([.int y]) ++ List.replicate (1 - (lg_sl ([.int y])).length) Slot.unset).toArray = ls at hl ⊢
  have hl : lv_has ls 1 [(0, .int y)] := hl
  refine lv_iload_n hx hb dX3_isSlotAsked_0 rfl (lv_at hl 0 rfl) ?_
  refine lv_if_lt (tgt := 15) hx hb dX3_isSlotAsked_1 (by decide) (fun c1 => ?_) (fun c1 => ?_)
  · refine lv_iconst (v := nI 0) hx hb dX3_isSlotAsked_15 (by decide) ?_
    exact r_retZ (v := nI 0) hx hb hr hlocks false rfl (by first | (rw [in_f1 (a := nI 0) c1]; rfl) | (rw [in_f2 c2]; rfl)) dX3_isSlotAsked_16
  · refine lv_iload_n hx hb dX3_isSlotAsked_4 rfl (lv_at hl 0 rfl) ?_
    refine lv_sipush (v := nI 3000) hx hb dX3_isSlotAsked_5 (by decide) ?_
    refine lv_icmp_gt (tgt := 15) hx hb dX3_isSlotAsked_8 (by decide) (fun c2 => ?_) (fun c2 => ?_)
    · refine lv_iconst (v := nI 0) hx hb dX3_isSlotAsked_15 (by decide) ?_
      exact r_retZ (v := nI 0) hx hb hr hlocks false rfl (by first | (rw [in_f1 (a := nI 0) c1]; rfl) | (rw [in_f2 c2]; rfl)) dX3_isSlotAsked_16
    · refine lv_iconst (v := nI 1) hx hb dX3_isSlotAsked_11 (by decide) ?_
      refine lv_goto (tgt := 16) hx hb dX3_isSlotAsked_12 (by decide) ?_
      exact r_retZ (v := nI 1) hx hb hr hlocks true rfl (by rw [in_t (a := nI 0) c1 c2]; rfl) dX3_isSlotAsked_16

set_option maxHeartbeats 4000000 in
set_option maxRecDepth 100000 in
/-- within bounds -/
theorem c_X3_isShift (l : Launch) (G : va_G) (t : gT) (y : Int32) : Met l yX3_isShift wsX3_isShift ({ frames := 0, cells := 0, slots := 0, locals := 0 } : Room) (pc_ [.int y] (fun _ _ => True)) (vp_Si (fun r => r = bI (inB y (nI 0) (nI 200)))) 0 0 (fun _ => False) := by
  refine Met.ofW (cc := cX3_isShift) (maxL := 1) (ret := (some .boolean)) (by decide) rfl ?_
  intro p e s m args below meth c s₁ B hml hv
  obtain ⟨rfl, hB⟩ := hv
  have hx := B.exec
  have hb := B.bytes
  have hr := B.returns
  have hts := atoms_spec (ws := wsX3_isShift) B.pre
  have hown : s.vm.findClass RX3 = some m.cls := findClass_of_methodNamed B.named
  have hlocks := B.notSynchronized
  have hl := lv_entry ([.int y]) (n := 1) (Nat.le_of_ble_eq_true rfl)
  rw [lg_entry_eq]
  generalize (lg_sl ([.int y]) ++ List.replicate (1 - (lg_sl ([.int y])).length) Slot.unset).toArray = ls at hl ⊢
  have hl : lv_has ls 1 [(0, .int y)] := hl
  refine lv_iload_n hx hb dX3_isShift_0 rfl (lv_at hl 0 rfl) ?_
  refine lv_if_lt (tgt := 15) hx hb dX3_isShift_1 (by decide) (fun c1 => ?_) (fun c1 => ?_)
  · refine lv_iconst (v := nI 0) hx hb dX3_isShift_15 (by decide) ?_
    exact r_retZ (v := nI 0) hx hb hr hlocks false rfl (by first | (rw [in_f1 (a := nI 0) c1]; rfl) | (rw [in_f2 c2]; rfl)) dX3_isShift_16
  · refine lv_iload_n hx hb dX3_isShift_4 rfl (lv_at hl 0 rfl) ?_
    refine lv_sipush (v := nI 200) hx hb dX3_isShift_5 (by decide) ?_
    refine lv_icmp_gt (tgt := 15) hx hb dX3_isShift_8 (by decide) (fun c2 => ?_) (fun c2 => ?_)
    · refine lv_iconst (v := nI 0) hx hb dX3_isShift_15 (by decide) ?_
      exact r_retZ (v := nI 0) hx hb hr hlocks false rfl (by first | (rw [in_f1 (a := nI 0) c1]; rfl) | (rw [in_f2 c2]; rfl)) dX3_isShift_16
    · refine lv_iconst (v := nI 1) hx hb dX3_isShift_11 (by decide) ?_
      refine lv_goto (tgt := 16) hx hb dX3_isShift_12 (by decide) ?_
      exact r_retZ (v := nI 1) hx hb hr hlocks true rfl (by rw [in_t (a := nI 0) c1 c2]; rfl) dX3_isShift_16

set_option maxHeartbeats 4000000 in
set_option maxRecDepth 100000 in
/-- whether v may stand there -/
theorem c_X3_mayHave (l : Launch) (G : va_G) (t : gT) (b0 : Nat) (w v : Int32) : Met l yX3_mayHave wsX3_mayHave ({ frames := 0, cells := 0, slots := 0, locals := 0 } : Room) (pc_ [.int w, .int v] (fun U H => KK G t U ∧ ZS b0 U H)) (vp_Si (fun r => r = bI (mhB w v))) 0 0 (fun _ => False) := by
  refine Met.ofW (cc := cX3_mayHave) (maxL := 2) (ret := (some .boolean)) (by decide) rfl ?_
  intro p e s m args below meth c s₁ B hml hv
  obtain ⟨rfl, hB⟩ := hv
  have hx := B.exec
  have hb := B.bytes
  have hr := B.returns
  have hts := atoms_spec (ws := wsX3_mayHave) B.pre
  have hown : s.vm.findClass RX3 = some m.cls := findClass_of_methodNamed B.named
  have hlocks := B.notSynchronized
  have hK := hB.1
  obtain ⟨tt, hZ, hT⟩ := hB.2
  have hl := lv_entry ([.int w, .int v]) (n := 2) (Nat.le_of_ble_eq_true rfl)
  rw [lg_entry_eq]
  generalize (lg_sl ([.int w, .int v]) ++ List.replicate (2 - (lg_sl ([.int w, .int v])).length) Slot.unset).toArray = ls at hl ⊢
  have hl : lv_has ls 2 [(0, .int w), (1, .int v)] := hl
  refine lv_iload_n hx hb dX3_mayHave_0 rfl (lv_at hl 0 rfl) ?_
  refine lv_if_lt (tgt := 26) hx hb dX3_mayHave_1 (by decide) (fun c1 => ?_) (fun c1 => ?_)
  · refine lv_iconst (v := nI 0) hx hb dX3_mayHave_26 (by decide) ?_
    exact r_retZ (v := nI 0) hx hb hr hlocks false rfl (by first | (rw [mh_f1 (in_f1 (a := nI 0) c1)]; rfl) | (rw [mh_f1 (in_f2 c2)]; rfl) | (rw [mh_f2 k2 ek (in_f1 (a := nI 0) c3)]; rfl) | (rw [mh_f2 k2 ek (in_f2 c4)]; rfl)) dX3_mayHave_27
  · refine lv_iload_n hx hb dX3_mayHave_4 rfl (lv_at hl 0 rfl) ?_
    refine lv_iconst (v := nI 3) hx hb dX3_mayHave_5 (by decide) ?_
    refine lv_icmp_gt (tgt := 26) hx hb dX3_mayHave_6 (by decide) (fun c2 => ?_) (fun c2 => ?_)
    · refine lv_iconst (v := nI 0) hx hb dX3_mayHave_26 (by decide) ?_
      exact r_retZ (v := nI 0) hx hb hr hlocks false rfl (by first | (rw [mh_f1 (in_f1 (a := nI 0) c1)]; rfl) | (rw [mh_f1 (in_f2 c2)]; rfl) | (rw [mh_f2 k2 ek (in_f1 (a := nI 0) c3)]; rfl) | (rw [mh_f2 k2 ek (in_f2 c4)]; rfl)) dX3_mayHave_27
    · have hw := in_t (a := nI 0) c1 c2
      obtain ⟨k, k1, k2, ek⟩ := in_of (by decide) (by decide) hw
      refine lv_iload_n hx hb dX3_mayHave_9 rfl (lv_at hl 1 rfl) ?_
      refine lv_if_lt (tgt := 26) hx hb dX3_mayHave_10 (by decide) (fun c3 => ?_) (fun c3 => ?_)
      · refine lv_iconst (v := nI 0) hx hb dX3_mayHave_26 (by decide) ?_
        exact r_retZ (v := nI 0) hx hb hr hlocks false rfl (by first | (rw [mh_f1 (in_f1 (a := nI 0) c1)]; rfl) | (rw [mh_f1 (in_f2 c2)]; rfl) | (rw [mh_f2 k2 ek (in_f1 (a := nI 0) c3)]; rfl) | (rw [mh_f2 k2 ek (in_f2 c4)]; rfl)) dX3_mayHave_27
      · refine lv_iload_n hx hb dX3_mayHave_13 rfl (lv_at hl 1 rfl) ?_
        refine va_gets hx hb hZ va_S.rf hown (hts (.fieldLink RX3 185 "HopMeet" "MOST_OF" "[I") (List.mem_of_getElem? (i := 1) rfl)) (fun _ h => h) dX3_mayHave_14 ?_
        refine lv_iload_n hx hb dX3_mayHave_17 rfl (lv_at hl 0 rfl) ?_
        refine r_top (y := nI k) ek ?_
        refine va_ti hx hb hT va_S.rf (vp_in_nI (by omega) (by decide)) (v := .int (moI k)) (by rw [nI_clamp (by omega)]; rfl) dX3_mayHave_18 ?_
        refine lv_icmp_gt (tgt := 26) hx hb dX3_mayHave_19 (by decide) (fun c4 => ?_) (fun c4 => ?_)
        · refine lv_iconst (v := nI 0) hx hb dX3_mayHave_26 (by decide) ?_
          exact r_retZ (v := nI 0) hx hb hr hlocks false rfl (by first | (rw [mh_f1 (in_f1 (a := nI 0) c1)]; rfl) | (rw [mh_f1 (in_f2 c2)]; rfl) | (rw [mh_f2 k2 ek (in_f1 (a := nI 0) c3)]; rfl) | (rw [mh_f2 k2 ek (in_f2 c4)]; rfl)) dX3_mayHave_27
        · refine lv_iconst (v := nI 1) hx hb dX3_mayHave_22 (by decide) ?_
          refine lv_goto (tgt := 27) hx hb dX3_mayHave_23 (by decide) ?_
          exact r_retZ (v := nI 1) hx hb hr hlocks true rfl (by rw [mh_t k2 ek hw (in_t (a := nI 0) c3 c4)]; rfl) dX3_mayHave_27

set_option maxRecDepth 20000 in
theorem iiX3_pointsAt_3 : ∀ w ∈ wsX30, w ∈ wsX3_pointsAt := by decide +kernel
set_option maxRecDepth 20000 in
theorem iiX3_pointsAt_2 : ∀ w ∈ wsX20, w ∈ wsX3_pointsAt := by decide +kernel
set_option maxHeartbeats 4000000 in
set_option maxRecDepth 100000 in
/-- what a user points at -/
theorem c_X3_pointsAt (l : Launch) (G : va_G) (t : gT) (b : Nat) (z : Nat → Int32) (gr : Nat → Nat) (sl bc : Nat) (bk : Nat → Nat → Int32) (kp : Nat → Bool) (im : Nat → Nat → Int32) (hz : WF z) (u y : Int32) : Met l yX3_pointsAt wsX3_pointsAt ({ frames := 3, cells := 0, slots := 0, locals := 73 } : Room) (pc_ [.ref b, .int u, .int y] (fun U H => KK G t U ∧ PX G t b (z, gr, sl, bc, bk, kp, im) H)) (vp_Si (fun r => r = rPts u y z)) 0 0 (fun _ => False) := by
  refine Met.ofW (cc := cX3_pointsAt) (maxL := 4) (ret := (some .int)) (by decide) rfl ?_
  intro p e s m args below meth c s₁ B hml hv
  obtain ⟨rfl, hB⟩ := hv
  have hx := B.exec
  have hb := B.bytes
  have hr := B.returns
  have hts := atoms_spec (ws := wsX3_pointsAt) B.pre
  have hown : s.vm.findClass RX3 = some m.cls := findClass_of_methodNamed B.named
  have hlocks := B.notSynchronized
  have hK := hB.1
  obtain ⟨x0, x1, x2, ⟨x3, jm, x4, x5⟩, x6, x7, x8, x9, x10⟩ := hB.2
  have y0 := Sc_obj x1
  have y1 := (Sc_rows x1).1
  obtain ⟨fo, fl, f2, g0, g1, g2, g3, g4⟩ := id x7
  obtain ⟨nx, p0⟩ := Pa_obj x2
  have hn := hz.n
  have hu5 := hz.u5
  have hs8 := hz.s8
  have hl := lv_entry ([.ref b, .int u, .int y]) (n := 4) (Nat.le_of_ble_eq_true rfl)
  rw [lg_entry_eq]
  generalize (lg_sl ([.ref b, .int u, .int y]) ++ List.replicate (4 - (lg_sl ([.ref b, .int u, .int y])).length) Slot.unset).toArray = ls at hl ⊢
  have hl : lv_has ls 4 [(0, .ref b), (1, .int u), (2, .int y)] := hl
  refine lv_aload_n hx hb dX3_pointsAt_0 rfl (lv_at hl 0 rfl) ?_
  refine lv_iload_n hx hb dX3_pointsAt_1 rfl (lv_at hl 1 rfl) ?_
  refine r_cV (av := [.int u]) (c_X3_isUser l G t b z gr sl bc bk kp im hz u) ⟨hx, hb, hml, hown, hts⟩ (cwV 1 hts gX3_pointsAt_X3_isUser rfl rfl rfl (by decide +kernel) ⟨Nat.le_of_ble_eq_true rfl, Nat.le_of_ble_eq_true rfl⟩) mv_K hB (at_recv hK x0 rfl) rfl hl (Nat.le_of_ble_eq_true rfl) ⟨Nat.le_of_ble_eq_true rfl, Nat.le_of_ble_eq_true rfl⟩ rfl dX3_pointsAt_2 (fun r1 hr1 => ?_)
  subst hr1
  refine r_ifneB hx hb dX3_pointsAt_5 (tgt := 11) (by decide) (fun c1 => ?_) (fun c1 => ?_)
  · obtain ⟨k, hk, ek⟩ := usB_t hz c1
    have ekc : cl u = k := by rw [ek]; exact cl_N (by omega)
    refine lv_iload_n hx hb dX3_pointsAt_11 rfl (lv_at hl 2 rfl) ?_
    refine r_cS (av := [.int y]) (c_X3_isSlotAsked l G t y) ⟨hx, hb, hml, hown, hts⟩ (va_cwS 1 hts gX3_pointsAt_X3_isSlotAsked rfl rfl rfl (by decide +kernel) ⟨Nat.le_of_ble_eq_true rfl, Nat.le_of_ble_eq_true rfl⟩) mv_T trivial rfl hl (Nat.le_of_ble_eq_true rfl) ⟨Nat.le_of_ble_eq_true rfl, Nat.le_of_ble_eq_true rfl⟩ rfl dX3_pointsAt_12 (fun r2 hr2 => ?_)
    subst hr2
    refine r_ifneB hx hb dX3_pointsAt_15 (tgt := 21) (by decide) (fun c2 => ?_) (fun c2 => ?_)
    · obtain ⟨j, ja, jb, ej⟩ := in_of (by decide) (by decide) c2
      have ejc : cl y = j := by rw [ej]; exact cl_N (by omega)
      refine lv_aload_n hx hb dX3_pointsAt_21 rfl (lv_at hl 0 rfl) ?_
      refine r_get (C := RX3) (T := TX3) (N := 8) hx hb hts iiX3_pointsAt_3 hown hK x0 rfl 0 (by decide) (hts (.fieldLink RX3 10 "HopMeet" "now" "LHopMeet$Scene;") (List.mem_of_getElem? (i := 3) rfl)) rfl dX3_pointsAt_22 ?_
      refine lv_iload_n hx hb dX3_pointsAt_25 rfl (lv_at hl 1 rfl) ?_
      refine r_top (y := nI k) ek ?_
      refine lv_iload_n hx hb dX3_pointsAt_26 rfl (lv_at hl 2 rfl) ?_
      refine r_top (y := nI j) ej ?_
      refine r_cV (av := [.int (nI k), .int (nI j)]) (c_X2_clockOf l G t (b + 1) z hz k j hk) ⟨hx, hb, hml, hown, hts⟩ (cwV 2 hts gX3_pointsAt_X2_clockOf rfl rfl rfl (by decide +kernel) ⟨Nat.le_of_ble_eq_true rfl, Nat.le_of_ble_eq_true rfl⟩) mv_K ⟨hK, x1⟩ (at_recv hK y0 rfl) rfl hl (Nat.le_of_ble_eq_true rfl) ⟨Nat.le_of_ble_eq_true rfl, Nat.le_of_ble_eq_true rfl⟩ rfl dX3_pointsAt_27 (fun r3 hr3 => ?_)
      subst hr3
      have hwb := (hz.us hk).2.2.2.1.2
      rcases Nat.lt_or_ge j (uW z k) with hw | hw
      · refine lv_istore_n (lv' := [(3, .int (nI j - nI (uW z k))), (0, .ref b), (1, .int u), (2, .int y)]) hx hb dX3_pointsAt_30 rfl hl (by decide) rfl (fun ls hl => ?_)
        refine lv_iload_n hx hb dX3_pointsAt_31 rfl (lv_at hl 0 rfl) ?_
        refine lv_if_ge (tgt := 39) hx hb dX3_pointsAt_32 (by decide) (fun c3 => ?_) (fun c3 => ?_)
        · exact (i_neg_ge (pk_sneg (by omega) hw) c3).elim
        · refine lv_iconst (v := (-1)) hx hb dX3_pointsAt_35 (by decide) ?_
          refine lv_goto (tgt := 48) hx hb dX3_pointsAt_36 (by decide) ?_
          exact r_retS (v := (-1)) hx hb hr hlocks (by unfold rPts; rw [c1, c2, ekc, ejc]; exact (if_pos hw).symm) dX3_pointsAt_48
      · refine r_top (y := nI (j - uW z k)) (pk_sub hw) ?_
        refine lv_istore_n (lv' := [(3, .int (nI (j - uW z k))), (0, .ref b), (1, .int u), (2, .int y)]) hx hb dX3_pointsAt_30 rfl hl (by decide) rfl (fun ls hl => ?_)
        refine lv_iload_n hx hb dX3_pointsAt_31 rfl (lv_at hl 0 rfl) ?_
        refine lv_if_ge (tgt := 39) hx hb dX3_pointsAt_32 (by decide) (fun _ => ?_) (fun c3 => absurd (nI_pos' (by omega)) c3)
        refine lv_aload_n hx hb dX3_pointsAt_39 rfl (lv_at hl 1 rfl) ?_
        refine r_get (C := RX3) (T := TX3) (N := 8) hx hb hts iiX3_pointsAt_3 hown hK x0 rfl 0 (by decide) (hts (.fieldLink RX3 10 "HopMeet" "now" "LHopMeet$Scene;") (List.mem_of_getElem? (i := 3) rfl)) rfl dX3_pointsAt_40 ?_
        refine lv_iload_n hx hb dX3_pointsAt_43 rfl (lv_at hl 2 rfl) ?_
        refine r_top (y := nI k) ek ?_
        refine lv_iload_n hx hb dX3_pointsAt_44 rfl (lv_at hl 0 rfl) ?_
        refine r_cV (av := [.int (nI k), .int (nI (j - uW z k))]) (c_X2_aim l G t (b + 1) z hz k (j - uW z k) hk (by omega)) ⟨hx, hb, hml, hown, hts⟩ (cwV 2 hts gX3_pointsAt_X2_aim rfl rfl rfl (by decide +kernel) ⟨Nat.le_of_ble_eq_true rfl, Nat.le_of_ble_eq_true rfl⟩) mv_K ⟨hK, x1⟩ (at_recv hK y0 rfl) rfl hl (Nat.le_of_ble_eq_true rfl) ⟨Nat.le_of_ble_eq_true rfl, Nat.le_of_ble_eq_true rfl⟩ rfl dX3_pointsAt_45 (fun r4 hr4 => ?_)
        subst hr4
        exact r_retS (v := nI (aimN z k (j - uW z k))) hx hb hr hlocks (by unfold rPts; rw [c1, c2, ekc, ejc]; exact (if_neg (by omega)).symm) dX3_pointsAt_48
    · refine lv_ldc (v := (-1000000002)) hx hb hown (hts (.constant RX3 48 (-1000000002)) (List.mem_of_getElem? (i := 2) rfl)) dX3_pointsAt_18 ?_
      exact r_retS (v := (-1000000002)) hx hb hr hlocks (by unfold rPts; rw [c1, c2]; rfl) dX3_pointsAt_20
  · refine lv_ldc (v := (-1000000001)) hx hb hown (hts (.constant RX3 83 (-1000000001)) (List.mem_of_getElem? (i := 1) rfl)) dX3_pointsAt_8 ?_
    exact r_retS (v := (-1000000001)) hx hb hr hlocks (by unfold rPts; rw [c1]; rfl) dX3_pointsAt_10

set_option maxRecDepth 20000 in
theorem iiX3_on_3 : ∀ w ∈ wsX30, w ∈ wsX3_on := by decide +kernel
set_option maxRecDepth 20000 in
theorem iiX3_on_2 : ∀ w ∈ wsX20, w ∈ wsX3_on := by decide +kernel
set_option maxHeartbeats 4000000 in
set_option maxRecDepth 100000 in
/-- at a slot -/
theorem c_X3_on (l : Launch) (G : va_G) (t : gT) (b : Nat) (z : Nat → Int32) (gr : Nat → Nat) (sl bc : Nat) (bk : Nat → Nat → Int32) (kp : Nat → Bool) (im : Nat → Nat → Int32) (hz : WF z) (u y : Int32) : Met l yX3_on wsX3_on ({ frames := 5, cells := 0, slots := 0, locals := 121 } : Room) (pc_ [.ref b, .int u, .int y] (fun U H => KK G t U ∧ PX G t b (z, gr, sl, bc, bk, kp, im) H)) (vp_Si (fun r => r = rOn u y z)) 0 0 (fun _ => False) := by
  refine Met.ofW (cc := cX3_on) (maxL := 3) (ret := (some .int)) (by decide) rfl ?_
  intro p e s m args below meth c s₁ B hml hv
  obtain ⟨rfl, hB⟩ := hv
  have hx := B.exec
  have hb := B.bytes
  have hr := B.returns
  have hts := atoms_spec (ws := wsX3_on) B.pre
  have hown : s.vm.findClass RX3 = some m.cls := findClass_of_methodNamed B.named
  have hlocks := B.notSynchronized
  have hK := hB.1
  obtain ⟨x0, x1, x2, ⟨x3, jm, x4, x5⟩, x6, x7, x8, x9, x10⟩ := hB.2
  have y0 := Sc_obj x1
  have y1 := (Sc_rows x1).1
  obtain ⟨fo, fl, f2, g0, g1, g2, g3, g4⟩ := id x7
  obtain ⟨nx, p0⟩ := Pa_obj x2
  have hn := hz.n
  have hu5 := hz.u5
  have hs8 := hz.s8
  have hl := lv_entry ([.ref b, .int u, .int y]) (n := 3) (Nat.le_of_ble_eq_true rfl)
  rw [lg_entry_eq]
  generalize (lg_sl ([.ref b, .int u, .int y]) ++ List.replicate (3 - (lg_sl ([.ref b, .int u, .int y])).length) Slot.unset).toArray = ls at hl ⊢
  have hl : lv_has ls 3 [(0, .ref b), (1, .int u), (2, .int y)] := hl
  refine lv_aload_n hx hb dX3_on_0 rfl (lv_at hl 0 rfl) ?_
  refine lv_iload_n hx hb dX3_on_1 rfl (lv_at hl 1 rfl) ?_
  refine r_cV (av := [.int u]) (c_X3_isUser l G t b z gr sl bc bk kp im hz u) ⟨hx, hb, hml, hown, hts⟩ (cwV 1 hts gX3_on_X3_isUser rfl rfl rfl (by decide +kernel) ⟨Nat.le_of_ble_eq_true rfl, Nat.le_of_ble_eq_true rfl⟩) mv_K hB (at_recv hK x0 rfl) rfl hl (Nat.le_of_ble_eq_true rfl) ⟨Nat.le_of_ble_eq_true rfl, Nat.le_of_ble_eq_true rfl⟩ rfl dX3_on_2 (fun r1 hr1 => ?_)
  subst hr1
  refine r_ifneB hx hb dX3_on_5 (tgt := 11) (by decide) (fun c1 => ?_) (fun c1 => ?_)
  · obtain ⟨k, hk, ek⟩ := usB_t hz c1
    have ekc : cl u = k := by rw [ek]; exact cl_N (by omega)
    refine lv_iload_n hx hb dX3_on_11 rfl (lv_at hl 2 rfl) ?_
    refine r_cS (av := [.int y]) (c_X3_isSlotAsked l G t y) ⟨hx, hb, hml, hown, hts⟩ (va_cwS 1 hts gX3_on_X3_isSlotAsked rfl rfl rfl (by decide +kernel) ⟨Nat.le_of_ble_eq_true rfl, Nat.le_of_ble_eq_true rfl⟩) mv_T trivial rfl hl (Nat.le_of_ble_eq_true rfl) ⟨Nat.le_of_ble_eq_true rfl, Nat.le_of_ble_eq_true rfl⟩ rfl dX3_on_12 (fun r2 hr2 => ?_)
    subst hr2
    refine r_ifeqB hx hb dX3_on_15 (tgt := 30) (by decide) (fun c2 => ?_) (fun c2 => ?_)
    · refine lv_ldc (v := (-1000000002)) hx hb hown (hts (.constant RX3 48 (-1000000002)) (List.mem_of_getElem? (i := 3) rfl)) dX3_on_30 ?_
      exact r_retS (v := (-1000000002)) hx hb hr hlocks (by unfold rOn; rw [c1, c2]; rfl) dX3_on_32
    · obtain ⟨j, ja, jb, ej⟩ := in_of (by decide) (by decide) c2
      have ejc : cl y = j := by rw [ej]; exact cl_N (by omega)
      refine lv_aload_n hx hb dX3_on_18 rfl (lv_at hl 0 rfl) ?_
      refine r_get (C := RX3) (T := TX3) (N := 8) hx hb hts iiX3_on_3 hown hK x0 rfl 0 (by decide) (hts (.fieldLink RX3 10 "HopMeet" "now" "LHopMeet$Scene;") (List.mem_of_getElem? (i := 2) rfl)) rfl dX3_on_19 ?_
      refine lv_iload_n hx hb dX3_on_22 rfl (lv_at hl 1 rfl) ?_
      refine r_top (y := nI k) ek ?_
      refine lv_iload_n hx hb dX3_on_23 rfl (lv_at hl 2 rfl) ?_
      refine r_top (y := nI j) ej ?_
      refine r_cV (av := [.int (nI k), .int (nI j)]) (c_X2_place l G t (b + 1) z hz k j hk (by omega)) ⟨hx, hb, hml, hown, hts⟩ (cwV 2 hts gX3_on_X2_place rfl rfl rfl (by decide +kernel) ⟨Nat.le_of_ble_eq_true rfl, Nat.le_of_ble_eq_true rfl⟩) mv_K ⟨hK, x1⟩ (at_recv hK y0 rfl) rfl hl (Nat.le_of_ble_eq_true rfl) ⟨Nat.le_of_ble_eq_true rfl, Nat.le_of_ble_eq_true rfl⟩ rfl dX3_on_24 (fun r3 hr3 => ?_)
      subst hr3
      refine lv_goto (tgt := 32) hx hb dX3_on_27 (by decide) ?_
      exact r_retS (v := plC z k j) hx hb hr hlocks (by unfold rOn; rw [c1, c2, ekc, ejc]; rfl) dX3_on_32
  · refine lv_ldc (v := (-1000000001)) hx hb hown (hts (.constant RX3 83 (-1000000001)) (List.mem_of_getElem? (i := 1) rfl)) dX3_on_8 ?_
    exact r_retS (v := (-1000000001)) hx hb hr hlocks (by unfold rOn; rw [c1]; rfl) dX3_on_10

set_option maxRecDepth 20000 in
theorem iiX3_why_3 : ∀ w ∈ wsX30, w ∈ wsX3_why := by decide +kernel
set_option maxRecDepth 20000 in
theorem iiX3_why_2 : ∀ w ∈ wsX20, w ∈ wsX3_why := by decide +kernel
set_option maxHeartbeats 4000000 in
set_option maxRecDepth 100000 in
/-- at a slot -/
theorem c_X3_why (l : Launch) (G : va_G) (t : gT) (b : Nat) (z : Nat → Int32) (gr : Nat → Nat) (sl bc : Nat) (bk : Nat → Nat → Int32) (kp : Nat → Bool) (im : Nat → Nat → Int32) (hz : WF z) (u y : Int32) : Met l yX3_why wsX3_why ({ frames := 5, cells := 0, slots := 0, locals := 121 } : Room) (pc_ [.ref b, .int u, .int y] (fun U H => KK G t U ∧ PX G t b (z, gr, sl, bc, bk, kp, im) H)) (vp_Si (fun r => r = rWhy u y z)) 0 0 (fun _ => False) := by
  refine Met.ofW (cc := cX3_why) (maxL := 3) (ret := (some .int)) (by decide) rfl ?_
  intro p e s m args below meth c s₁ B hml hv
  obtain ⟨rfl, hB⟩ := hv
  have hx := B.exec
  have hb := B.bytes
  have hr := B.returns
  have hts := atoms_spec (ws := wsX3_why) B.pre
  have hown : s.vm.findClass RX3 = some m.cls := findClass_of_methodNamed B.named
  have hlocks := B.notSynchronized
  have hK := hB.1
  obtain ⟨x0, x1, x2, ⟨x3, jm, x4, x5⟩, x6, x7, x8, x9, x10⟩ := hB.2
  have y0 := Sc_obj x1
  have y1 := (Sc_rows x1).1
  obtain ⟨fo, fl, f2, g0, g1, g2, g3, g4⟩ := id x7
  obtain ⟨nx, p0⟩ := Pa_obj x2
  have hn := hz.n
  have hu5 := hz.u5
  have hs8 := hz.s8
  have hl := lv_entry ([.ref b, .int u, .int y]) (n := 3) (Nat.le_of_ble_eq_true rfl)
  rw [lg_entry_eq]
  generalize (lg_sl ([.ref b, .int u, .int y]) ++ List.replicate (3 - (lg_sl ([.ref b, .int u, .int y])).length) Slot.unset).toArray = ls at hl ⊢
  have hl : lv_has ls 3 [(0, .ref b), (1, .int u), (2, .int y)] := hl
  refine lv_aload_n hx hb dX3_why_0 rfl (lv_at hl 0 rfl) ?_
  refine lv_iload_n hx hb dX3_why_1 rfl (lv_at hl 1 rfl) ?_
  refine r_cV (av := [.int u]) (c_X3_isUser l G t b z gr sl bc bk kp im hz u) ⟨hx, hb, hml, hown, hts⟩ (cwV 1 hts gX3_why_X3_isUser rfl rfl rfl (by decide +kernel) ⟨Nat.le_of_ble_eq_true rfl, Nat.le_of_ble_eq_true rfl⟩) mv_K hB (at_recv hK x0 rfl) rfl hl (Nat.le_of_ble_eq_true rfl) ⟨Nat.le_of_ble_eq_true rfl, Nat.le_of_ble_eq_true rfl⟩ rfl dX3_why_2 (fun r1 hr1 => ?_)
  subst hr1
  refine r_ifneB hx hb dX3_why_5 (tgt := 11) (by decide) (fun c1 => ?_) (fun c1 => ?_)
  · obtain ⟨k, hk, ek⟩ := usB_t hz c1
    have ekc : cl u = k := by rw [ek]; exact cl_N (by omega)
    refine lv_iload_n hx hb dX3_why_11 rfl (lv_at hl 2 rfl) ?_
    refine r_cS (av := [.int y]) (c_X3_isSlotAsked l G t y) ⟨hx, hb, hml, hown, hts⟩ (va_cwS 1 hts gX3_why_X3_isSlotAsked rfl rfl rfl (by decide +kernel) ⟨Nat.le_of_ble_eq_true rfl, Nat.le_of_ble_eq_true rfl⟩) mv_T trivial rfl hl (Nat.le_of_ble_eq_true rfl) ⟨Nat.le_of_ble_eq_true rfl, Nat.le_of_ble_eq_true rfl⟩ rfl dX3_why_12 (fun r2 hr2 => ?_)
    subst hr2
    refine r_ifeqB hx hb dX3_why_15 (tgt := 30) (by decide) (fun c2 => ?_) (fun c2 => ?_)
    · refine lv_ldc (v := (-1000000002)) hx hb hown (hts (.constant RX3 48 (-1000000002)) (List.mem_of_getElem? (i := 3) rfl)) dX3_why_30 ?_
      exact r_retS (v := (-1000000002)) hx hb hr hlocks (by unfold rWhy; rw [c1, c2]; rfl) dX3_why_32
    · obtain ⟨j, ja, jb, ej⟩ := in_of (by decide) (by decide) c2
      have ejc : cl y = j := by rw [ej]; exact cl_N (by omega)
      refine lv_aload_n hx hb dX3_why_18 rfl (lv_at hl 0 rfl) ?_
      refine r_get (C := RX3) (T := TX3) (N := 8) hx hb hts iiX3_why_3 hown hK x0 rfl 0 (by decide) (hts (.fieldLink RX3 10 "HopMeet" "now" "LHopMeet$Scene;") (List.mem_of_getElem? (i := 2) rfl)) rfl dX3_why_19 ?_
      refine lv_iload_n hx hb dX3_why_22 rfl (lv_at hl 1 rfl) ?_
      refine r_top (y := nI k) ek ?_
      refine lv_iload_n hx hb dX3_why_23 rfl (lv_at hl 2 rfl) ?_
      refine r_top (y := nI j) ej ?_
      refine r_cV (av := [.int (nI k), .int (nI j)]) (c_X2_whyNowhere l G t (b + 1) z hz k j hk (by omega)) ⟨hx, hb, hml, hown, hts⟩ (cwV 2 hts gX3_why_X2_whyNowhere rfl rfl rfl (by decide +kernel) ⟨Nat.le_of_ble_eq_true rfl, Nat.le_of_ble_eq_true rfl⟩) mv_K ⟨hK, x1⟩ (at_recv hK y0 rfl) rfl hl (Nat.le_of_ble_eq_true rfl) ⟨Nat.le_of_ble_eq_true rfl, Nat.le_of_ble_eq_true rfl⟩ rfl dX3_why_24 (fun r3 hr3 => ?_)
      subst hr3
      refine lv_goto (tgt := 32) hx hb dX3_why_27 (by decide) ?_
      exact r_retS (v := whC z k j) hx hb hr hlocks (by unfold rWhy; rw [c1, c2, ekc, ejc]; rfl) dX3_why_32
  · refine lv_ldc (v := (-1000000001)) hx hb hown (hts (.constant RX3 83 (-1000000001)) (List.mem_of_getElem? (i := 1) rfl)) dX3_why_8 ?_
    exact r_retS (v := (-1000000001)) hx hb hr hlocks (by unfold rWhy; rw [c1]; rfl) dX3_why_10

set_option maxRecDepth 20000 in
theorem iiX3_first_3 : ∀ w ∈ wsX30, w ∈ wsX3_first := by decide +kernel
set_option maxRecDepth 20000 in
theorem iiX3_first_2 : ∀ w ∈ wsX20, w ∈ wsX3_first := by decide +kernel
set_option maxHeartbeats 4000000 in
set_option maxRecDepth 100000 in
/-- the first slot in which two meet -/
theorem c_X3_first (l : Launch) (G : va_G) (t : gT) (b : Nat) (z : Nat → Int32) (gr : Nat → Nat) (sl bc : Nat) (bk : Nat → Nat → Int32) (kp : Nat → Bool) (im : Nat → Nat → Int32) (hz : WF z) (u v : Int32) : Met l yX3_first wsX3_first ({ frames := 6, cells := 0, slots := 0, locals := 145 } : Room) (pc_ [.ref b, .int u, .int v] (fun U H => KK G t U ∧ PX G t b (z, gr, sl, bc, bk, kp, im) H)) (vp_Si (fun r => r = rFirst u v z)) 0 0 (fun _ => False) := by
  refine Met.ofW (cc := cX3_first) (maxL := 4) (ret := (some .int)) (by decide) rfl ?_
  intro p e s m args below meth c s₁ B hml hv
  obtain ⟨rfl, hB⟩ := hv
  have hx := B.exec
  have hb := B.bytes
  have hr := B.returns
  have hts := atoms_spec (ws := wsX3_first) B.pre
  have hown : s.vm.findClass RX3 = some m.cls := findClass_of_methodNamed B.named
  have hlocks := B.notSynchronized
  have hK := hB.1
  obtain ⟨x0, x1, x2, ⟨x3, jm, x4, x5⟩, x6, x7, x8, x9, x10⟩ := hB.2
  have y0 := Sc_obj x1
  have y1 := (Sc_rows x1).1
  obtain ⟨fo, fl, f2, g0, g1, g2, g3, g4⟩ := id x7
  obtain ⟨nx, p0⟩ := Pa_obj x2
  have hn := hz.n
  have hu5 := hz.u5
  have hs8 := hz.s8
  have hl := lv_entry ([.ref b, .int u, .int v]) (n := 4) (Nat.le_of_ble_eq_true rfl)
  rw [lg_entry_eq]
  generalize (lg_sl ([.ref b, .int u, .int v]) ++ List.replicate (4 - (lg_sl ([.ref b, .int u, .int v])).length) Slot.unset).toArray = ls at hl ⊢
  have hl : lv_has ls 4 [(0, .ref b), (1, .int u), (2, .int v)] := hl
  refine lv_aload_n hx hb dX3_first_0 rfl (lv_at hl 0 rfl) ?_
  refine lv_iload_n hx hb dX3_first_1 rfl (lv_at hl 1 rfl) ?_
  refine lv_iload_n hx hb dX3_first_2 rfl (lv_at hl 2 rfl) ?_
  refine r_cV (av := [.int u, .int v]) (c_X3_areTwoUsers l G t b z gr sl bc bk kp im hz u v) ⟨hx, hb, hml, hown, hts⟩ (cwV 2 hts gX3_first_X3_areTwoUsers rfl rfl rfl (by decide +kernel) ⟨Nat.le_of_ble_eq_true rfl, Nat.le_of_ble_eq_true rfl⟩) mv_K hB (at_recv hK x0 rfl) rfl hl (Nat.le_of_ble_eq_true rfl) ⟨Nat.le_of_ble_eq_true rfl, Nat.le_of_ble_eq_true rfl⟩ rfl dX3_first_3 (fun r1 hr1 => ?_)
  subst hr1
  refine r_ifneB hx hb dX3_first_6 (tgt := 12) (by decide) (fun c1 => ?_) (fun c1 => ?_)
  · obtain ⟨k, k2, hk, hk2, ek, ek2⟩ := twB_t hz c1
    have ekc : cl u = k := by rw [ek]; exact cl_N (by omega)
    have ekc2 : cl v = k2 := by rw [ek2]; exact cl_N (by omega)
    refine lv_iconst (v := nI 0) hx hb dX3_first_12 (by decide) ?_
    refine lv_istore_n (lv' := [(3, .int (nI 0)), (0, .ref b), (1, .int u), (2, .int v)]) hx hb dX3_first_13 rfl hl (by decide) rfl (fun ls hl => ?_)
    have loop14 : ∀ (fu : Nat) (i : Nat) (hi : i ≤ 1500) (hp : ∀ j, j < i → meB z k k2 j = false) (hfu : 1500 - i < fu) (ls : Array Slot) (hl : lv_has ls 4 [(0, .ref b), (1, .int u), (2, .int v), (3, .int (nI i))]), W p l e (headSpec wsX3_first ({ frames := 6, cells := 0, slots := 0, locals := 145 } : Room)).room s m ([.ref b, .int u, .int v] : List Value).toArray below meth c s.heap [] 0 0 (MQ below (vp_Si (fun r => r = rFirst u v z)) ([.ref b, .int u, .int v] : List Value).toArray s 0 0 (fun _ => False)) (F0 m 14 ls []) := by
      intro fu
      induction fu with
      | zero => intro i hi hp hfu; exact absurd hfu (Nat.not_lt_zero _)
      | succ fu14 ih14 =>
        intro i hi hp hfu ls hl
        refine lv_iload_n hx hb dX3_first_14 rfl (lv_at hl 3 rfl) ?_
        refine lv_sipush (v := nI 1500) hx hb dX3_first_15 (by decide) ?_
        refine r_geN hx hb (by omega) (by omega) dX3_first_18 (tgt := 42) (by decide) (fun c2 => ?_) (fun c2 => ?_)
        · refine lv_iconst (v := (-1)) hx hb dX3_first_42 (by decide) ?_
          exact r_retS (v := (-1)) hx hb hr hlocks (by unfold rFirst frN; rw [c1, ekc, ekc2, fi_none (fun j hj => hp j (by omega))]; rfl) dX3_first_43
        · refine lv_aload_n hx hb dX3_first_21 rfl (lv_at hl 0 rfl) ?_
          refine r_get (C := RX3) (T := TX3) (N := 8) hx hb hts iiX3_first_3 hown hK x0 rfl 0 (by decide) (hts (.fieldLink RX3 10 "HopMeet" "now" "LHopMeet$Scene;") (List.mem_of_getElem? (i := 2) rfl)) rfl dX3_first_22 ?_
          refine lv_iload_n hx hb dX3_first_25 rfl (lv_at hl 1 rfl) ?_
          refine r_top (y := nI k) ek ?_
          refine lv_iload_n hx hb dX3_first_26 rfl (lv_at hl 2 rfl) ?_
          refine r_top (y := nI k2) ek2 ?_
          refine lv_iload_n hx hb dX3_first_27 rfl (lv_at hl 3 rfl) ?_
          refine r_cV (av := [.int (nI k), .int (nI k2), .int (nI i)]) (c_X2_meet l G t (b + 1) z hz k k2 i hk hk2 (by omega)) ⟨hx, hb, hml, hown, hts⟩ (cwV 3 hts gX3_first_X2_meet rfl rfl rfl (by decide +kernel) ⟨Nat.le_of_ble_eq_true rfl, Nat.le_of_ble_eq_true rfl⟩) mv_K ⟨hK, x1⟩ (at_recv hK y0 rfl) rfl hl (Nat.le_of_ble_eq_true rfl) ⟨Nat.le_of_ble_eq_true rfl, Nat.le_of_ble_eq_true rfl⟩ rfl dX3_first_28 (fun r2 hr2 => ?_)
          subst hr2
          refine r_ifeqB hx hb dX3_first_31 (tgt := 36) (by decide) (fun c3 => ?_) (fun c3 => ?_)
          · refine lv_iinc (v := nI (i + 1)) (lv' := [(3, .int (nI (i + 1))), (0, .ref b), (1, .int u), (2, .int v)]) hx hb dX3_first_36 hl (k := 3) rfl (nI_1 _) (by decide) rfl (fun ls hl => ?_)
            refine lv_goto (tgt := 14) hx hb dX3_first_39 (by decide) ?_
            exact ih14 (i + 1) (by omega) (lt_s hp c3) (by omega) ls (lv_sub hl [1, 2, 3, 0] rfl)
          · refine lv_iload_n hx hb dX3_first_34 rfl (lv_at hl 3 rfl) ?_
            exact r_retS (v := nI i) hx hb hr hlocks (by unfold rFirst frN; rw [c1, ekc, ekc2, fi_eq hp c3 c2]; exact (if_pos c2).symm) dX3_first_35
    exact loop14 _ 0 (Nat.zero_le _) (fun j h => absurd h (Nat.not_lt_zero _)) (Nat.lt_succ_self _) ls (lv_sub hl [1, 2, 3, 0] rfl)
  · refine lv_ldc (v := (-1000000001)) hx hb hown (hts (.constant RX3 83 (-1000000001)) (List.mem_of_getElem? (i := 1) rfl)) dX3_first_9 ?_
    exact r_retS (v := (-1000000001)) hx hb hr hlocks (by unfold rFirst; rw [c1]; rfl) dX3_first_11

set_option maxRecDepth 20000 in
theorem iiX3_together_3 : ∀ w ∈ wsX30, w ∈ wsX3_together := by decide +kernel
set_option maxRecDepth 20000 in
theorem iiX3_together_2 : ∀ w ∈ wsX20, w ∈ wsX3_together := by decide +kernel
set_option maxHeartbeats 4000000 in
set_option maxRecDepth 100000 in
/-- how often two meet -/
theorem c_X3_together (l : Launch) (G : va_G) (t : gT) (b : Nat) (z : Nat → Int32) (gr : Nat → Nat) (sl bc : Nat) (bk : Nat → Nat → Int32) (kp : Nat → Bool) (im : Nat → Nat → Int32) (hz : WF z) (u v n : Int32) : Met l yX3_together wsX3_together ({ frames := 6, cells := 0, slots := 0, locals := 145 } : Room) (pc_ [.ref b, .int u, .int v, .int n] (fun U H => KK G t U ∧ PX G t b (z, gr, sl, bc, bk, kp, im) H)) (vp_Si (fun r => r = rTogether u v n z)) 0 0 (fun _ => False) := by
  refine Met.ofW (cc := cX3_together) (maxL := 6) (ret := (some .int)) (by decide) rfl ?_
  intro p e s m args below meth c s₁ B hml hv
  obtain ⟨rfl, hB⟩ := hv
  have hx := B.exec
  have hb := B.bytes
  have hr := B.returns
  have hts := atoms_spec (ws := wsX3_together) B.pre
  have hown : s.vm.findClass RX3 = some m.cls := findClass_of_methodNamed B.named
  have hlocks := B.notSynchronized
  have hK := hB.1
  obtain ⟨x0, x1, x2, ⟨x3, jm, x4, x5⟩, x6, x7, x8, x9, x10⟩ := hB.2
  have y0 := Sc_obj x1
  have y1 := (Sc_rows x1).1
  obtain ⟨fo, fl, f2, g0, g1, g2, g3, g4⟩ := id x7
  obtain ⟨nx, p0⟩ := Pa_obj x2
  have hn := hz.n
  have hu5 := hz.u5
  have hs8 := hz.s8
  have hl := lv_entry ([.ref b, .int u, .int v, .int n]) (n := 6) (Nat.le_of_ble_eq_true rfl)
  rw [lg_entry_eq]
  generalize (lg_sl ([.ref b, .int u, .int v, .int n]) ++ List.replicate (6 - (lg_sl ([.ref b, .int u, .int v, .int n])).length) Slot.unset).toArray = ls at hl ⊢
  have hl : lv_has ls 6 [(0, .ref b), (1, .int u), (2, .int v), (3, .int n)] := hl
  refine lv_aload_n hx hb dX3_together_0 rfl (lv_at hl 0 rfl) ?_
  refine lv_iload_n hx hb dX3_together_1 rfl (lv_at hl 1 rfl) ?_
  refine lv_iload_n hx hb dX3_together_2 rfl (lv_at hl 2 rfl) ?_
  refine r_cV (av := [.int u, .int v]) (c_X3_areTwoUsers l G t b z gr sl bc bk kp im hz u v) ⟨hx, hb, hml, hown, hts⟩ (cwV 2 hts gX3_together_X3_areTwoUsers rfl rfl rfl (by decide +kernel) ⟨Nat.le_of_ble_eq_true rfl, Nat.le_of_ble_eq_true rfl⟩) mv_K hB (at_recv hK x0 rfl) rfl hl (Nat.le_of_ble_eq_true rfl) ⟨Nat.le_of_ble_eq_true rfl, Nat.le_of_ble_eq_true rfl⟩ rfl dX3_together_3 (fun r1 hr1 => ?_)
  subst hr1
  refine r_ifneB hx hb dX3_together_6 (tgt := 12) (by decide) (fun c1 => ?_) (fun c1 => ?_)
  · obtain ⟨k, k2, hk, hk2, ek, ek2⟩ := twB_t hz c1
    have ekc : cl u = k := by rw [ek]; exact cl_N (by omega)
    have ekc2 : cl v = k2 := by rw [ek2]; exact cl_N (by omega)
    refine lv_iload_n hx hb dX3_together_12 rfl (lv_at hl 3 rfl) ?_
    refine lv_if_lt (tgt := 23) hx hb dX3_together_13 (by decide) (fun c4 => ?_) (fun c4 => ?_)
    · refine lv_ldc (v := (-1000000002)) hx hb hown (hts (.constant RX3 48 (-1000000002)) (List.mem_of_getElem? (i := 2) rfl)) dX3_together_23 ?_
      exact r_retS (v := (-1000000002)) hx hb hr hlocks (by unfold rTogether; rw [c1]; first | (rw [in_f1 (a := nI 0) c4]; rfl) | (rw [in_f3 c5]; rfl)) dX3_together_25
    · refine lv_iload_n hx hb dX3_together_16 rfl (lv_at hl 3 rfl) ?_
      refine lv_sipush (v := nI 1500) hx hb dX3_together_17 (by decide) ?_
      refine lv_icmp_le (tgt := 26) hx hb dX3_together_20 (by decide) (fun c5 => ?_) (fun c5 => ?_)
      · have c2 := in_t2 (a := nI 0) c4 c5
        obtain ⟨j, ja, jb, ej⟩ := in_of (by decide) (by decide) c2
        have ejc : cl n = j := by rw [ej]; exact cl_N (by omega)
        refine lv_iconst (v := nI 0) hx hb dX3_together_26 (by decide) ?_
        refine lv_istore (lv' := [(4, .int (nI 0)), (0, .ref b), (1, .int u), (2, .int v), (3, .int n)]) hx hb dX3_together_27 hl (by decide) rfl (fun ls hl => ?_)
        refine lv_iconst (v := nI 0) hx hb dX3_together_29 (by decide) ?_
        refine lv_istore (lv' := [(5, .int (nI 0)), (4, .int (nI 0)), (0, .ref b), (1, .int u), (2, .int v), (3, .int n)]) hx hb dX3_together_30 hl (by decide) rfl (fun ls hl => ?_)
        have loop32 : ∀ (fu : Nat) (i : Nat) (w : Nat) (hi : i ≤ j) (hw : w = cntF (meB z k k2) i) (hfu : j - i < fu) (ls : Array Slot) (hl : lv_has ls 6 [(0, .ref b), (1, .int u), (2, .int v), (3, .int n), (4, .int (nI w)), (5, .int (nI i))]), W p l e (headSpec wsX3_together ({ frames := 6, cells := 0, slots := 0, locals := 145 } : Room)).room s m ([.ref b, .int u, .int v, .int n] : List Value).toArray below meth c s.heap [] 0 0 (MQ below (vp_Si (fun r => r = rTogether u v n z)) ([.ref b, .int u, .int v, .int n] : List Value).toArray s 0 0 (fun _ => False)) (F0 m 32 ls []) := by
          intro fu
          induction fu with
          | zero => intro i w hi hw hfu; exact absurd hfu (Nat.not_lt_zero _)
          | succ fu32 ih32 =>
            intro i w hi hw hfu ls hl
            refine lv_iload hx hb dX3_together_32 (lv_at hl 5 rfl) ?_
            refine lv_iload_n hx hb dX3_together_34 rfl (lv_at hl 3 rfl) ?_
            refine r_top (y := nI j) ej ?_
            refine r_geN hx hb (by omega) (by omega) dX3_together_35 (tgt := 61) (by decide) (fun c6 => ?_) (fun c6 => ?_)
            · refine lv_iload hx hb dX3_together_61 (lv_at hl 4 rfl) ?_
              exact r_retS (v := nI w) hx hb hr hlocks (by unfold rTogether; rw [c1, c2, ekc, ekc2, ejc, hw, show i = j by omega]; rfl) dX3_together_63
            · refine lv_aload_n hx hb dX3_together_38 rfl (lv_at hl 0 rfl) ?_
              refine r_get (C := RX3) (T := TX3) (N := 8) hx hb hts iiX3_together_3 hown hK x0 rfl 0 (by decide) (hts (.fieldLink RX3 10 "HopMeet" "now" "LHopMeet$Scene;") (List.mem_of_getElem? (i := 3) rfl)) rfl dX3_together_39 ?_
              refine lv_iload_n hx hb dX3_together_42 rfl (lv_at hl 1 rfl) ?_
              refine r_top (y := nI k) ek ?_
              refine lv_iload_n hx hb dX3_together_43 rfl (lv_at hl 2 rfl) ?_
              refine r_top (y := nI k2) ek2 ?_
              refine lv_iload hx hb dX3_together_44 (lv_at hl 5 rfl) ?_
              refine r_cV (av := [.int (nI k), .int (nI k2), .int (nI i)]) (c_X2_meet l G t (b + 1) z hz k k2 i hk hk2 (by omega)) ⟨hx, hb, hml, hown, hts⟩ (cwV 3 hts gX3_together_X2_meet rfl rfl rfl (by decide +kernel) ⟨Nat.le_of_ble_eq_true rfl, Nat.le_of_ble_eq_true rfl⟩) mv_K ⟨hK, x1⟩ (at_recv hK y0 rfl) rfl hl (Nat.le_of_ble_eq_true rfl) ⟨Nat.le_of_ble_eq_true rfl, Nat.le_of_ble_eq_true rfl⟩ rfl dX3_together_46 (fun r2 hr2 => ?_)
              subst hr2
              refine r_ifeqB hx hb dX3_together_49 (tgt := 55) (by decide) (fun c3 => ?_) (fun c3 => ?_)
              · refine lv_iinc (v := nI (i + 1)) (lv' := [(5, .int (nI (i + 1))), (0, .ref b), (1, .int u), (2, .int v), (3, .int n), (4, .int (nI w))]) hx hb dX3_together_55 hl (k := 5) rfl (nI_1 _) (by decide) rfl (fun ls hl => ?_)
                refine lv_goto (tgt := 32) hx hb dX3_together_58 (by decide) ?_
                exact ih32 (i + 1) w (by omega) (cnt_n hw c3) (by omega) ls (lv_sub hl [1, 2, 3, 4, 5, 0] rfl)
              · refine lv_iinc (v := nI (w + 1)) (lv' := [(4, .int (nI (w + 1))), (0, .ref b), (1, .int u), (2, .int v), (3, .int n), (5, .int (nI i))]) hx hb dX3_together_52 hl (k := 4) rfl (nI_1 _) (by decide) rfl (fun ls hl => ?_)
                refine lv_iinc (v := nI (i + 1)) (lv' := [(5, .int (nI (i + 1))), (4, .int (nI (w + 1))), (0, .ref b), (1, .int u), (2, .int v), (3, .int n)]) hx hb dX3_together_55 hl (k := 5) rfl (nI_1 _) (by decide) rfl (fun ls hl => ?_)
                refine lv_goto (tgt := 32) hx hb dX3_together_58 (by decide) ?_
                exact ih32 (i + 1) (w + 1) (by omega) (cnt_y hw c3) (by omega) ls (lv_sub hl [2, 3, 4, 5, 1, 0] rfl)
        exact loop32 _ 0 0 (Nat.zero_le _) rfl (Nat.lt_succ_self _) ls (lv_sub hl [2, 3, 4, 5, 1, 0] rfl)
      · refine lv_ldc (v := (-1000000002)) hx hb hown (hts (.constant RX3 48 (-1000000002)) (List.mem_of_getElem? (i := 2) rfl)) dX3_together_23 ?_
        exact r_retS (v := (-1000000002)) hx hb hr hlocks (by unfold rTogether; rw [c1]; first | (rw [in_f1 (a := nI 0) c4]; rfl) | (rw [in_f3 c5]; rfl)) dX3_together_25
  · refine lv_ldc (v := (-1000000001)) hx hb hown (hts (.constant RX3 83 (-1000000001)) (List.mem_of_getElem? (i := 1) rfl)) dX3_together_9 ?_
    exact r_retS (v := (-1000000001)) hx hb hr hlocks (by unfold rTogether; rw [c1]; rfl) dX3_together_11

set_option maxRecDepth 20000 in
theorem iiX3_told_3 : ∀ w ∈ wsX30, w ∈ wsX3_told := by decide +kernel
set_option maxRecDepth 20000 in
theorem iiX3_told_2 : ∀ w ∈ wsX20, w ∈ wsX3_told := by decide +kernel
set_option maxRecDepth 20000 in
theorem iiX3_told_0 : ∀ w ∈ wsX00, w ∈ wsX3_told := by decide +kernel
set_option maxRecDepth 20000 in
theorem iiX3_told_1 : ∀ w ∈ wsX10, w ∈ wsX3_told := by decide +kernel
set_option maxHeartbeats 4000000 in
set_option maxRecDepth 100000 in
/-- what is told -/
theorem c_X3_told (l : Launch) (G : va_G) (t : gT) (b : Nat) (z : Nat → Int32) (gr : Nat → Nat) (sl bc : Nat) (bk : Nat → Nat → Int32) (kp : Nat → Bool) (im : Nat → Nat → Int32) (hz : WF z) (hg : ∀ u, gr u ≤ u) (w : Int32) : Met l yX3_told wsX3_told ({ frames := 2, cells := 0, slots := 0, locals := 42 } : Room) (pc_ [.ref b, .int w] (fun U H => KK G t U ∧ PX G t b (z, gr, sl, bc, bk, kp, im) H)) (vp_Si (fun r => r = rTold w z gr sl bc)) 0 0 (fun _ => False) := by
  refine Met.ofW (cc := cX3_told) (maxL := 2) (ret := (some .int)) (by decide) rfl ?_
  intro p e s m args below meth c s₁ B hml hv
  obtain ⟨rfl, hB⟩ := hv
  have hx := B.exec
  have hb := B.bytes
  have hr := B.returns
  have hts := atoms_spec (ws := wsX3_told) B.pre
  have hown : s.vm.findClass RX3 = some m.cls := findClass_of_methodNamed B.named
  have hlocks := B.notSynchronized
  have hK := hB.1
  obtain ⟨x0, x1, x2, ⟨x3, jm, x4, x5⟩, x6, x7, x8, x9, x10⟩ := hB.2
  have y0 := Sc_obj x1
  have y1 := (Sc_rows x1).1
  obtain ⟨fo, fl, f2, g0, g1, g2, g3, g4⟩ := id x7
  obtain ⟨nx, p0⟩ := Pa_obj x2
  have hn := hz.n
  have hu5 := hz.u5
  have hs8 := hz.s8
  have hl := lv_entry ([.ref b, .int w]) (n := 2) (Nat.le_of_ble_eq_true rfl)
  rw [lg_entry_eq]
  generalize (lg_sl ([.ref b, .int w]) ++ List.replicate (2 - (lg_sl ([.ref b, .int w])).length) Slot.unset).toArray = ls at hl ⊢
  have hl : lv_has ls 2 [(0, .ref b), (1, .int w)] := hl
  rcases told_cases w with ⟨hw2, ho⟩ | ⟨hw, ew | ew | ew | ew | ew | ew | ew | ew | ew⟩
  · refine lv_iload_n hx hb dX3_told_0 rfl (lv_at hl 1 rfl) ?_
    refine lv_tableOut (tgt := 133) hx hb dX3_told_1 ho (by decide) ?_
    refine lv_ldc (v := (-1000000002)) hx hb hown (hts (.constant RX3 48 (-1000000002)) (List.mem_of_getElem? (i := 10) rfl)) dX3_told_133 ?_
    exact r_retS (v := (-1000000002)) hx hb hr hlocks (by unfold rTold; rw [hw2]; rfl) dX3_told_135
  · refine lv_iload_n hx hb dX3_told_0 rfl (lv_at hl 1 rfl) ?_
    refine r_top (y := nI 0) ew ?_
    refine lv_tableIn (off := 51) (tgt := 52) hx hb dX3_told_1 (by decide) (by decide) (by decide) (by decide) ?_
    refine lv_aload_n hx hb dX3_told_52 rfl (lv_at hl 0 rfl) ?_
    refine r_get (C := RX3) (T := TX3) (N := 8) hx hb hts iiX3_told_3 hown hK x0 rfl 0 (by decide) (hts (.fieldLink RX3 10 "HopMeet" "now" "LHopMeet$Scene;") (List.mem_of_getElem? (i := 1) rfl)) rfl dX3_told_53 ?_
    refine r_get (C := RX2) (T := TX2) (N := 6) hx hb hts iiX3_told_2 hown hK y0 rfl 0 (by decide) (hts (.fieldLink RX3 92 "HopMeet$Scene" "channelCount" "I") (List.mem_of_getElem? (i := 2) rfl)) rfl dX3_told_56 ?_
    exact r_retS (v := nI (cn z)) hx hb hr hlocks (by unfold rTold; rw [hw, ew, show cl (nI 0) = 0 from rfl]; rfl) dX3_told_59
  · refine lv_iload_n hx hb dX3_told_0 rfl (lv_at hl 1 rfl) ?_
    refine r_top (y := nI 1) ew ?_
    refine lv_tableIn (off := 59) (tgt := 60) hx hb dX3_told_1 (by decide) (by decide) (by decide) (by decide) ?_
    refine lv_aload_n hx hb dX3_told_60 rfl (lv_at hl 0 rfl) ?_
    refine r_get (C := RX3) (T := TX3) (N := 8) hx hb hts iiX3_told_3 hown hK x0 rfl 0 (by decide) (hts (.fieldLink RX3 10 "HopMeet" "now" "LHopMeet$Scene;") (List.mem_of_getElem? (i := 1) rfl)) rfl dX3_told_61 ?_
    refine r_get (C := RX2) (T := TX2) (N := 6) hx hb hts iiX3_told_2 hown hK y0 rfl 1 (by decide) (hts (.fieldLink RX3 59 "HopMeet$Scene" "prime" "I") (List.mem_of_getElem? (i := 3) rfl)) rfl dX3_told_64 ?_
    exact r_retS (v := nI (prN (cn z))) hx hb hr hlocks (by unfold rTold; rw [hw, ew, show cl (nI 1) = 1 from rfl]; rfl) dX3_told_67
  · refine lv_iload_n hx hb dX3_told_0 rfl (lv_at hl 1 rfl) ?_
    refine r_top (y := nI 2) ew ?_
    refine lv_tableIn (off := 67) (tgt := 68) hx hb dX3_told_1 (by decide) (by decide) (by decide) (by decide) ?_
    refine lv_aload_n hx hb dX3_told_68 rfl (lv_at hl 0 rfl) ?_
    refine r_get (C := RX3) (T := TX3) (N := 8) hx hb hts iiX3_told_3 hown hK x0 rfl 0 (by decide) (hts (.fieldLink RX3 10 "HopMeet" "now" "LHopMeet$Scene;") (List.mem_of_getElem? (i := 1) rfl)) rfl dX3_told_69 ?_
    refine r_get (C := RX2) (T := TX2) (N := 6) hx hb hts iiX3_told_2 hown hK y0 rfl 2 (by decide) (hts (.fieldLink RX3 67 "HopMeet$Scene" "userCount" "I") (List.mem_of_getElem? (i := 4) rfl)) rfl dX3_told_72 ?_
    exact r_retS (v := nI (cu z)) hx hb hr hlocks (by unfold rTold; rw [hw, ew, show cl (nI 2) = 2 from rfl]; rfl) dX3_told_75
  · refine lv_iload_n hx hb dX3_told_0 rfl (lv_at hl 1 rfl) ?_
    refine r_top (y := nI 3) ew ?_
    refine lv_tableIn (off := 75) (tgt := 76) hx hb dX3_told_1 (by decide) (by decide) (by decide) (by decide) ?_
    refine lv_aload_n hx hb dX3_told_76 rfl (lv_at hl 0 rfl) ?_
    refine r_get (C := RX3) (T := TX3) (N := 8) hx hb hts iiX3_told_3 hown hK x0 rfl 0 (by decide) (hts (.fieldLink RX3 10 "HopMeet" "now" "LHopMeet$Scene;") (List.mem_of_getElem? (i := 1) rfl)) rfl dX3_told_77 ?_
    refine r_get (C := RX2) (T := TX2) (N := 6) hx hb hts iiX3_told_2 hown hK y0 rfl 3 (by decide) (hts (.fieldLink RX3 95 "HopMeet$Scene" "spellCount" "I") (List.mem_of_getElem? (i := 5) rfl)) rfl dX3_told_80 ?_
    exact r_retS (v := nI (cs z)) hx hb hr hlocks (by unfold rTold; rw [hw, ew, show cl (nI 3) = 3 from rfl]; rfl) dX3_told_83
  · refine lv_iload_n hx hb dX3_told_0 rfl (lv_at hl 1 rfl) ?_
    refine r_top (y := nI 4) ew ?_
    refine lv_tableIn (off := 83) (tgt := 84) hx hb dX3_told_1 (by decide) (by decide) (by decide) (by decide) ?_
    refine lv_aload_n hx hb dX3_told_84 rfl (lv_at hl 0 rfl) ?_
    refine r_get (C := RX3) (T := TX3) (N := 8) hx hb hts iiX3_told_3 hown hK x0 rfl 0 (by decide) (hts (.fieldLink RX3 10 "HopMeet" "now" "LHopMeet$Scene;") (List.mem_of_getElem? (i := 1) rfl)) rfl dX3_told_85 ?_
    refine r_cV (av := []) (c_X2_commonChannels l G t (b + 1) z hz) ⟨hx, hb, hml, hown, hts⟩ (cwV 0 hts gX3_told_X2_commonChannels rfl rfl rfl (by decide +kernel) ⟨Nat.le_of_ble_eq_true rfl, Nat.le_of_ble_eq_true rfl⟩) mv_K ⟨hK, x1⟩ (at_recv hK y0 rfl) rfl hl (Nat.le_of_ble_eq_true rfl) ⟨Nat.le_of_ble_eq_true rfl, Nat.le_of_ble_eq_true rfl⟩ rfl dX3_told_88 (fun r1 hr1 => ?_)
    subst hr1
    exact r_retS (v := nI (comN z (cu z))) hx hb hr hlocks (by unfold rTold; rw [hw, ew, show cl (nI 4) = 4 from rfl]; rfl) dX3_told_91
  · refine lv_iload_n hx hb dX3_told_0 rfl (lv_at hl 1 rfl) ?_
    refine r_top (y := nI 5) ew ?_
    refine lv_tableIn (off := 91) (tgt := 92) hx hb dX3_told_1 (by decide) (by decide) (by decide) (by decide) ?_
    refine lv_aload_n hx hb dX3_told_92 rfl (lv_at hl 0 rfl) ?_
    refine r_get (C := RX3) (T := TX3) (N := 8) hx hb hts iiX3_told_3 hown hK x0 rfl 4 (by decide) (hts (.fieldLink RX3 34 "HopMeet" "groups" "LHopMeet$Groups;") (List.mem_of_getElem? (i := 6) rfl)) rfl dX3_told_93 ?_
    refine r_get (C := RX0) (T := TX0) (N := 4) hx hb hts iiX3_told_0 hown hK g0 rfl 0 (by decide) (hts (.fieldLink RX3 115 "HopMeet$Groups" "slotsRun" "I") (List.mem_of_getElem? (i := 7) rfl)) rfl dX3_told_96 ?_
    exact r_retS (v := nI sl) hx hb hr hlocks (by unfold rTold; rw [hw, ew, show cl (nI 5) = 5 from rfl]; rfl) dX3_told_99
  · refine lv_iload_n hx hb dX3_told_0 rfl (lv_at hl 1 rfl) ?_
    refine r_top (y := nI 6) ew ?_
    refine lv_tableIn (off := 99) (tgt := 100) hx hb dX3_told_1 (by decide) (by decide) (by decide) (by decide) ?_
    refine lv_aload_n hx hb dX3_told_100 rfl (lv_at hl 0 rfl) ?_
    refine r_get (C := RX3) (T := TX3) (N := 8) hx hb hts iiX3_told_3 hown hK x0 rfl 4 (by decide) (hts (.fieldLink RX3 34 "HopMeet" "groups" "LHopMeet$Groups;") (List.mem_of_getElem? (i := 6) rfl)) rfl dX3_told_101 ?_
    refine r_cV (av := []) (c_X0_howMany l G t (b + 245) gr sl (cu z) (fun u _ => hg u) hu5) ⟨hx, hb, hml, hown, hts⟩ (cwV 0 hts gX3_told_X0_howMany rfl rfl rfl (by decide +kernel) ⟨Nat.le_of_ble_eq_true rfl, Nat.le_of_ble_eq_true rfl⟩) mv_K ⟨hK, x7⟩ (at_recv hK g0 rfl) rfl hl (Nat.le_of_ble_eq_true rfl) ⟨Nat.le_of_ble_eq_true rfl, Nat.le_of_ble_eq_true rfl⟩ rfl dX3_told_104 (fun r2 hr2 => ?_)
    subst hr2
    exact r_retS (v := nI (grN gr (cu z))) hx hb hr hlocks (by unfold rTold; rw [hw, ew, show cl (nI 6) = 6 from rfl]; rfl) dX3_told_107
  · refine lv_iload_n hx hb dX3_told_0 rfl (lv_at hl 1 rfl) ?_
    refine r_top (y := nI 7) ew ?_
    refine lv_tableIn (off := 107) (tgt := 108) hx hb dX3_told_1 (by decide) (by decide) (by decide) (by decide) ?_
    refine lv_aload_n hx hb dX3_told_108 rfl (lv_at hl 0 rfl) ?_
    refine r_get (C := RX3) (T := TX3) (N := 8) hx hb hts iiX3_told_3 hown hK x0 rfl 4 (by decide) (hts (.fieldLink RX3 34 "HopMeet" "groups" "LHopMeet$Groups;") (List.mem_of_getElem? (i := 6) rfl)) rfl dX3_told_109 ?_
    refine r_cV (av := []) (c_X0_howMany l G t (b + 245) gr sl (cu z) (fun u _ => hg u) hu5) ⟨hx, hb, hml, hown, hts⟩ (cwV 0 hts gX3_told_X0_howMany rfl rfl rfl (by decide +kernel) ⟨Nat.le_of_ble_eq_true rfl, Nat.le_of_ble_eq_true rfl⟩) mv_K ⟨hK, x7⟩ (at_recv hK g0 rfl) rfl hl (Nat.le_of_ble_eq_true rfl) ⟨Nat.le_of_ble_eq_true rfl, Nat.le_of_ble_eq_true rfl⟩ rfl dX3_told_112 (fun r3 hr3 => ?_)
    subst hr3
    refine lv_iconst (v := nI 1) hx hb dX3_told_115 (by decide) ?_
    refine r_neN hx hb (Nat.lt_of_le_of_lt (cnt_le _ _) (by omega)) (by decide) dX3_told_116 (tgt := 123) (by decide) (fun c1 => ?_) (fun c1 => ?_)
    · refine lv_iconst (v := nI 0) hx hb dX3_told_123 (by decide) ?_
      exact r_retS (v := nI 0) hx hb hr hlocks (by unfold rTold; rw [hw, ew, show cl (nI 7) = 7 from rfl]; exact (if_neg c1).symm) dX3_told_124
    · refine lv_iconst (v := nI 1) hx hb dX3_told_119 (by decide) ?_
      refine lv_goto (tgt := 124) hx hb dX3_told_120 (by decide) ?_
      exact r_retS (v := nI 1) hx hb hr hlocks (by unfold rTold; rw [hw, ew, show cl (nI 7) = 7 from rfl]; exact (if_pos c1).symm) dX3_told_124
  · refine lv_iload_n hx hb dX3_told_0 rfl (lv_at hl 1 rfl) ?_
    refine r_top (y := nI 8) ew ?_
    refine lv_tableIn (off := 124) (tgt := 125) hx hb dX3_told_1 (by decide) (by decide) (by decide) (by decide) ?_
    refine lv_aload_n hx hb dX3_told_125 rfl (lv_at hl 0 rfl) ?_
    refine r_get (C := RX3) (T := TX3) (N := 8) hx hb hts iiX3_told_3 hown hK x0 rfl 1 (by decide) (hts (.fieldLink RX3 19 "HopMeet" "past" "LHopMeet$Past;") (List.mem_of_getElem? (i := 8) rfl)) rfl dX3_told_126 ?_
    refine r_get (C := RX1) (T := TX1) (N := 3) hx hb hts iiX3_told_1 hown hK p0 rfl 2 (by decide) (hts (.fieldLink RX3 109 "HopMeet$Past" "count" "I") (List.mem_of_getElem? (i := 9) rfl)) rfl dX3_told_129 ?_
    exact r_retS (v := nI bc) hx hb hr hlocks (by unfold rTold; rw [hw, ew, show cl (nI 8) = 8 from rfl]; rfl) dX3_told_132

set_option maxRecDepth 20000 in
theorem iiX3_userOf_3 : ∀ w ∈ wsX30, w ∈ wsX3_userOf := by decide +kernel
set_option maxRecDepth 20000 in
theorem iiX3_userOf_0 : ∀ w ∈ wsX00, w ∈ wsX3_userOf := by decide +kernel
set_option maxRecDepth 20000 in
theorem iiX3_userOf_2 : ∀ w ∈ wsX20, w ∈ wsX3_userOf := by decide +kernel
set_option maxHeartbeats 4000000 in
set_option maxRecDepth 100000 in
/-- of a user -/
theorem c_X3_userOf (l : Launch) (G : va_G) (t : gT) (b : Nat) (z : Nat → Int32) (gr : Nat → Nat) (sl bc : Nat) (bk : Nat → Nat → Int32) (kp : Nat → Bool) (im : Nat → Nat → Int32) (hz : WF z) (hg : ∀ u, gr u ≤ u) (u w : Int32) : Met l yX3_userOf wsX3_userOf ({ frames := 1, cells := 0, slots := 0, locals := 23 } : Room) (pc_ [.ref b, .int u, .int w] (fun U H => KK G t U ∧ PX G t b (z, gr, sl, bc, bk, kp, im) H)) (vp_Si (fun r => r = rUserOf u w z gr)) 0 0 (fun _ => False) := by
  refine Met.ofW (cc := cX3_userOf) (maxL := 3) (ret := (some .int)) (by decide) rfl ?_
  intro p e s m args below meth c s₁ B hml hv
  obtain ⟨rfl, hB⟩ := hv
  have hx := B.exec
  have hb := B.bytes
  have hr := B.returns
  have hts := atoms_spec (ws := wsX3_userOf) B.pre
  have hown : s.vm.findClass RX3 = some m.cls := findClass_of_methodNamed B.named
  have hlocks := B.notSynchronized
  have hK := hB.1
  obtain ⟨x0, x1, x2, ⟨x3, jm, x4, x5⟩, x6, x7, x8, x9, x10⟩ := hB.2
  have y0 := Sc_obj x1
  have y1 := (Sc_rows x1).1
  obtain ⟨fo, fl, f2, g0, g1, g2, g3, g4⟩ := id x7
  obtain ⟨nx, p0⟩ := Pa_obj x2
  have hn := hz.n
  have hu5 := hz.u5
  have hs8 := hz.s8
  have hl := lv_entry ([.ref b, .int u, .int w]) (n := 3) (Nat.le_of_ble_eq_true rfl)
  rw [lg_entry_eq]
  generalize (lg_sl ([.ref b, .int u, .int w]) ++ List.replicate (3 - (lg_sl ([.ref b, .int u, .int w])).length) Slot.unset).toArray = ls at hl ⊢
  have hl : lv_has ls 3 [(0, .ref b), (1, .int u), (2, .int w)] := hl
  refine lv_aload_n hx hb dX3_userOf_0 rfl (lv_at hl 0 rfl) ?_
  refine lv_iload_n hx hb dX3_userOf_1 rfl (lv_at hl 1 rfl) ?_
  refine r_cV (av := [.int u]) (c_X3_isUser l G t b z gr sl bc bk kp im hz u) ⟨hx, hb, hml, hown, hts⟩ (cwV 1 hts gX3_userOf_X3_isUser rfl rfl rfl (by decide +kernel) ⟨Nat.le_of_ble_eq_true rfl, Nat.le_of_ble_eq_true rfl⟩) mv_K hB (at_recv hK x0 rfl) rfl hl (Nat.le_of_ble_eq_true rfl) ⟨Nat.le_of_ble_eq_true rfl, Nat.le_of_ble_eq_true rfl⟩ rfl dX3_userOf_2 (fun r1 hr1 => ?_)
  subst hr1
  refine r_ifneB hx hb dX3_userOf_5 (tgt := 11) (by decide) (fun c1 => ?_) (fun c1 => ?_)
  · obtain ⟨k, hk, ek⟩ := usB_t hz c1
    have ekc : cl u = k := by rw [ek]; exact cl_N (by omega)
    refine lv_iload_n hx hb dX3_userOf_11 rfl (lv_at hl 2 rfl) ?_
    refine lv_if_lt (tgt := 21) hx hb dX3_userOf_12 (by decide) (fun c4 => ?_) (fun c4 => ?_)
    · refine lv_ldc (v := (-1000000002)) hx hb hown (hts (.constant RX3 48 (-1000000002)) (List.mem_of_getElem? (i := 2) rfl)) dX3_userOf_21 ?_
      exact r_retS (v := (-1000000002)) hx hb hr hlocks (by unfold rUserOf; rw [c1]; first | (rw [in_f1 (a := nI 0) c4]; rfl) | (rw [in_f3 c5]; rfl)) dX3_userOf_23
    · refine lv_iload_n hx hb dX3_userOf_15 rfl (lv_at hl 2 rfl) ?_
      refine lv_bipush (v := nI 6) hx hb dX3_userOf_16 (by decide) ?_
      refine lv_icmp_le (tgt := 24) hx hb dX3_userOf_18 (by decide) (fun c5 => ?_) (fun c5 => ?_)
      · have c2 := in_t2 (a := nI 0) c4 c5
        obtain ⟨i, ia, ib, ei⟩ := in_of (by decide) (by decide) c2
        have eic : cl w = i := by rw [ei]; exact cl_N (by omega)
        obtain ⟨fu, hf, hfv⟩ := Sc_rowU x1 hk (by omega)
        refine lv_iload_n hx hb dX3_userOf_24 rfl (lv_at hl 2 rfl) ?_
        refine r_top (y := nI i) ei ?_
        refine lv_iconst (v := nI 5) hx hb dX3_userOf_25 (by decide) ?_
        refine r_neN hx hb (by omega) (by omega) dX3_userOf_26 (tgt := 39) (by decide) (fun c6 => ?_) (fun c6 => ?_)
        · refine lv_iload_n hx hb dX3_userOf_39 rfl (lv_at hl 2 rfl) ?_
          refine r_top (y := nI i) ei ?_
          refine lv_bipush (v := nI 6) hx hb dX3_userOf_40 (by decide) ?_
          refine r_neN hx hb (by omega) (by omega) dX3_userOf_42 (tgt := 54) (by decide) (fun c7 => ?_) (fun c7 => ?_)
          · refine lv_aload_n hx hb dX3_userOf_54 rfl (lv_at hl 0 rfl) ?_
            refine r_get (C := RX3) (T := TX3) (N := 8) hx hb hts iiX3_userOf_3 hown hK x0 rfl 0 (by decide) (hts (.fieldLink RX3 10 "HopMeet" "now" "LHopMeet$Scene;") (List.mem_of_getElem? (i := 5) rfl)) rfl dX3_userOf_55 ?_
            refine r_get (C := RX2) (T := TX2) (N := 6) hx hb hts iiX3_userOf_2 hown hK y0 rfl 4 (by decide) (hts (.fieldLink RX3 128 "HopMeet$Scene" "users" "[[I") (List.mem_of_getElem? (i := 6) rfl)) rfl dX3_userOf_58 ?_
            refine lv_iload_n hx hb dX3_userOf_61 rfl (lv_at hl 1 rfl) ?_
            refine r_top (y := nI k) ek ?_
            refine r_rald hx hb hK y1 1 rfl rfl k (by omega) (by decide) (b := b + 1 + 2 + k) (rowsF_at (by omega)) dX3_userOf_62 ?_
            refine lv_iload_n hx hb dX3_userOf_63 rfl (lv_at hl 2 rfl) ?_
            refine r_top (y := nI i) ei ?_
            refine r_iald hx hb hK hf rfl i (by omega) (by decide) (v := z (3 + 5 * k + i)) (hfv i (by omega)) dX3_userOf_64 ?_
            exact r_retS (v := z (3 + 5 * k + i)) hx hb hr hlocks (by unfold rUserOf; rw [c1, c2, ekc, eic]; exact ((if_neg c6).trans (if_neg c7)).symm) dX3_userOf_65
          · refine lv_aload_n hx hb dX3_userOf_45 rfl (lv_at hl 0 rfl) ?_
            refine r_get (C := RX3) (T := TX3) (N := 8) hx hb hts iiX3_userOf_3 hown hK x0 rfl 4 (by decide) (hts (.fieldLink RX3 34 "HopMeet" "groups" "LHopMeet$Groups;") (List.mem_of_getElem? (i := 3) rfl)) rfl dX3_userOf_46 ?_
            refine lv_iload_n hx hb dX3_userOf_49 rfl (lv_at hl 1 rfl) ?_
            refine r_top (y := nI k) ek ?_
            refine r_cV (av := [.int (nI k)]) (c_X0_sizeOfGroupOf l G t (b + 245) gr sl (cu z) (fun u _ => hg u) hu5 k hk) ⟨hx, hb, hml, hown, hts⟩ (cwV 1 hts gX3_userOf_X0_sizeOfGroupOf rfl rfl rfl (by decide +kernel) ⟨Nat.le_of_ble_eq_true rfl, Nat.le_of_ble_eq_true rfl⟩) mv_K ⟨hK, x7⟩ (at_recv hK g0 rfl) rfl hl (Nat.le_of_ble_eq_true rfl) ⟨Nat.le_of_ble_eq_true rfl, Nat.le_of_ble_eq_true rfl⟩ rfl dX3_userOf_50 (fun r2 hr2 => ?_)
            subst hr2
            exact r_retS (v := nI (szN gr (cu z) k)) hx hb hr hlocks (by unfold rUserOf; rw [c1, c2, ekc, eic]; exact ((if_neg c6).trans (if_pos c7)).symm) dX3_userOf_53
        · refine lv_aload_n hx hb dX3_userOf_29 rfl (lv_at hl 0 rfl) ?_
          refine r_get (C := RX3) (T := TX3) (N := 8) hx hb hts iiX3_userOf_3 hown hK x0 rfl 4 (by decide) (hts (.fieldLink RX3 34 "HopMeet" "groups" "LHopMeet$Groups;") (List.mem_of_getElem? (i := 3) rfl)) rfl dX3_userOf_30 ?_
          refine r_get (C := RX0) (T := TX0) (N := 4) hx hb hts iiX3_userOf_0 hown hK g0 rfl 2 (by decide) (hts (.fieldLink RX3 121 "HopMeet$Groups" "least" "[I") (List.mem_of_getElem? (i := 4) rfl)) rfl dX3_userOf_33 ?_
          refine lv_iload_n hx hb dX3_userOf_36 rfl (lv_at hl 1 rfl) ?_
          refine r_top (y := nI k) ek ?_
          refine r_iald hx hb hK g1 rfl k (by omega) (by decide) (v := nI (gr k)) (g3 k hk) dX3_userOf_37 ?_
          exact r_retS (v := nI (gr k)) hx hb hr hlocks (by unfold rUserOf; rw [c1, c2, ekc, eic]; exact (if_pos c6).symm) dX3_userOf_38
      · refine lv_ldc (v := (-1000000002)) hx hb hown (hts (.constant RX3 48 (-1000000002)) (List.mem_of_getElem? (i := 2) rfl)) dX3_userOf_21 ?_
        exact r_retS (v := (-1000000002)) hx hb hr hlocks (by unfold rUserOf; rw [c1]; first | (rw [in_f1 (a := nI 0) c4]; rfl) | (rw [in_f3 c5]; rfl)) dX3_userOf_23
  · refine lv_ldc (v := (-1000000001)) hx hb hown (hts (.constant RX3 83 (-1000000001)) (List.mem_of_getElem? (i := 1) rfl)) dX3_userOf_8 ?_
    exact r_retS (v := (-1000000001)) hx hb hr hlocks (by unfold rUserOf; rw [c1]; rfl) dX3_userOf_10
