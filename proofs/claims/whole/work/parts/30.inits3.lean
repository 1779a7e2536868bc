/-! what is made at the start, on (printed by wip/whole/m14.py) -/
set_option maxRecDepth 20000 in
theorem iiX3_init_2 : ∀ w ∈ wsX20, w ∈ wsX3_init := by decide +kernel
set_option maxRecDepth 20000 in
theorem iiX3_init_3 : ∀ w ∈ wsX30, w ∈ wsX3_init := by decide +kernel
set_option maxRecDepth 20000 in
theorem iiX3_init_1 : ∀ w ∈ wsX10, w ∈ wsX3_init := by decide +kernel
set_option maxRecDepth 20000 in
theorem iiX3_init_0 : ∀ w ∈ wsX00, w ∈ wsX3_init := by decide +kernel
set_option maxHeartbeats 4000000 in
set_option maxRecDepth 100000 in
/-- a HopMeet is made -/
theorem c_X3_init (l : Launch) (G : va_G) (t : gT) (b : Nat) (gr : Nat → Nat) (bk im : Nat → Nat → Int32) : Met l yX3_init wsX3_init ({ frames := 5, cells := 250, slots := 4388, locals := 104 } : Room) (pc_ [.ref b] (fun U H => KK G t U ∧ (AO2 U ∧ (at_ G b (.inr (3, [.null, .null, .null, .null, .null, .null, .null, .null])) H ∧ H.size = b + 1)))) (qv_ (fun H => PX G t b (z00, gr, 0, 0, bk, fun _ => false, im) H ∧ H.size = b + 251) (fun q => b ≤ q)) 250 4388 (fun q => b ≤ q) := by
  refine Met.ofW (cc := cX3_init) (maxL := 2) (ret := none) (by decide) rfl ?_
  intro p e s m args below meth c s₁ B hml hv
  obtain ⟨rfl, hB⟩ := hv
  have hx := B.exec
  have hb := B.bytes
  have hr := B.returns
  have hts := atoms_spec (ws := wsX3_init) B.pre
  have hown : s.vm.findClass RX3 = some m.cls := findClass_of_methodNamed B.named
  have hlocks := B.notSynchronized
  have hin : meth.name = "<init>" := (name_of_methodNamed B.named B.method).1
  have hK := hB.1
  have hAO := hB.2.1
  obtain ⟨h0, hz⟩ := hB.2.2
  have hS : va_S (fun q => b ≤ q) s.heap s.heap [] := va_S.rf
  have hl := lv_entry ([.ref b]) (n := 2) (Nat.le_of_ble_eq_true rfl)
  rw [lg_entry_eq]
  generalize (lg_sl ([.ref b]) ++ List.replicate (2 - (lg_sl ([.ref b])).length) Slot.unset).toArray = ls at hl ⊢
  have hl : lv_has ls 2 [(0, .ref b)] := hl
  refine lv_aload_n hx hb dX3_init_0 rfl (lv_at hl 0 rfl) ?_
  refine W.objInit hx hb hown (hts (.methodLink RX3 1 objectInit) (List.mem_of_getElem? (i := 1) rfl)) (hts (.instanceMethod objectInit) (List.mem_of_getElem? (i := 2) rfl)) (hts _ (List.mem_of_getElem? (i := 3) rfl)) rfl (by rw [hml]; exact hl.1) rfl dX3_init_1 (Nat.le_of_ble_eq_true rfl) (Nat.le_of_ble_eq_true rfl) ?_
  refine W.eq (g2 := F0 m 4 ls []) rfl ?_
  refine lv_aload_n hx hb dX3_init_4 rfl (lv_at hl 0 rfl) ?_
  refine r_new (C := RX2) (T := TX2) (N := 6) (ci := 2) (fs := [.int (nI 0), .int (nI 0), .int (nI 0), .int (nI 0), .null, .null]) hx hb hts iiX3_init_2 tyX2 tyX2_ok hown (hts (.classLink RX3 7 RX2) (List.mem_of_getElem? (i := 4) rfl)) (hts (.instantiable RX2 6) (List.mem_of_getElem? (i := 5) rfl)) (hts (.initialized RX2) (List.mem_of_getElem? (i := 6) rfl)) hK hS rfl (dfX2) (by show 0 + 1 ≤ 250; decide) (by show 0 + 6 ≤ 4388; decide) dX3_init_5 (h := b + 1) hz (fun H h3 z1 o1 hS => ?_)
  have h0 := at_kept h0 (o1 _ (by omega))
  have hz : H.size = b + 2 := by omega
  refine lv_dup hx hb dX3_init_8 rfl ?_
  refine r_mI (av := []) (c_X2_init l G t (b + 1)) ⟨hx, hb, hml, hown, hts⟩ (cwI 0 hts gX3_init_X2_init rfl rfl rfl (hts (.initialized RX2) (List.mem_of_getElem? (i := 6) rfl)) (hts (.methodLink RX3 9 yX2_init) (List.mem_of_getElem? (i := 23) rfl)) (hts (.instanceMethod yX2_init) (List.mem_of_getElem? (i := 24) rfl)) rfl (by decide +kernel) ⟨Nat.le_of_ble_eq_true rfl, Nat.le_of_ble_eq_true rfl⟩) mv_KA ⟨hK, hAO, h3, hz⟩ rfl hl (Nat.le_of_ble_eq_true rfl) ⟨by show 1 + 15 ≤ 250; decide, by show 6 + 70 ≤ 4388; decide⟩ rfl dX3_init_9 hS (fun q h => by have h2 : b + 1 ≤ q := h; show b ≤ q; omega) (fun H locs hP hz9 hk hS => ?_)
  have h0 := at_keptA h0 hk (Nat.not_le.mpr (by omega))
  have hz : H.size = b + 17 := hP.2
  have x1 := hP.1
  refine r_putF (ty := (.object "HopMeet$Scene")) (ci := 3) (C := RX3) (T := TX3) (N := 8) (fs' := [.ref (b + 1), .null, .null, .null, .null, .null, .null, .null]) hx hb hts iiX3_init_3 tyX3 tyX3_ok nmX3 hown hK h0 (by exact Nat.le_refl b) hS rfl 0 (by decide) (hts (.fieldLink RX3 10 "HopMeet" "now" "LHopMeet$Scene;") (List.mem_of_getElem? (i := 7) rfl)) rfl hin rfl (by decide +kernel) rfl rfl (Nat.le_of_ble_eq_true rfl) rfl dX3_init_12 (fun H locs h0 hz9 hq hS => ?_)
  have hz := hz9.trans hz
  have x1 := Sc_kept x1 (fun q h8 h9 => hq q (by omega))
  refine lv_aload_n hx hb dX3_init_15 rfl (lv_at hl 0 rfl) ?_
  refine r_new (C := RX1) (T := TX1) (N := 3) (ci := 1) (fs := [.null, .int (nI 0), .int (nI 0)]) hx hb hts iiX3_init_1 tyX1 tyX1_ok hown (hts (.classLink RX3 16 RX1) (List.mem_of_getElem? (i := 8) rfl)) (hts (.instantiable RX1 3) (List.mem_of_getElem? (i := 9) rfl)) (hts (.initialized RX1) (List.mem_of_getElem? (i := 10) rfl)) hK hS rfl (dfX1) (by show 16 + 1 ≤ 250; decide) (by show 76 + 3 ≤ 4388; decide) dX3_init_16 (h := b + 17) hz (fun H h3 z1 o1 hS => ?_)
  have h0 := at_kept h0 (o1 _ (by omega))
  have x1 := Sc_kt x1 o1 (by omega)
  have hz : H.size = b + 18 := by omega
  refine lv_dup hx hb dX3_init_19 rfl ?_
  refine r_mI (av := []) (c_X1_init l G t (b + 17) bk) ⟨hx, hb, hml, hown, hts⟩ (cwI 0 hts gX3_init_X1_init rfl rfl rfl (hts (.initialized RX1) (List.mem_of_getElem? (i := 10) rfl)) (hts (.methodLink RX3 18 yX1_init) (List.mem_of_getElem? (i := 44) rfl)) (hts (.instanceMethod yX1_init) (List.mem_of_getElem? (i := 45) rfl)) rfl (by decide +kernel) ⟨Nat.le_of_ble_eq_true rfl, Nat.le_of_ble_eq_true rfl⟩) mv_KA ⟨hK, hAO, h3, hz⟩ rfl hl (Nat.le_of_ble_eq_true rfl) ⟨by show 17 + 193 ≤ 250; decide, by show 79 + 924 ≤ 4388; decide⟩ rfl dX3_init_20 hS (fun q h => by have h2 : b + 17 ≤ q := h; show b ≤ q; omega) (fun H locs hP hz9 hk hS => ?_)
  have h0 := at_keptA h0 hk (Nat.not_le.mpr (by omega))
  have x1 := Sc_keptA x1 hk (fun q h8 h9 => Nat.not_le.mpr (by omega))
  have hz : H.size = b + 211 := hP.2
  have x2 := hP.1
  refine r_putF (ty := (.object "HopMeet$Past")) (ci := 3) (C := RX3) (T := TX3) (N := 8) (fs' := [.ref (b + 1), .ref (b + 17), .null, .null, .null, .null, .null, .null]) hx hb hts iiX3_init_3 tyX3 tyX3_ok nmX3 hown hK h0 (by exact Nat.le_refl b) hS rfl 1 (by decide) (hts (.fieldLink RX3 19 "HopMeet" "past" "LHopMeet$Past;") (List.mem_of_getElem? (i := 11) rfl)) rfl hin rfl (by decide +kernel) rfl rfl (Nat.le_of_ble_eq_true rfl) rfl dX3_init_23 (fun H locs h0 hz9 hq hS => ?_)
  have x1 := Sc_kept x1 (fun q h8 h9 => hq q (by omega))
  have hz := hz9.trans hz
  have x2 := Pa_kept x2 (fun q h8 h9 => hq q (by omega))
  refine lv_aload_n hx hb dX3_init_26 rfl (lv_at hl 0 rfl) ?_
  refine lv_iconst (v := nI 2) hx hb dX3_init_27 (by decide) ?_
  refine r_newQ hx hb hown (hts (.classLink RX3 7 RX2) (List.mem_of_getElem? (i := 4) rfl)) hAO.q hK rfl hS 2 (by decide) (by decide) (by show 210 + 1 ≤ 250; decide) (by show 1003 + 2 ≤ 4388; decide) dX3_init_28 (h := b + 211) hz (fun H h4 z1 o1 hS => ?_)
  have h0 := at_kept h0 (o1 _ (by omega))
  have x1 := Sc_kt x1 o1 (by omega)
  have x2 := Pa_kept x2 (fun q h8 h9 => o1 q (by omega))
  have hz : H.size = b + 212 := by omega
  have h4 : at_ G (b + 211) (aQ t 2 (rowsH (b + 212) 0)) H := by rw [rowsH_0]; exact h4
  refine r_putF (ty := (.array (.object "HopMeet$Scene"))) (ci := 3) (C := RX3) (T := TX3) (N := 8) (fs' := [.ref (b + 1), .ref (b + 17), .ref (b + 211), .null, .null, .null, .null, .null]) hx hb hts iiX3_init_3 tyX3 tyX3_ok nmX3 hown hK h0 (by exact Nat.le_refl b) hS rfl 2 (by decide) (hts (.fieldLink RX3 23 "HopMeet" "images" "[LHopMeet$Scene;") (List.mem_of_getElem? (i := 12) rfl)) rfl hin rfl (by decide +kernel) rfl rfl (Nat.le_of_ble_eq_true rfl) rfl dX3_init_31 (fun H locs h0 hz9 hq hS => ?_)
  have h4 := at_kept h4 (hq _ (by omega))
  have x1 := Sc_kept x1 (fun q h8 h9 => hq q (by omega))
  have x2 := Pa_kept x2 (fun q h8 h9 => hq q (by omega))
  have hz := hz9.trans hz
  refine lv_iconst (v := nI 0) hx hb dX3_init_34 (by decide) ?_
  refine lv_istore_n (lv' := [(1, .int (nI 0)), (0, .ref b)]) hx hb dX3_init_35 rfl hl (by decide) rfl (fun ls hl => ?_)
  have loop36 : ∀ (fu : Nat) (i : Nat) (hi : i ≤ 2) (hfu : 2 - i < fu) (H : Heap) (locs : List Loc) (h0 : at_ G b (.inr (3, [.ref (b + 1), .ref (b + 17), .ref (b + 211), .null, .null, .null, .null, .null])) H) (h4 : at_ G (b + 211) (aQ t 2 (rowsH (b + 212) i)) H) (hs : ∀ j, j < i → Sc G t (b + 212 + 16 * j) z00 H) (hz : H.size = b + 212 + 16 * i) (x1 : Sc G t (b + 1) z00 H) (x2 : Pa G t (b + 17) 0 bk H) (hS : va_S (fun q => b ≤ q) s.heap H locs) (ls : Array Slot) (hl : lv_has ls 2 [(0, .ref b), (1, .int (nI i))]), W p l e (headSpec wsX3_init ({ frames := 5, cells := 250, slots := 4388, locals := 104 } : Room)).room s m ([.ref b] : List Value).toArray below meth c H locs (211 + 16 * i) (1005 + 76 * i) (MQ below (qv_ (fun H => PX G t b (z00, gr, 0, 0, bk, fun _ => false, im) H ∧ H.size = b + 251) (fun q => b ≤ q)) ([.ref b] : List Value).toArray s 250 4388 (fun q => b ≤ q)) (F0 m 36 ls []) := by
    intro fu
    induction fu with
    | zero => intro i hi hfu; exact absurd hfu (Nat.not_lt_zero _)
    | succ fu36 ih36 =>
      intro i hi hfu H locs h0 h4 hs hz x1 x2 hS ls hl
      refine lv_iload_n hx hb dX3_init_36 rfl (lv_at hl 1 rfl) ?_
      refine lv_iconst (v := nI 2) hx hb dX3_init_37 (by decide) ?_
      refine r_geN hx hb (by omega) (by omega) dX3_init_38 (tgt := 60) (by decide) (fun c1 => ?_) (fun c1 => ?_)
      · have ei : i = 2 := by omega
        subst ei
        have hz : H.size = b + 244 := hz
        refine lv_aload_n hx hb dX3_init_60 rfl (lv_at hl 0 rfl) ?_
        refine lv_iconst (v := nI 2) hx hb dX3_init_61 (by decide) ?_
        refine r_newZ hx hb (hts (.arrayClass .boolean) (List.mem_of_getElem? (i := 13) rfl)) hK rfl hS 2 (by decide) (by decide) (by show 243 + 1 ≤ 250; decide) (by show 1157 + 2 ≤ 4388; decide) dX3_init_62 (h := b + 244) hz (fun H h5 z1 o1 hS => ?_)
        have h0 := at_kept h0 (o1 _ (b_lt0 (by decide)))
        have h4 := at_kept h4 (o1 _ (b_lt (by decide)))
        have x1 := Sc_kept x1 (fun q h8 h9 => o1 q (b_up (by decide) h9))
        have x2 := Pa_kept x2 (fun q h8 h9 => o1 q (b_up (by decide) h9))
        have hs := fun j hj => Sc_kt (hs j hj) o1 (b_sc hj (by decide))
        have hz : H.size = b + 245 := z1
        refine r_putF (ty := (.array .boolean)) (ci := 3) (C := RX3) (T := TX3) (N := 8) (fs' := [.ref (b + 1), .ref (b + 17), .ref (b + 211), .ref (b + 244), .null, .null, .null, .null]) hx hb hts iiX3_init_3 tyX3 tyX3_ok nmX3 hown hK h0 (by exact Nat.le_refl b) hS rfl 3 (by decide) (hts (.fieldLink RX3 27 "HopMeet" "wasKept" "[Z") (List.mem_of_getElem? (i := 14) rfl)) rfl hin rfl (by decide +kernel) rfl rfl (Nat.le_of_ble_eq_true rfl) rfl dX3_init_64 (fun H locs h0 hz9 hq hS => ?_)
        have h4 := at_kept h4 (hq _ (b_ne (by decide)))
        have h5 := at_kept h5 (hq _ (b_ne (by decide)))
        have x1 := Sc_kept x1 (fun q h8 h9 => hq q (b_q (by decide) h8))
        have x2 := Pa_kept x2 (fun q h8 h9 => hq q (b_q (by decide) h8))
        have hs := fun j hj => Sc_kept (hs j hj) (fun q h8 h9 => hq q (b_q2 (by decide) h8))
        have hz := hz9.trans hz
        refine lv_aload_n hx hb dX3_init_67 rfl (lv_at hl 0 rfl) ?_
        refine r_new (C := RX0) (T := TX0) (N := 4) (ci := 0) (fs := [.int (nI 0), .int (nI 0), .null, .null]) hx hb hts iiX3_init_0 tyX0 tyX0_ok hown (hts (.classLink RX3 31 RX0) (List.mem_of_getElem? (i := 15) rfl)) (hts (.instantiable RX0 4) (List.mem_of_getElem? (i := 16) rfl)) (hts (.initialized RX0) (List.mem_of_getElem? (i := 17) rfl)) hK hS rfl (dfX0) (by show 244 + 1 ≤ 250; decide) (by show 1159 + 4 ≤ 4388; decide) dX3_init_68 (h := b + 245) hz (fun H h3 z1 o1 hS => ?_)
        have h0 := at_kept h0 (o1 _ (b_lt0 (by decide)))
        have h4 := at_kept h4 (o1 _ (b_lt (by decide)))
        have h5 := at_kept h5 (o1 _ (b_lt (by decide)))
        have x1 := Sc_kept x1 (fun q h8 h9 => o1 q (b_up (by decide) h9))
        have x2 := Pa_kept x2 (fun q h8 h9 => o1 q (b_up (by decide) h9))
        have hs := fun j hj => Sc_kt (hs j hj) o1 (b_sc hj (by decide))
        have hz : H.size = b + 246 := z1
        refine lv_dup hx hb dX3_init_71 rfl ?_
        refine r_mI (av := []) (c_X0_init l G t gr (b + 245)) ⟨hx, hb, hml, hown, hts⟩ (cwI 0 hts gX3_init_X0_init rfl rfl rfl (hts (.initialized RX0) (List.mem_of_getElem? (i := 17) rfl)) (hts (.methodLink RX3 33 yX0_init) (List.mem_of_getElem? (i := 51) rfl)) (hts (.instanceMethod yX0_init) (List.mem_of_getElem? (i := 52) rfl)) rfl (by decide +kernel) ⟨Nat.le_of_ble_eq_true rfl, Nat.le_of_ble_eq_true rfl⟩) mv_KA ⟨hK, hAO, h3, hz⟩ rfl hl (Nat.le_of_ble_eq_true rfl) ⟨by show 245 + 2 ≤ 250; decide, by show 1163 + 15 ≤ 4388; decide⟩ rfl dX3_init_72 hS (fun q h => Nat.le_trans (Nat.le_add_right b _) h) (fun H locs hP hz9 hk hS => ?_)
        have h0 := at_keptA h0 hk (Nat.not_le.mpr (b_lt0 (by decide)))
        have h4 := at_keptA h4 hk (Nat.not_le.mpr (b_lt (by decide)))
        have h5 := at_keptA h5 hk (Nat.not_le.mpr (b_lt (by decide)))
        have x1 := Sc_keptA x1 hk (fun q h8 h9 => Nat.not_le.mpr (b_up (by decide) h9))
        have x2 := Pa_keptA x2 hk (fun q h8 h9 => Nat.not_le.mpr (b_up (by decide) h9))
        have hs := fun j hj => Sc_keptA (hs j hj) hk (fun q h8 h9 => Nat.not_le.mpr (Nat.lt_of_lt_of_le h9 (b_sc hj (by decide))))
        have hz : H.size = b + 248 := hP.2
        have x7 := hP.1
        refine r_putF (ty := (.object "HopMeet$Groups")) (ci := 3) (C := RX3) (T := TX3) (N := 8) (fs' := [.ref (b + 1), .ref (b + 17), .ref (b + 211), .ref (b + 244), .ref (b + 245), .null, .null, .null]) hx hb hts iiX3_init_3 tyX3 tyX3_ok nmX3 hown hK h0 (by exact Nat.le_refl b) hS rfl 4 (by decide) (hts (.fieldLink RX3 34 "HopMeet" "groups" "LHopMeet$Groups;") (List.mem_of_getElem? (i := 18) rfl)) rfl hin rfl (by decide +kernel) rfl rfl (Nat.le_of_ble_eq_true rfl) rfl dX3_init_75 (fun H locs h0 hz9 hq hS => ?_)
        have h4 := at_kept h4 (hq _ (b_ne (by decide)))
        have h5 := at_kept h5 (hq _ (b_ne (by decide)))
        have x1 := Sc_kept x1 (fun q h8 h9 => hq q (b_q (by decide) h8))
        have x2 := Pa_kept x2 (fun q h8 h9 => hq q (b_q (by decide) h8))
        have hs := fun j hj => Sc_kept (hs j hj) (fun q h8 h9 => hq q (b_q2 (by decide) h8))
        have hz := hz9.trans hz
        have x7 := Gp_kept x7 (fun q h8 h9 => hq q (b_q (by decide) h8))
        refine lv_aload_n hx hb dX3_init_78 rfl (lv_at hl 0 rfl) ?_
        refine lv_sipush (v := nI 1700) hx hb dX3_init_79 (by decide) ?_
        refine r_newI hx hb (hts (.arrayClass .int) (List.mem_of_getElem? (i := 19) rfl)) hK rfl hS 1700 (by decide) (by decide) (by show 247 + 1 ≤ 250; decide) (by show 1178 + 1700 ≤ 4388; decide) dX3_init_82 (h := b + 248) hz (fun H h6 z1 o1 hS => ?_)
        have h0 := at_kept h0 (o1 _ (b_lt0 (by decide)))
        have h4 := at_kept h4 (o1 _ (b_lt (by decide)))
        have h5 := at_kept h5 (o1 _ (b_lt (by decide)))
        have x1 := Sc_kept x1 (fun q h8 h9 => o1 q (b_up (by decide) h9))
        have x2 := Pa_kept x2 (fun q h8 h9 => o1 q (b_up (by decide) h9))
        have hs := fun j hj => Sc_kt (hs j hj) o1 (b_sc hj (by decide))
        have x7 := Gp_kept x7 (fun q h8 h9 => o1 q (b_up (by decide) h9))
        have hz : H.size = b + 249 := z1
        refine r_putF (ty := (.array .int)) (ci := 3) (C := RX3) (T := TX3) (N := 8) (fs' := [.ref (b + 1), .ref (b + 17), .ref (b + 211), .ref (b + 244), .ref (b + 245), .ref (b + 248), .null, .null]) hx hb hts iiX3_init_3 tyX3 tyX3_ok nmX3 hown hK h0 (by exact Nat.le_refl b) hS rfl 5 (by decide) (hts (.fieldLink RX3 38 "HopMeet" "placesOfFirst" "[I") (List.mem_of_getElem? (i := 20) rfl)) rfl hin rfl (by decide +kernel) rfl rfl (Nat.le_of_ble_eq_true rfl) rfl dX3_init_84 (fun H locs h0 hz9 hq hS => ?_)
        have h4 := at_kept h4 (hq _ (b_ne (by decide)))
        have h5 := at_kept h5 (hq _ (b_ne (by decide)))
        have h6 := at_kept h6 (hq _ (b_ne (by decide)))
        have x1 := Sc_kept x1 (fun q h8 h9 => hq q (b_q (by decide) h8))
        have x2 := Pa_kept x2 (fun q h8 h9 => hq q (b_q (by decide) h8))
        have hs := fun j hj => Sc_kept (hs j hj) (fun q h8 h9 => hq q (b_q2 (by decide) h8))
        have x7 := Gp_kept x7 (fun q h8 h9 => hq q (b_q (by decide) h8))
        have hz := hz9.trans hz
        refine lv_aload_n hx hb dX3_init_87 rfl (lv_at hl 0 rfl) ?_
        refine lv_sipush (v := nI 1500) hx hb dX3_init_88 (by decide) ?_
        refine r_newI hx hb (hts (.arrayClass .int) (List.mem_of_getElem? (i := 19) rfl)) hK rfl hS 1500 (by decide) (by decide) (by show 248 + 1 ≤ 250; decide) (by show 2878 + 1500 ≤ 4388; decide) dX3_init_91 (h := b + 249) hz (fun H h7 z1 o1 hS => ?_)
        have h0 := at_kept h0 (o1 _ (b_lt0 (by decide)))
        have h4 := at_kept h4 (o1 _ (b_lt (by decide)))
        have h5 := at_kept h5 (o1 _ (b_lt (by decide)))
        have h6 := at_kept h6 (o1 _ (b_lt (by decide)))
        have x1 := Sc_kept x1 (fun q h8 h9 => o1 q (b_up (by decide) h9))
        have x2 := Pa_kept x2 (fun q h8 h9 => o1 q (b_up (by decide) h9))
        have hs := fun j hj => Sc_kt (hs j hj) o1 (b_sc hj (by decide))
        have x7 := Gp_kept x7 (fun q h8 h9 => o1 q (b_up (by decide) h9))
        have hz : H.size = b + 250 := z1
        refine r_putF (ty := (.array .int)) (ci := 3) (C := RX3) (T := TX3) (N := 8) (fs' := [.ref (b + 1), .ref (b + 17), .ref (b + 211), .ref (b + 244), .ref (b + 245), .ref (b + 248), .ref (b + 249), .null]) hx hb hts iiX3_init_3 tyX3 tyX3_ok nmX3 hown hK h0 (by exact Nat.le_refl b) hS rfl 6 (by decide) (hts (.fieldLink RX3 42 "HopMeet" "placesOfSecond" "[I") (List.mem_of_getElem? (i := 21) rfl)) rfl hin rfl (by decide +kernel) rfl rfl (Nat.le_of_ble_eq_true rfl) rfl dX3_init_93 (fun H locs h0 hz9 hq hS => ?_)
        have h4 := at_kept h4 (hq _ (b_ne (by decide)))
        have h5 := at_kept h5 (hq _ (b_ne (by decide)))
        have h6 := at_kept h6 (hq _ (b_ne (by decide)))
        have h7 := at_kept h7 (hq _ (b_ne (by decide)))
        have x1 := Sc_kept x1 (fun q h8 h9 => hq q (b_q (by decide) h8))
        have x2 := Pa_kept x2 (fun q h8 h9 => hq q (b_q (by decide) h8))
        have hs := fun j hj => Sc_kept (hs j hj) (fun q h8 h9 => hq q (b_q2 (by decide) h8))
        have x7 := Gp_kept x7 (fun q h8 h9 => hq q (b_q (by decide) h8))
        have hz := hz9.trans hz
        refine lv_aload_n hx hb dX3_init_96 rfl (lv_at hl 0 rfl) ?_
        refine lv_bipush (v := nI 10) hx hb dX3_init_97 (by decide) ?_
        refine r_newI hx hb (hts (.arrayClass .int) (List.mem_of_getElem? (i := 19) rfl)) hK rfl hS 10 (by decide) (by decide) (by show 249 + 1 ≤ 250; decide) (by show 4378 + 10 ≤ 4388; decide) dX3_init_99 (h := b + 250) hz (fun H h8 z1 o1 hS => ?_)
        have h0 := at_kept h0 (o1 _ (b_lt0 (by decide)))
        have h4 := at_kept h4 (o1 _ (b_lt (by decide)))
        have h5 := at_kept h5 (o1 _ (b_lt (by decide)))
        have h6 := at_kept h6 (o1 _ (b_lt (by decide)))
        have h7 := at_kept h7 (o1 _ (b_lt (by decide)))
        have x1 := Sc_kept x1 (fun q h8 h9 => o1 q (b_up (by decide) h9))
        have x2 := Pa_kept x2 (fun q h8 h9 => o1 q (b_up (by decide) h9))
        have hs := fun j hj => Sc_kt (hs j hj) o1 (b_sc hj (by decide))
        have x7 := Gp_kept x7 (fun q h8 h9 => o1 q (b_up (by decide) h9))
        have hz : H.size = b + 251 := z1
        refine r_putF (ty := (.array .int)) (ci := 3) (C := RX3) (T := TX3) (N := 8) (fs' := [.ref (b + 1), .ref (b + 17), .ref (b + 211), .ref (b + 244), .ref (b + 245), .ref (b + 248), .ref (b + 249), .ref (b + 250)]) hx hb hts iiX3_init_3 tyX3 tyX3_ok nmX3 hown hK h0 (by exact Nat.le_refl b) hS rfl 7 (by decide) (hts (.fieldLink RX3 45 "HopMeet" "timesOn" "[I") (List.mem_of_getElem? (i := 22) rfl)) rfl hin rfl (by decide +kernel) rfl rfl (Nat.le_of_ble_eq_true rfl) rfl dX3_init_101 (fun H locs h0 hz9 hq hS => ?_)
        have h4 := at_kept h4 (hq _ (b_ne (by decide)))
        have h5 := at_kept h5 (hq _ (b_ne (by decide)))
        have h6 := at_kept h6 (hq _ (b_ne (by decide)))
        have h7 := at_kept h7 (hq _ (b_ne (by decide)))
        have h8 := at_kept h8 (hq _ (b_ne (by decide)))
        have x1 := Sc_kept x1 (fun q h8 h9 => hq q (b_q (by decide) h8))
        have x2 := Pa_kept x2 (fun q h8 h9 => hq q (b_q (by decide) h8))
        have hs := fun j hj => Sc_kept (hs j hj) (fun q h8 h9 => hq q (b_q2 (by decide) h8))
        have x7 := Gp_kept x7 (fun q h8 h9 => hq q (b_q (by decide) h8))
        have hz := hz9.trans hz
        exact r_retV hx hb hr hlocks hS ⟨PX_mk (jm := fun _ => z00) h0 x1 x2 h4 (fun i hi => hs i hi) (fun i hi hk => absurd hk (by decide)) h5 (by rw [z00_u]; exact x7) ⟨_, h6⟩ ⟨_, h7⟩ ⟨_, h8⟩, hz⟩ dX3_init_104
      · refine lv_aload_n hx hb dX3_init_41 rfl (lv_at hl 0 rfl) ?_
        refine r_get (C := RX3) (T := TX3) (N := 8) hx hb hts iiX3_init_3 hown hK h0 rfl 2 (by decide) (hts (.fieldLink RX3 23 "HopMeet" "images" "[LHopMeet$Scene;") (List.mem_of_getElem? (i := 12) rfl)) rfl dX3_init_42 ?_
        refine lv_iload_n hx hb dX3_init_45 rfl (lv_at hl 1 rfl) ?_
        refine r_new (C := RX2) (T := TX2) (N := 6) (ci := 2) (fs := [.int (nI 0), .int (nI 0), .int (nI 0), .int (nI 0), .null, .null]) hx hb hts iiX3_init_2 tyX2 tyX2_ok hown (hts (.classLink RX3 7 RX2) (List.mem_of_getElem? (i := 4) rfl)) (hts (.instantiable RX2 6) (List.mem_of_getElem? (i := 5) rfl)) (hts (.initialized RX2) (List.mem_of_getElem? (i := 6) rfl)) hK hS rfl (dfX2) (by show 211 + 16 * i + 1 ≤ 250; omega) (by show 1005 + 76 * i + 6 ≤ 4388; omega) dX3_init_46 (h := b + 212 + 16 * i) hz (fun H h3 z1 o1 hS => ?_)
        have h0 := at_kept h0 (o1 _ (by omega))
        have h4 := at_kept h4 (o1 _ (by omega))
        have hs := fun j hj => Sc_kt (hs j hj) o1 (by omega)
        have x1 := Sc_kt x1 o1 (by omega)
        have x2 := Pa_kept x2 (fun q h8 h9 => o1 q (by omega))
        have hz : H.size = b + 212 + 16 * i + 1 := by omega
        refine lv_dup hx hb dX3_init_49 rfl ?_
        refine r_mI (av := []) (c_X2_init l G t (b + 212 + 16 * i)) ⟨hx, hb, hml, hown, hts⟩ (cwI 0 hts gX3_init_X2_init rfl rfl rfl (hts (.initialized RX2) (List.mem_of_getElem? (i := 6) rfl)) (hts (.methodLink RX3 9 yX2_init) (List.mem_of_getElem? (i := 23) rfl)) (hts (.instanceMethod yX2_init) (List.mem_of_getElem? (i := 24) rfl)) rfl (by decide +kernel) ⟨Nat.le_of_ble_eq_true rfl, Nat.le_of_ble_eq_true rfl⟩) mv_KA ⟨hK, hAO, h3, hz⟩ rfl hl (Nat.le_of_ble_eq_true rfl) ⟨by show 211 + 16 * i + 1 + 15 ≤ 250; omega, by show 1005 + 76 * i + 6 + 70 ≤ 4388; omega⟩ rfl dX3_init_50 hS (fun q h => by have h2 : b + 212 + 16 * i ≤ q := h; show b ≤ q; omega) (fun H locs hP hz9 hk hS => ?_)
        have h0 := at_keptA h0 hk (Nat.not_le.mpr (by omega))
        have h4 := at_keptA h4 hk (Nat.not_le.mpr (by omega))
        have hs := fun j hj => Sc_keptA (hs j hj) hk (fun q h8 h9 => Nat.not_le.mpr (by omega))
        have x1 := Sc_keptA x1 hk (fun q h8 h9 => Nat.not_le.mpr (by omega))
        have x2 := Pa_keptA x2 hk (fun q h8 h9 => Nat.not_le.mpr (by omega))
        have hz : H.size = b + 212 + 16 * i + 16 := hP.2
        refine r_qast hx hb hK h4 ((by show b ≤ _; omega)) hS rfl (Sc_obj hP.1) rfl i (by omega) (by decide) dX3_init_53 (fun H locs h4 hz9 hq hS => ?_)
        have hnew := Sc_kept hP.1 (fun q h8 h9 => hq q (by omega))
        have h0 := at_kept h0 (hq _ (by omega))
        have hs := fun j hj => Sc_kept (hs j hj) (fun q h8 h9 => hq q (by omega))
        have x1 := Sc_kept x1 (fun q h8 h9 => hq q (by omega))
        have x2 := Pa_kept x2 (fun q h8 h9 => hq q (by omega))
        have hz := hz9.trans hz
        rw [rowsH_s] at h4
        refine lv_iinc (v := nI (i + 1)) (lv' := [(1, .int (nI (i + 1))), (0, .ref b)]) hx hb dX3_init_54 hl (k := 1) rfl (nI_1 _) (by decide) rfl (fun ls hl => ?_)
        refine lv_goto (tgt := 36) hx hb dX3_init_57 (by decide) ?_
        rw [show 211 + 16 * i + 1 + 15 = 211 + 16 * (i + 1) by omega, show 1005 + 76 * i + 6 + 70 = 1005 + 76 * (i + 1) by omega]
        exact ih36 (i + 1) (by omega) (by omega) _ _ h0 h4 (fun j hj => by rcases Nat.lt_succ_iff_lt_or_eq.mp hj with q | q; exact hs j q; exact q ▸ hnew) (hz.trans (by omega)) x1 x2 hS ls (lv_sub hl [1, 0] rfl)
  exact loop36 _ 0 (Nat.zero_le _) (Nat.lt_succ_self _) _ _ h0 h4 (fun j hj => absurd hj (Nat.not_lt_zero _)) hz x1 x2 hS ls (lv_sub hl [1, 0] rfl)
