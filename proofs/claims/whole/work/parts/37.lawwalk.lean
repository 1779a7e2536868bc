/-! the law: its walk (printed by wip/whole/m16.py) -/
set_option maxHeartbeats 4000000 in
set_option maxRecDepth 100000 in
theorem whole_start {p : Program} {e : Env} {s : State} {m : MethodId} {below : List Frame} {meth : Method} {c : Code} (l : Launch) (hflags : l.flags = flags0) {b L : Nat} {xs : Nat → Int32} (hL : L ≤ 2560) (C0 : lw_At p s m meth c b L xs) : W p l e room_1 s m #[Value.ref b] below meth c s.heap [] 0 0 (lw_Z below #[Value.ref b] s) (entryFrame m ([Value.ref b] : List Value).toArray 4) := by
  obtain ⟨hx, hb, hr, hml, hown0, hts0, hX, hbl, hlocks, hgv⟩ := id C0
  have hown : s.vm.findClass RL = some m.cls := hown0
  obtain ⟨G, t, hK⟩ := law_K hts0
  have hAO := law_AO hts0
  have hZ := law_Z hts0 hgv
  have hts : ∀ w ∈ wsL_law, w.before #[Value.ref b] s = true := fun w h => hts0 w (wsL_law_in w h)
  have hS : va_S (fun q => s.heap.size ≤ q) s.heap s.heap [] := va_S.rf
  have hl := lv_entry ([.ref b]) (n := 4) (Nat.le_of_ble_eq_true rfl)
  rw [lg_entry_eq]
  generalize (lg_sl ([.ref b]) ++ List.replicate (4 - (lg_sl ([.ref b])).length) Slot.unset).toArray = ls at hl ⊢
  have hl : lv_has ls 4 [(0, .ref b)] := hl
  refine r_new (C := RX3) (T := TX3) (N := 8) (ci := 3) (fs := [.null, .null, .null, .null, .null, .null, .null, .null]) hx hb hts inlX3 tyX3 tyX3_ok hown (hts0 (.classLink RL 7 RX3) (by decide +kernel)) (hts0 (.instantiable RX3 8) (by decide +kernel)) (hts0 (.initialized RX3) (by decide +kernel)) hK hS rfl dfX3 (by show 0 + 1 ≤ 600000; decide) (by show 0 + 8 ≤ 7302250; decide) dL_law_0 (h := s.heap.size) rfl (fun H h0 z1 o1 hS => ?_)
  have hZ := ZS_kept hZ (fun q h1 h2 => o1 q h1)
  refine lv_dup hx hb dL_law_3 rfl ?_
  refine r_mI (av := []) (c_X3_init l G t s.heap.size idN (fun _ _ => 0) (fun _ _ => 0)) ⟨hx, hb, hml, hown, hts⟩ (cwI 0 hts gL_law_X3_init rfl rfl rfl (hts0 (.initialized RX3) (by decide +kernel)) (hts0 (.methodLink RL 9 yX3_init) (by decide +kernel)) (hts0 (.instanceMethod yX3_init) (by decide +kernel)) rfl (by decide +kernel) ⟨Nat.le_of_ble_eq_true rfl, Nat.le_of_ble_eq_true rfl⟩) mv_KA ⟨hK, hAO, h0, z1⟩ rfl hl (Nat.le_of_ble_eq_true rfl) ⟨by show 0 + 1 + 250 ≤ 600000; decide, by show 0 + 8 + 4388 ≤ 7302250; decide⟩ rfl dL_law_4 hS (fun q h => h) (fun H locs hP hz9 hk hS => ?_)
  obtain ⟨hPX, hz2⟩ := hP
  have hZ := ZS_kept hZ (fun q h1 h2 => hk q h1 h2)
  refine lv_astore_n (lv' := [(1, .ref s.heap.size), (0, .ref b)]) hx hb dL_law_7 rfl hl (by decide) rfl (fun ls hl => ?_)
  refine r_new (C := RX4) (T := TX4) (N := 10) (ci := 4) (fs := [.null, .int (nI 0), .null, .null, .null, .int (nI 0), .int (nI 0), .null, .null, .long (lN 0)]) hx hb hts inlX4 tyX4 tyX4_ok hown (hts0 (.classLink RL 10 RX4) (by decide +kernel)) (hts0 (.instantiable RX4 10) (by decide +kernel)) (hts0 (.initialized RX4) (by decide +kernel)) hK hS rfl dfX4 (by show 0 + 1 + 250 + 1 ≤ 600000; decide) (by show 0 + 8 + 4388 + 10 ≤ 7302250; decide) dL_law_8 (h := s.heap.size + 251) hz2 (fun H h0 z1 o1 hS => ?_)
  have hZ := ZS_kept hZ (fun q h1 h2 => o1 q (by omega))
  have hPX := PX_keptA (A := fun _ => False) hPX (fun q h1 _ => o1 q (by omega)) (fun q h1 h2 h3 => h3)
  refine lv_dup hx hb dL_law_11 rfl ?_
  refine r_mI (av := []) (c_X4_init l G t (s.heap.size + 251) (fun _ _ => 0) (fun _ _ => 0)) ⟨hx, hb, hml, hown, hts⟩ (cwI 0 hts gL_law_X4_init rfl rfl rfl (hts0 (.initialized RX4) (by decide +kernel)) (hts0 (.methodLink RL 12 yX4_init) (by decide +kernel)) (hts0 (.instanceMethod yX4_init) (by decide +kernel)) rfl (by decide +kernel) ⟨Nat.le_of_ble_eq_true rfl, Nat.le_of_ble_eq_true rfl⟩) mv_KA ⟨hK, hAO, h0, z1⟩ rfl hl (Nat.le_of_ble_eq_true rfl) ⟨by show 0 + 1 + 250 + 1 + 6 ≤ 600000; decide, by show 0 + 8 + 4388 + 10 + 917 ≤ 7302250; decide⟩ rfl dL_law_12 hS (fun q h => by have h2 : s.heap.size + 251 ≤ q := h; show s.heap.size ≤ q; omega) (fun H locs hPM hz9 hk hS => ?_)
  have hPX := PX_keptA hPX hk (fun q h1 h2 h3 => by have h4 : s.heap.size + 251 ≤ q := h3; omega)
  have hZ := ZS_kept hZ (fun q h1 h2 => hk q h1 (fun h3 => by have h4 : s.heap.size + 251 ≤ q := h3; omega))
  refine lv_astore_n (lv' := [(2, .ref (s.heap.size + 251)), (1, .ref s.heap.size), (0, .ref b)]) hx hb dL_law_15 rfl hl (by decide) rfl (fun ls hl => ?_)
  refine lv_iconst (v := nI 0) hx hb dL_law_16 (by decide) ?_
  refine lv_istore_n (lv' := [(3, .int (nI 0)), (2, .ref (s.heap.size + 251)), (1, .ref s.heap.size), (0, .ref b)]) hx hb dL_law_17 rfl hl (by decide) rfl (fun ls hl => ?_)
  refine W.widen (k := 600000) (n := 7302250) (by decide) (by decide) ?_
  have C1 : LC p s m c b L xs G t s.heap.size (s.heap.size + 251) := ⟨hx, hb, hml, hown, hts, hX, hbl, hK, Nat.le_refl _, Nat.le_refl _, hL⟩
  have loop : ∀ (fu i : Nat) (hi : i ≤ 2565) (hfu : 2565 - i < fu) (q : aS) (H : Heap) (locs : List Loc) (ls : Array Slot) (hI : LI s G t s.heap.size (s.heap.size + 251) q H locs) (hl : lv_has ls 4 [(0, .ref b), (1, .ref s.heap.size), (2, .ref (s.heap.size + 251)), (3, .int (nI i))]), LW p l e s m below meth c b H locs ls 18 := by
    intro fu
    induction fu with
    | zero => intro i hi hfu; exact absurd hfu (Nat.not_lt_zero _)
    | succ fu ih =>
      intro i hi hfu q H locs ls hI hl
      obtain ⟨z, gr, sl, bc, bk, kp, im⟩ := q
      have hS := hI.2.2.2.1
      refine lv_iload_n hx hb dL_law_18 rfl (lv_at hl 3 rfl) ?_
      refine lv_aload_n hx hb dL_law_19 rfl (lv_at hl 0 rfl) ?_
      refine va_slen hx hb hX hbl (Nat.not_le.mpr hbl) hS dL_law_20 ?_
      refine r_top (y := nI L) rfl ?_
      refine lv_iconst (v := nI 5) hx hb dL_law_21 (by decide) ?_
      refine lv_isub hx hb dL_law_22 ?_
      refine lv_icmp_gt (tgt := 838) hx hb dL_law_23 (by decide) (fun c1 => ?_) (fun c1 => ?_)
      · refine lv_iconst (v := 1) hx hb dL_law_838 (by decide) ?_
        refine va_forget (fun q hq => hS.2.2 q hq) ?_
        exact lw_ret hx hb hr hlocks dL_law_839
      · have hi5 : i + 5 ≤ L := law_lt hL (by omega) c1
        have K : LK p l e s m below meth c b G t s.heap.size (s.heap.size + 251) i := fun q H locs ls hI hl => by
          refine lv_iinc (v := nI (i + 5)) (lv' := [(3, .int (nI (i + 5))), (0, .ref b), (1, .ref s.heap.size), (2, .ref (s.heap.size + 251))]) hx hb dL_law_832 hl (k := 3) rfl (nI_add _ 5) (by decide) rfl (fun ls hl => ?_)
          refine lv_goto (tgt := 18) hx hb dL_law_835 (by decide) ?_
          exact ih (i + 5) (by omega) (by omega) q H locs ls hI (lv_sub hl [1, 2, 3, 0] rfl)
        refine lv_aload_n hx hb dL_law_26 rfl (lv_at hl 0 rfl) ?_
        refine lv_iload_n hx hb dL_law_27 rfl (lv_at hl 3 rfl) ?_
        refine r_sld hx hb hX hbl hS i (by omega) hL dL_law_28 ?_
        refine lv_bipush (v := nI 31) hx hb dL_law_29 (by decide) ?_
        refine lv_iand hx hb dL_law_31 ?_
        rcases and31 (xs i) with ho | ⟨k, hk, ek⟩
        · refine lv_tableOut (tgt := 832) hx hb dL_law_32 (Or.inr ho) (by decide) ?_
          exact K _ _ _ _ hI hl
        · refine r_top (y := nI k) ek ?_
          rcases (show k = 0 ∨ k = 1 ∨ k = 2 ∨ k = 3 ∨ k = 4 ∨ k = 5 ∨ k = 6 ∨ k = 7 ∨ k = 8 ∨ k = 9 ∨ k = 10 ∨ k = 11 ∨ k = 12 ∨ k = 13 ∨ k = 14 ∨ k = 15 ∨ k = 16 ∨ k = 17 ∨ k = 18 ∨ k = 19 ∨ k = 20 ∨ k = 21 by omega) with rfl | rfl | rfl | rfl | rfl | rfl | rfl | rfl | rfl | rfl | rfl | rfl | rfl | rfl | rfl | rfl | rfl | rfl | rfl | rfl | rfl | rfl
          · refine lv_tableIn (off := 104) (tgt := 136) hx hb dL_law_32 (by decide) (by decide) (by decide) (by decide) ?_
            exact lw_k0 l C1 hi5 hI K hl
          · refine lv_tableIn (off := 127) (tgt := 159) hx hb dL_law_32 (by decide) (by decide) (by decide) (by decide) ?_
            exact lw_k1 l C1 hi5 hI K hl
          · refine lv_tableIn (off := 180) (tgt := 212) hx hb dL_law_32 (by decide) (by decide) (by decide) (by decide) ?_
            exact lw_k2 l C1 hi5 hI K hl
          · refine lv_tableIn (off := 213) (tgt := 245) hx hb dL_law_32 (by decide) (by decide) (by decide) (by decide) ?_
            exact lw_k3 l C1 hi5 hI K hl
          · refine lv_tableIn (off := 256) (tgt := 288) hx hb dL_law_32 (by decide) (by decide) (by decide) (by decide) ?_
            exact lw_k4 l C1 hi5 hI K hl
          · refine lv_tableIn (off := 309) (tgt := 341) hx hb dL_law_32 (by decide) (by decide) (by decide) (by decide) ?_
            exact lw_k5 l C1 hi5 hI K hl
          · refine lv_tableIn (off := 332) (tgt := 364) hx hb dL_law_32 (by decide) (by decide) (by decide) (by decide) ?_
            exact lw_k6 l C1 hi5 hI K hl
          · refine lv_tableIn (off := 345) (tgt := 377) hx hb dL_law_32 (by decide) (by decide) (by decide) (by decide) ?_
            exact lw_k7 l C1 hi5 hI K hl
          · refine lv_tableIn (off := 368) (tgt := 400) hx hb dL_law_32 (by decide) (by decide) (by decide) (by decide) ?_
            exact lw_k8 l C1 hi5 hI K hl
          · refine lv_tableIn (off := 401) (tgt := 433) hx hb dL_law_32 (by decide) (by decide) (by decide) (by decide) ?_
            exact lw_k9 l C1 hi5 hI K hl
          · refine lv_tableIn (off := 434) (tgt := 466) hx hb dL_law_32 (by decide) (by decide) (by decide) (by decide) ?_
            exact lw_k10 l C1 hi5 hI K hl
          · refine lv_tableIn (off := 467) (tgt := 499) hx hb dL_law_32 (by decide) (by decide) (by decide) (by decide) ?_
            exact lw_k11 l C1 hi5 hI K hl
          · refine lv_tableIn (off := 500) (tgt := 532) hx hb dL_law_32 (by decide) (by decide) (by decide) (by decide) ?_
            exact lw_k12 l C1 hi5 hI K hl
          · refine lv_tableIn (off := 533) (tgt := 565) hx hb dL_law_32 (by decide) (by decide) (by decide) (by decide) ?_
            exact lw_k13 l C1 hi5 hI K hl
          · refine lv_tableIn (off := 576) (tgt := 608) hx hb dL_law_32 (by decide) (by decide) (by decide) (by decide) ?_
            exact lw_k14 l C1 hi5 hI K hl
          · refine lv_tableIn (off := 629) (tgt := 661) hx hb dL_law_32 (by decide) (by decide) (by decide) (by decide) ?_
            exact lw_k15 l C1 hi5 hI K hl
          · refine lv_tableIn (off := 672) (tgt := 704) hx hb dL_law_32 (by decide) (by decide) (by decide) (by decide) ?_
            exact lw_k16 l C1 hi5 hI K hl
          · refine lv_tableIn (off := 705) (tgt := 737) hx hb dL_law_32 (by decide) (by decide) (by decide) (by decide) ?_
            exact lw_k17 l C1 hi5 hI K hl
          · refine lv_tableIn (off := 728) (tgt := 760) hx hb dL_law_32 (by decide) (by decide) (by decide) (by decide) ?_
            exact lw_k18 l C1 hi5 hI K hl
          · refine lv_tableIn (off := 741) (tgt := 773) hx hb dL_law_32 (by decide) (by decide) (by decide) (by decide) ?_
            exact lw_k19 l C1 hi5 hI K hl
          · refine lv_tableIn (off := 754) (tgt := 786) hx hb dL_law_32 (by decide) (by decide) (by decide) (by decide) ?_
            exact lw_k20 l C1 hi5 hI K hl
          · refine lv_tableIn (off := 777) (tgt := 809) hx hb dL_law_32 (by decide) (by decide) (by decide) (by decide) ?_
            exact lw_k21 l C1 hi5 hI K hl
  exact loop _ 0 (by decide) (Nat.lt_succ_self _) (z00, idN, 0, 0, (fun _ _ => 0), (fun _ => false), (fun _ _ => 0)) _ _ ls ⟨hPX, hPM, S2_start _ _, hS, hZ⟩ (lv_sub hl [3, 2, 1, 0] rfl)
