/-! the reference: what reads alone (printed by wip/whole/m2.py) -/
set_option maxHeartbeats 4000000 in
set_option maxRecDepth 100000 in
/-- within bounds -/
theorem c_X4_in (l : Launch) (G : va_G) (t : gT) (v a b : Int32) : Met l yX4_in wsX4_in ({ frames := 0, cells := 0, slots := 0, locals := 0 } : Room) (pc_ [.int v, .int a, .int b] (fun _ _ => True)) (vp_Si (fun r => r = bI (inB v a b))) 0 0 (fun _ => False) := by
  refine Met.ofW (cc := cX4_in) (maxL := 3) (ret := (some .boolean)) (by decide) rfl ?_
  intro p e s m args below meth c s₁ B hml hv
  obtain ⟨rfl, hB⟩ := hv
  have hx := B.exec
  have hb := B.bytes
  have hr := B.returns
  have hts := atoms_spec (ws := wsX4_in) B.pre
  have hown : s.vm.findClass RX4 = some m.cls := findClass_of_methodNamed B.named
  have hlocks := B.notSynchronized
  have hl := lv_entry ([.int v, .int a, .int b]) (n := 3) (Nat.le_of_ble_eq_true rfl)
  rw [lg_entry_eq]
  generalize (lg_sl ([.int v, .int a, .int b]) ++ List.replicate (3 - (lg_sl ([.int v, .int a, .int b])).length) Slot.unset).toArray = ls at hl ⊢
  have hl : lv_has ls 3 [(0, .int v), (1, .int a), (2, .int b)] := hl
  refine lv_iload_n hx hb dX4_in_0 rfl (lv_at hl 0 rfl) ?_
  refine lv_iload_n hx hb dX4_in_1 rfl (lv_at hl 1 rfl) ?_
  refine lv_icmp_lt (tgt := 14) hx hb dX4_in_2 (by decide) (fun c1 => ?_) (fun c1 => ?_)
  · refine lv_iconst (v := nI 0) hx hb dX4_in_14 (by decide) ?_
    exact r_retZ (v := nI 0) hx hb hr hlocks false rfl (by first | (rw [in_f1 c1]; rfl) | (rw [in_f2 c2]; rfl)) dX4_in_15
  · refine lv_iload_n hx hb dX4_in_5 rfl (lv_at hl 0 rfl) ?_
    refine lv_iload_n hx hb dX4_in_6 rfl (lv_at hl 2 rfl) ?_
    refine lv_icmp_gt (tgt := 14) hx hb dX4_in_7 (by decide) (fun c2 => ?_) (fun c2 => ?_)
    · refine lv_iconst (v := nI 0) hx hb dX4_in_14 (by decide) ?_
      exact r_retZ (v := nI 0) hx hb hr hlocks false rfl (by first | (rw [in_f1 c1]; rfl) | (rw [in_f2 c2]; rfl)) dX4_in_15
    · refine lv_iconst (v := nI 1) hx hb dX4_in_10 (by decide) ?_
      refine lv_goto (tgt := 15) hx hb dX4_in_11 (by decide) ?_
      exact r_retZ (v := nI 1) hx hb hr hlocks true rfl (by rw [in_t c1 c2]; rfl) dX4_in_15

set_option maxHeartbeats 4000000 in
set_option maxRecDepth 100000 in
/-- whether n is a prime -/
theorem c_X4_isPrime (l : Launch) (G : va_G) (t : gT) (n : Nat) (hn : n < 100) : Met l yX4_isPrime wsX4_isPrime ({ frames := 0, cells := 0, slots := 0, locals := 0 } : Room) (pc_ [.int (nI n)] (fun _ _ => True)) (vp_Si (fun r => r = bI (prB n))) 0 0 (fun _ => False) := by
  refine Met.ofW (cc := cX4_isPrime) (maxL := 3) (ret := (some .boolean)) (by decide) rfl ?_
  intro p e s m args below meth c s₁ B hml hv
  obtain ⟨rfl, hB⟩ := hv
  have hx := B.exec
  have hb := B.bytes
  have hr := B.returns
  have hts := atoms_spec (ws := wsX4_isPrime) B.pre
  have hown : s.vm.findClass RX4 = some m.cls := findClass_of_methodNamed B.named
  have hlocks := B.notSynchronized
  have hl := lv_entry ([.int (nI n)]) (n := 3) (Nat.le_of_ble_eq_true rfl)
  rw [lg_entry_eq]
  generalize (lg_sl ([.int (nI n)]) ++ List.replicate (3 - (lg_sl ([.int (nI n)])).length) Slot.unset).toArray = ls at hl ⊢
  have hl : lv_has ls 3 [(0, .int (nI n))] := hl
  refine lv_iconst (v := nI 1) hx hb dX4_isPrime_0 (by decide) ?_
  refine r_top (y := bI (prU n 2)) (by rw [prU_2]; rfl) ?_
  refine lv_istore_n (lv' := [(1, .int (bI (prU n 2))), (0, .int (nI n))]) hx hb dX4_isPrime_1 rfl hl (by decide) rfl (fun ls hl => ?_)
  refine lv_iconst (v := nI 2) hx hb dX4_isPrime_2 (by decide) ?_
  refine lv_istore_n (lv' := [(2, .int (nI 2)), (1, .int (bI (prU n 2))), (0, .int (nI n))]) hx hb dX4_isPrime_3 rfl hl (by decide) rfl (fun ls hl => ?_)
  have loop4 : ∀ (fu : Nat) (k : Nat) (hk : 2 ≤ k) (hk3 : k ≤ 100) (hk4 : k = 2 ∨ k ≤ n) (hfu : 100 - k < fu) (ls : Array Slot) (hl : lv_has ls 3 [(0, .int (nI n)), (1, .int (bI (prU n k))), (2, .int (nI k))]), W p l e (headSpec wsX4_isPrime ({ frames := 0, cells := 0, slots := 0, locals := 0 } : Room)).room s m ([.int (nI n)] : List Value).toArray below meth c s.heap [] 0 0 (MQ below (vp_Si (fun r => r = bI (prB n))) ([.int (nI n)] : List Value).toArray s 0 0 (fun _ => False)) (F0 m 4 ls []) := by
    intro fu
    induction fu with
    | zero => intro k hk hk3 hk4 hfu; exact absurd hfu (Nat.not_lt_zero _)
    | succ fu4 ih4 =>
      intro k hk hk3 hk4 hfu ls hl
      refine lv_iload_n hx hb dX4_isPrime_4 rfl (lv_at hl 2 rfl) ?_
      refine lv_iload_n hx hb dX4_isPrime_5 rfl (lv_at hl 0 rfl) ?_
      refine r_geN hx hb (by omega) (by omega) dX4_isPrime_6 (tgt := 31) (by decide) (fun c1 => ?_) (fun c1 => ?_)
      · refine lv_iload_n hx hb dX4_isPrime_31 rfl (lv_at hl 1 rfl) ?_
        exact r_retZ (v := bI (prU n k)) hx hb hr hlocks (prU n k) rfl (by rw [prU_end c1 hk4]) dX4_isPrime_32
      · refine lv_iload_n hx hb dX4_isPrime_9 rfl (lv_at hl 1 rfl) ?_
        refine r_ifeqB hx hb dX4_isPrime_10 (tgt := 23) (by decide) (fun c2 => ?_) (fun c2 => ?_)
        · refine lv_iconst (v := nI 0) hx hb dX4_isPrime_23 (by decide) ?_
          refine r_top (y := bI (prU n (k + 1))) (by first | (rw [prU_no c2]; rfl) | (rw [prU_no2 hk c3]; rfl)) ?_
          refine lv_istore_n (lv' := [(1, .int (bI (prU n (k + 1)))), (0, .int (nI n)), (2, .int (nI k))]) hx hb dX4_isPrime_24 rfl hl (by decide) rfl (fun ls hl => ?_)
          refine lv_iinc (v := nI (k + 1)) (lv' := [(2, .int (nI (k + 1))), (1, .int (bI (prU n (k + 1)))), (0, .int (nI n))]) hx hb dX4_isPrime_25 hl (k := 2) rfl (nI_1 _) (by decide) rfl (fun ls hl => ?_)
          refine lv_goto (tgt := 4) hx hb dX4_isPrime_28 (by decide) ?_
          exact ih4 (k + 1) (by omega) (by omega) (Or.inr c1) (by omega) ls (lv_sub hl [2, 1, 0] rfl)
        · refine lv_iload_n hx hb dX4_isPrime_13 rfl (lv_at hl 0 rfl) ?_
          refine lv_iload_n hx hb dX4_isPrime_14 rfl (lv_at hl 2 rfl) ?_
          refine r_iremN hx hb (by omega) (by omega) (by omega) dX4_isPrime_15 ?_
          refine r_ifeqN hx hb (Nat.lt_of_le_of_lt (Nat.mod_le _ _) (by omega)) dX4_isPrime_16 (tgt := 23) (by decide) (fun c3 => ?_) (fun c3 => ?_)
          · refine lv_iconst (v := nI 0) hx hb dX4_isPrime_23 (by decide) ?_
            refine r_top (y := bI (prU n (k + 1))) (by first | (rw [prU_no c2]; rfl) | (rw [prU_no2 hk c3]; rfl)) ?_
            refine lv_istore_n (lv' := [(1, .int (bI (prU n (k + 1)))), (0, .int (nI n)), (2, .int (nI k))]) hx hb dX4_isPrime_24 rfl hl (by decide) rfl (fun ls hl => ?_)
            refine lv_iinc (v := nI (k + 1)) (lv' := [(2, .int (nI (k + 1))), (1, .int (bI (prU n (k + 1)))), (0, .int (nI n))]) hx hb dX4_isPrime_25 hl (k := 2) rfl (nI_1 _) (by decide) rfl (fun ls hl => ?_)
            refine lv_goto (tgt := 4) hx hb dX4_isPrime_28 (by decide) ?_
            exact ih4 (k + 1) (by omega) (by omega) (Or.inr c1) (by omega) ls (lv_sub hl [2, 1, 0] rfl)
          · refine lv_iconst (v := nI 1) hx hb dX4_isPrime_19 (by decide) ?_
            refine lv_goto (tgt := 24) hx hb dX4_isPrime_20 (by decide) ?_
            refine r_top (y := bI (prU n (k + 1))) (by rw [prU_yes c2 c3]; rfl) ?_
            refine lv_istore_n (lv' := [(1, .int (bI (prU n (k + 1)))), (0, .int (nI n)), (2, .int (nI k))]) hx hb dX4_isPrime_24 rfl hl (by decide) rfl (fun ls hl => ?_)
            refine lv_iinc (v := nI (k + 1)) (lv' := [(2, .int (nI (k + 1))), (1, .int (bI (prU n (k + 1)))), (0, .int (nI n))]) hx hb dX4_isPrime_25 hl (k := 2) rfl (nI_1 _) (by decide) rfl (fun ls hl => ?_)
            refine lv_goto (tgt := 4) hx hb dX4_isPrime_28 (by decide) ?_
            exact ih4 (k + 1) (by omega) (by omega) (Or.inr c1) (by omega) ls (lv_sub hl [2, 1, 0] rfl)
  exact loop4 _ 2 (Nat.le_refl _) (by decide) (Or.inl rfl) (Nat.lt_succ_self _) ls (lv_sub hl [2, 1, 0] rfl)

set_option maxRecDepth 20000 in
theorem iiX4_all_4 : ∀ w ∈ wsX40, w ∈ wsX4_all := by decide +kernel
set_option maxHeartbeats 4000000 in
set_option maxRecDepth 100000 in
/-- the set of all channels -/
theorem c_X4_all (l : Launch) (G : va_G) (t : gT) (d : Nat) (z : Nat → Int32) (hz : WF z) : Met l yX4_all wsX4_all ({ frames := 0, cells := 0, slots := 0, locals := 0 } : Room) (pc_ [.ref d] (fun U H => KK G t U ∧ Mn G t d z H)) (vp_Si (fun r => r = nI (2 ^ cn z - 1))) 0 0 (fun _ => False) := by
  refine Met.ofW (cc := cX4_all) (maxL := 1) (ret := (some .int)) (by decide) rfl ?_
  intro p e s m args below meth c s₁ B hml hv
  obtain ⟨rfl, hB⟩ := hv
  have hx := B.exec
  have hb := B.bytes
  have hr := B.returns
  have hts := atoms_spec (ws := wsX4_all) B.pre
  have hown : s.vm.findClass RX4 = some m.cls := findClass_of_methodNamed B.named
  have hlocks := B.notSynchronized
  have hK := hB.1
  obtain ⟨bc, sl, lo, h0, h1⟩ := hB.2
  have hn := hz.n
  have hu5 := hz.u5
  have hs8 := hz.s8
  have hp := prN_in (cn z)
  have hl := lv_entry ([.ref d]) (n := 1) (Nat.le_of_ble_eq_true rfl)
  rw [lg_entry_eq]
  generalize (lg_sl ([.ref d]) ++ List.replicate (1 - (lg_sl ([.ref d])).length) Slot.unset).toArray = ls at hl ⊢
  have hl : lv_has ls 1 [(0, .ref d)] := hl
  refine lv_iconst (v := nI 1) hx hb dX4_all_0 (by decide) ?_
  refine lv_aload_n hx hb dX4_all_1 rfl (lv_at hl 0 rfl) ?_
  refine r_get (C := RX4) (T := TX4) (N := 10) hx hb hts iiX4_all_4 hown hK h0 rfl 0 (by decide) (hts (.fieldLink RX4 7 "HopMeetModel" "now" "[I") (List.mem_of_getElem? (i := 1) rfl)) rfl dX4_all_2 ?_
  refine lv_iconst (v := nI 0) hx hb dX4_all_5 (by decide) ?_
  refine r_iald hx hb hK h1 rfl 0 (by omega) (by decide) (v := nI (cn z)) hz.1.1 dX4_all_6 ?_
  refine lv_ishl hx hb dX4_all_7 ?_
  refine r_top (y := nI (2 ^ cn z)) (i_shl1 hn.2) ?_
  refine lv_iconst (v := nI 1) hx hb dX4_all_8 (by decide) ?_
  refine r_isubN hx hb (Nat.one_le_two_pow) dX4_all_9 ?_
  exact r_retS (v := nI ((2 ^ cn z) - 1)) hx hb hr hlocks rfl dX4_all_10

set_option maxRecDepth 20000 in
theorem iiX4_of_4 : ∀ w ∈ wsX40, w ∈ wsX4_of := by decide +kernel
set_option maxHeartbeats 4000000 in
set_option maxRecDepth 100000 in
/-- what a user has -/
theorem c_X4_of (l : Launch) (G : va_G) (t : gT) (d : Nat) (z : Nat → Int32) (hz : WF z) (u w : Nat) (hu : u < 5) (hw : w < 5) : Met l yX4_of wsX4_of ({ frames := 0, cells := 0, slots := 0, locals := 0 } : Room) (pc_ [.ref d, .int (nI u), .int (nI w)] (fun U H => KK G t U ∧ Mn G t d z H)) (vp_Si (fun r => r = z (3 + 5 * u + w))) 0 0 (fun _ => False) := by
  refine Met.ofW (cc := cX4_of) (maxL := 3) (ret := (some .int)) (by decide) rfl ?_
  intro p e s m args below meth c s₁ B hml hv
  obtain ⟨rfl, hB⟩ := hv
  have hx := B.exec
  have hb := B.bytes
  have hr := B.returns
  have hts := atoms_spec (ws := wsX4_of) B.pre
  have hown : s.vm.findClass RX4 = some m.cls := findClass_of_methodNamed B.named
  have hlocks := B.notSynchronized
  have hK := hB.1
  obtain ⟨bc, sl, lo, h0, h1⟩ := hB.2
  have hn := hz.n
  have hu5 := hz.u5
  have hs8 := hz.s8
  have hp := prN_in (cn z)
  have hl := lv_entry ([.ref d, .int (nI u), .int (nI w)]) (n := 3) (Nat.le_of_ble_eq_true rfl)
  rw [lg_entry_eq]
  generalize (lg_sl ([.ref d, .int (nI u), .int (nI w)]) ++ List.replicate (3 - (lg_sl ([.ref d, .int (nI u), .int (nI w)])).length) Slot.unset).toArray = ls at hl ⊢
  have hl : lv_has ls 3 [(0, .ref d), (1, .int (nI u)), (2, .int (nI w))] := hl
  refine lv_aload_n hx hb dX4_of_0 rfl (lv_at hl 0 rfl) ?_
  refine r_get (C := RX4) (T := TX4) (N := 10) hx hb hts iiX4_of_4 hown hK h0 rfl 0 (by decide) (hts (.fieldLink RX4 7 "HopMeetModel" "now" "[I") (List.mem_of_getElem? (i := 1) rfl)) rfl dX4_of_1 ?_
  refine lv_iconst (v := nI 3) hx hb dX4_of_4 (by decide) ?_
  refine lv_iconst (v := nI 5) hx hb dX4_of_5 (by decide) ?_
  refine lv_iload_n hx hb dX4_of_6 rfl (lv_at hl 1 rfl) ?_
  refine r_imulN hx hb dX4_of_7 ?_
  refine r_iaddN hx hb dX4_of_8 ?_
  refine lv_iload_n hx hb dX4_of_9 rfl (lv_at hl 2 rfl) ?_
  refine r_iaddN hx hb dX4_of_10 ?_
  refine r_iald hx hb hK h1 rfl ((3 + (5 * u)) + w) (by omega) (by decide) (v := z ((3 + (5 * u)) + w)) rfl dX4_of_11 ?_
  exact r_retS (v := z ((3 + (5 * u)) + w)) hx hb hr hlocks rfl dX4_of_12

set_option maxRecDepth 20000 in
theorem iiX4_points_4 : ∀ w ∈ wsX40, w ∈ wsX4_points := by decide +kernel
set_option maxHeartbeats 4000000 in
set_option maxRecDepth 100000 in
/-- where a row points -/
theorem c_X4_points (l : Launch) (G : va_G) (t : gT) (d : Nat) (z : Nat → Int32) (hz : WF z) (u c0 : Nat) (hu : u < cu z) (hc : c0 ≤ 5000) : Met l yX4_points wsX4_points ({ frames := 1, cells := 0, slots := 0, locals := 22 } : Room) (pc_ [.ref d, .int (nI u), .int (nI c0)] (fun U H => KK G t U ∧ Mn G t d z H)) (vp_Si (fun r => r = nI (aimN z u c0))) 0 0 (fun _ => False) := by
  refine Met.ofW (cc := cX4_points) (maxL := 10) (ret := (some .int)) (by decide) rfl ?_
  intro p e s m args below meth c s₁ B hml hv
  obtain ⟨rfl, hB⟩ := hv
  have hx := B.exec
  have hb := B.bytes
  have hr := B.returns
  have hts := atoms_spec (ws := wsX4_points) B.pre
  have hown : s.vm.findClass RX4 = some m.cls := findClass_of_methodNamed B.named
  have hlocks := B.notSynchronized
  have hK := hB.1
  obtain ⟨bc, sl, lo, h0, h1⟩ := hB.2
  have hn := hz.n
  have hu5 := hz.u5
  have hs8 := hz.s8
  have hp := prN_in (cn z)
  have huf := hz.us hu
  have b1 := huf.1.2
  have b2 := huf.2.1.2
  have b3 := huf.2.2.1.2
  have b4 := huf.2.2.2.1.2
  have b5 := hz.o hu
  have a4 : uT z u % cn z < cn z := Nat.mod_lt _ (by omega)
  have a5 : c0 * (1 + uT z u % cn z) ≤ 5000 * 11 := Nat.mul_le_mul hc (by omega)
  have a1 : c0 / (3 * prN (cn z)) ≤ c0 := Nat.div_le_self _ _
  have a2 : c0 % (3 * prN (cn z)) < 3 * prN (cn z) := Nat.mod_lt _ (by omega)
  have a3 : c0 / (3 * prN (cn z)) / prN (cn z) ≤ c0 / (3 * prN (cn z)) := Nat.div_le_self _ _
  have a6 : (1 + uT z u % cn z - 1 + c0 / (3 * prN (cn z)) / prN (cn z)) % cn z < cn z := Nat.mod_lt _ (by omega)
  have a7 : c0 % (3 * prN (cn z)) * (1 + (1 + uT z u % cn z - 1 + c0 / (3 * prN (cn z)) / prN (cn z)) % cn z) ≤ 33 * 11 := Nat.mul_le_mul (by omega) (by omega)
  have hl := lv_entry ([.ref d, .int (nI u), .int (nI c0)]) (n := 10) (Nat.le_of_ble_eq_true rfl)
  rw [lg_entry_eq]
  generalize (lg_sl ([.ref d, .int (nI u), .int (nI c0)]) ++ List.replicate (10 - (lg_sl ([.ref d, .int (nI u), .int (nI c0)])).length) Slot.unset).toArray = ls at hl ⊢
  have hl : lv_has ls 10 [(0, .ref d), (1, .int (nI u)), (2, .int (nI c0))] := hl
  refine lv_aload_n hx hb dX4_points_0 rfl (lv_at hl 0 rfl) ?_
  refine r_get (C := RX4) (T := TX4) (N := 10) hx hb hts iiX4_points_4 hown hK h0 rfl 0 (by decide) (hts (.fieldLink RX4 7 "HopMeetModel" "now" "[I") (List.mem_of_getElem? (i := 1) rfl)) rfl dX4_points_1 ?_
  refine lv_iconst (v := nI 0) hx hb dX4_points_4 (by decide) ?_
  refine r_iald hx hb hK h1 rfl 0 (by omega) (by decide) (v := nI (cn z)) hz.1.1 dX4_points_5 ?_
  refine lv_istore_n (lv' := [(3, .int (nI (cn z))), (0, .ref d), (1, .int (nI u)), (2, .int (nI c0))]) hx hb dX4_points_6 rfl hl (by decide) rfl (fun ls hl => ?_)
  refine lv_aload_n hx hb dX4_points_7 rfl (lv_at hl 1 rfl) ?_
  refine r_get (C := RX4) (T := TX4) (N := 10) hx hb hts iiX4_points_4 hown hK h0 rfl 6 (by decide) (hts (.fieldLink RX4 35 "HopMeetModel" "prime" "I") (List.mem_of_getElem? (i := 2) rfl)) rfl dX4_points_8 ?_
  refine lv_istore (lv' := [(4, .int (nI (prN (cn z)))), (3, .int (nI (cn z))), (0, .ref d), (1, .int (nI u)), (2, .int (nI c0))]) hx hb dX4_points_11 hl (by decide) rfl (fun ls hl => ?_)
  refine lv_aload_n hx hb dX4_points_13 rfl (lv_at hl 2 rfl) ?_
  refine lv_iload_n hx hb dX4_points_14 rfl (lv_at hl 3 rfl) ?_
  refine lv_iconst (v := nI 1) hx hb dX4_points_15 (by decide) ?_
  refine r_cV (av := [.int (nI u), .int (nI 1)]) (c_X4_of l G t d z hz u 1 (by omega) (by decide)) ⟨hx, hb, hml, hown, hts⟩ (cwV 2 hts gX4_points_X4_of rfl rfl rfl (by decide +kernel) ⟨Nat.le_of_ble_eq_true rfl, Nat.le_of_ble_eq_true rfl⟩) mv_K hB (at_recv hK h0 rfl) rfl hl (Nat.le_of_ble_eq_true rfl) ⟨Nat.le_of_ble_eq_true rfl, Nat.le_of_ble_eq_true rfl⟩ rfl dX4_points_16 (fun r1 hr1 => ?_)
  subst hr1
  refine r_top (y := nI (uS z u)) huf.2.1.1 ?_
  refine lv_istore (lv' := [(5, .int (nI (uS z u))), (4, .int (nI (prN (cn z)))), (3, .int (nI (cn z))), (0, .ref d), (1, .int (nI u)), (2, .int (nI c0))]) hx hb dX4_points_19 hl (by decide) rfl (fun ls hl => ?_)
  refine lv_iconst (v := nI 1) hx hb dX4_points_21 (by decide) ?_
  refine lv_aload_n hx hb dX4_points_22 rfl (lv_at hl 3 rfl) ?_
  refine lv_iload_n hx hb dX4_points_23 rfl (lv_at hl 4 rfl) ?_
  refine lv_iconst (v := nI 2) hx hb dX4_points_24 (by decide) ?_
  refine r_cV (av := [.int (nI u), .int (nI 2)]) (c_X4_of l G t d z hz u 2 (by omega) (by decide)) ⟨hx, hb, hml, hown, hts⟩ (cwV 2 hts gX4_points_X4_of rfl rfl rfl (by decide +kernel) ⟨Nat.le_of_ble_eq_true rfl, Nat.le_of_ble_eq_true rfl⟩) mv_K hB (at_recv hK h0 rfl) rfl hl (Nat.le_of_ble_eq_true rfl) ⟨Nat.le_of_ble_eq_true rfl, Nat.le_of_ble_eq_true rfl⟩ rfl dX4_points_25 (fun r2 hr2 => ?_)
  subst hr2
  refine r_top (y := nI (uT z u)) huf.2.2.1.1 ?_
  refine lv_iload_n hx hb dX4_points_28 rfl (lv_at hl 2 rfl) ?_
  refine r_iremN hx hb (by omega) (by omega) (by omega) dX4_points_29 ?_
  refine r_iaddN hx hb dX4_points_30 ?_
  refine lv_istore (lv' := [(6, .int (nI (1 + ((uT z u) % (cn z))))), (5, .int (nI (uS z u))), (4, .int (nI (prN (cn z)))), (3, .int (nI (cn z))), (0, .ref d), (1, .int (nI u)), (2, .int (nI c0))]) hx hb dX4_points_31 hl (by decide) rfl (fun ls hl => ?_)
  refine lv_aload_n hx hb dX4_points_33 rfl (lv_at hl 4 rfl) ?_
  refine lv_iload_n hx hb dX4_points_34 rfl (lv_at hl 5 rfl) ?_
  refine lv_iconst (v := nI 0) hx hb dX4_points_35 (by decide) ?_
  refine r_cV (av := [.int (nI u), .int (nI 0)]) (c_X4_of l G t d z hz u 0 (by omega) (by decide)) ⟨hx, hb, hml, hown, hts⟩ (cwV 2 hts gX4_points_X4_of rfl rfl rfl (by decide +kernel) ⟨Nat.le_of_ble_eq_true rfl, Nat.le_of_ble_eq_true rfl⟩) mv_K hB (at_recv hK h0 rfl) rfl hl (Nat.le_of_ble_eq_true rfl) ⟨Nat.le_of_ble_eq_true rfl, Nat.le_of_ble_eq_true rfl⟩ rfl dX4_points_36 (fun r3 hr3 => ?_)
  subst hr3
  refine r_top (y := nI (uR z u)) huf.1.1 ?_
  refine lv_iconst (v := nI 1) hx hb dX4_points_39 (by decide) ?_
  refine r_neN hx hb (by omega) (by omega) dX4_points_40 (tgt := 50) (by decide) (fun c1 => ?_) (fun c1 => ?_)
  · refine lv_aload_n hx hb dX4_points_50 rfl (lv_at hl 4 rfl) ?_
    refine lv_iload_n hx hb dX4_points_51 rfl (lv_at hl 5 rfl) ?_
    refine lv_iconst (v := nI 0) hx hb dX4_points_52 (by decide) ?_
    refine r_cV (av := [.int (nI u), .int (nI 0)]) (c_X4_of l G t d z hz u 0 (by omega) (by decide)) ⟨hx, hb, hml, hown, hts⟩ (cwV 2 hts gX4_points_X4_of rfl rfl rfl (by decide +kernel) ⟨Nat.le_of_ble_eq_true rfl, Nat.le_of_ble_eq_true rfl⟩) mv_K hB (at_recv hK h0 rfl) rfl hl (Nat.le_of_ble_eq_true rfl) ⟨Nat.le_of_ble_eq_true rfl, Nat.le_of_ble_eq_true rfl⟩ rfl dX4_points_53 (fun r4 hr4 => ?_)
    subst hr4
    refine r_top (y := nI (uR z u)) huf.1.1 ?_
    refine lv_iconst (v := nI 2) hx hb dX4_points_56 (by decide) ?_
    refine r_neN hx hb (by omega) (by omega) dX4_points_57 (tgt := 65) (by decide) (fun c2 => ?_) (fun c2 => ?_)
    · refine lv_aload_n hx hb dX4_points_65 rfl (lv_at hl 4 rfl) ?_
      refine lv_iload_n hx hb dX4_points_66 rfl (lv_at hl 5 rfl) ?_
      refine lv_iconst (v := nI 0) hx hb dX4_points_67 (by decide) ?_
      refine r_cV (av := [.int (nI u), .int (nI 0)]) (c_X4_of l G t d z hz u 0 (by omega) (by decide)) ⟨hx, hb, hml, hown, hts⟩ (cwV 2 hts gX4_points_X4_of rfl rfl rfl (by decide +kernel) ⟨Nat.le_of_ble_eq_true rfl, Nat.le_of_ble_eq_true rfl⟩) mv_K hB (at_recv hK h0 rfl) rfl hl (Nat.le_of_ble_eq_true rfl) ⟨Nat.le_of_ble_eq_true rfl, Nat.le_of_ble_eq_true rfl⟩ rfl dX4_points_68 (fun r5 hr5 => ?_)
      subst hr5
      refine r_top (y := nI (uR z u)) huf.1.1 ?_
      refine lv_iconst (v := nI 3) hx hb dX4_points_71 (by decide) ?_
      refine r_neN hx hb (by omega) (by omega) dX4_points_72 (tgt := 88) (by decide) (fun c3 => ?_) (fun c3 => ?_)
      · refine lv_iload_n hx hb dX4_points_88 rfl (lv_at hl 6 rfl) ?_
        refine lv_iconst (v := nI 3) hx hb dX4_points_89 (by decide) ?_
        refine lv_iload hx hb dX4_points_90 (lv_at hl 2 rfl) ?_
        refine r_imulN hx hb dX4_points_92 ?_
        refine r_idivN hx hb (by omega) (by omega) (by omega) dX4_points_93 ?_
        refine lv_istore (lv' := [(7, .int (nI (c0 / (3 * (prN (cn z)))))), (6, .int (nI (1 + ((uT z u) % (cn z))))), (5, .int (nI (uS z u))), (4, .int (nI (prN (cn z)))), (3, .int (nI (cn z))), (0, .ref d), (1, .int (nI u)), (2, .int (nI c0))]) hx hb dX4_points_94 hl (by decide) rfl (fun ls hl => ?_)
        refine lv_iload_n hx hb dX4_points_96 rfl (lv_at hl 7 rfl) ?_
        refine lv_iconst (v := nI 3) hx hb dX4_points_97 (by decide) ?_
        refine lv_iload hx hb dX4_points_98 (lv_at hl 3 rfl) ?_
        refine r_imulN hx hb dX4_points_100 ?_
        refine r_iremN hx hb (by omega) (by omega) (by omega) dX4_points_101 ?_
        refine lv_istore (lv' := [(8, .int (nI (c0 % (3 * (prN (cn z)))))), (7, .int (nI (c0 / (3 * (prN (cn z)))))), (6, .int (nI (1 + ((uT z u) % (cn z))))), (5, .int (nI (uS z u))), (4, .int (nI (prN (cn z)))), (3, .int (nI (cn z))), (0, .ref d), (1, .int (nI u)), (2, .int (nI c0))]) hx hb dX4_points_102 hl (by decide) rfl (fun ls hl => ?_)
        refine lv_iload hx hb dX4_points_104 (lv_at hl 2 rfl) ?_
        refine lv_iconst (v := nI 1) hx hb dX4_points_106 (by decide) ?_
        refine r_isubN hx hb (by omega) dX4_points_107 ?_
        refine lv_iload hx hb dX4_points_108 (lv_at hl 1 rfl) ?_
        refine lv_iload hx hb dX4_points_110 (lv_at hl 4 rfl) ?_
        refine r_idivN hx hb (by omega) (by omega) (by omega) dX4_points_112 ?_
        refine r_iaddN hx hb dX4_points_113 ?_
        refine lv_iload_n hx hb dX4_points_114 rfl (lv_at hl 5 rfl) ?_
        refine r_iremN hx hb (by omega) (by omega) (by omega) dX4_points_115 ?_
        refine lv_iconst (v := nI 1) hx hb dX4_points_116 (by decide) ?_
        refine r_iaddN hx hb dX4_points_117 ?_
        refine r_top (y := nI (1 + ((((1 + ((uT z u) % (cn z))) - 1) + ((c0 / (3 * (prN (cn z)))) / (prN (cn z)))) % (cn z)))) (congrArg nI (Nat.add_comm _ _)) ?_
        refine lv_istore (lv' := [(9, .int (nI (1 + ((((1 + ((uT z u) % (cn z))) - 1) + ((c0 / (3 * (prN (cn z)))) / (prN (cn z)))) % (cn z))))), (8, .int (nI (c0 % (3 * (prN (cn z)))))), (7, .int (nI (c0 / (3 * (prN (cn z)))))), (6, .int (nI (1 + ((uT z u) % (cn z))))), (5, .int (nI (uS z u))), (4, .int (nI (prN (cn z)))), (3, .int (nI (cn z))), (0, .ref d), (1, .int (nI u)), (2, .int (nI c0))]) hx hb dX4_points_118 hl (by decide) rfl (fun ls hl => ?_)
        refine lv_iload hx hb dX4_points_120 (lv_at hl 1 rfl) ?_
        refine lv_iconst (v := nI 2) hx hb dX4_points_122 (by decide) ?_
        refine lv_iload hx hb dX4_points_123 (lv_at hl 5 rfl) ?_
        refine r_imulN hx hb dX4_points_125 ?_
        refine r_geN hx hb (by omega) (by omega) dX4_points_126 (tgt := 146) (by decide) (fun c4 => ?_) (fun c4 => ?_)
        · refine lv_iload hx hb dX4_points_146 (lv_at hl 0 rfl) ?_
          refine lv_iload_n hx hb dX4_points_148 rfl (lv_at hl 6 rfl) ?_
          refine r_iremN hx hb (by first | omega | exact Nat.lt_of_lt_of_le (Nat.mod_lt _ (by omega)) (by omega : prN (cn z) ≤ 2 ^ 31)) (by omega) (by omega) dX4_points_149 ?_
          exact r_retS (v := nI ((1 + ((((1 + ((uT z u) % (cn z))) - 1) + ((c0 / (3 * (prN (cn z)))) / (prN (cn z)))) % (cn z))) % (cn z))) hx hb hr hlocks (congrArg nI (show _ = aimN z u c0 by unfold aimN ptsN jsN; rw [if_pos (by omega), if_neg (by omega)])) dX4_points_150
        · refine lv_iload hx hb dX4_points_129 (lv_at hl 4 rfl) ?_
          refine lv_iload hx hb dX4_points_131 (lv_at hl 2 rfl) ?_
          refine r_iaddN hx hb dX4_points_133 ?_
          refine lv_iload hx hb dX4_points_134 (lv_at hl 1 rfl) ?_
          refine lv_iload hx hb dX4_points_136 (lv_at hl 0 rfl) ?_
          refine r_imulN hx hb dX4_points_138 ?_
          refine r_iaddN hx hb dX4_points_139 ?_
          refine lv_iload hx hb dX4_points_140 (lv_at hl 5 rfl) ?_
          refine r_iremN hx hb (by omega) (by omega) (by omega) dX4_points_142 ?_
          refine lv_goto (tgt := 148) hx hb dX4_points_143 (by decide) ?_
          refine lv_iload_n hx hb dX4_points_148 rfl (lv_at hl 6 rfl) ?_
          refine r_iremN hx hb (by first | omega | exact Nat.lt_of_lt_of_le (Nat.mod_lt _ (by omega)) (by omega : prN (cn z) ≤ 2 ^ 31)) (by omega) (by omega) dX4_points_149 ?_
          exact r_retS (v := nI (((((uS z u) + (c0 / (3 * (prN (cn z))))) + ((c0 % (3 * (prN (cn z)))) * (1 + ((((1 + ((uT z u) % (cn z))) - 1) + ((c0 / (3 * (prN (cn z)))) / (prN (cn z)))) % (cn z))))) % (prN (cn z))) % (cn z))) hx hb hr hlocks (congrArg nI (show _ = aimN z u c0 by unfold aimN ptsN jsN; rw [if_pos (by omega), if_pos c4])) dX4_points_150
      · refine lv_iload hx hb dX4_points_75 (lv_at hl 1 rfl) ?_
        refine lv_iload_n hx hb dX4_points_77 rfl (lv_at hl 6 rfl) ?_
        refine lv_iload hx hb dX4_points_78 (lv_at hl 0 rfl) ?_
        refine r_imulN hx hb dX4_points_80 ?_
        refine r_iaddN hx hb dX4_points_81 ?_
        refine lv_iload hx hb dX4_points_82 (lv_at hl 2 rfl) ?_
        refine r_iremN hx hb (by omega) (by omega) (by omega) dX4_points_84 ?_
        refine lv_iload_n hx hb dX4_points_85 rfl (lv_at hl 3 rfl) ?_
        refine r_iremN hx hb (Nat.lt_of_lt_of_le (Nat.mod_lt _ (by omega)) (by omega : prN (cn z) ≤ 2 ^ 31)) (by omega) (by omega) dX4_points_86 ?_
        exact r_retS (v := nI ((((uS z u) + (c0 * (1 + ((uT z u) % (cn z))))) % (prN (cn z))) % (cn z))) hx hb hr hlocks (congrArg nI (show _ = aimN z u c0 by unfold aimN ptsN; rw [if_neg (by omega), if_neg (by omega), if_neg (by omega)])) dX4_points_87
    · refine lv_iload hx hb dX4_points_60 (lv_at hl 1 rfl) ?_
      refine lv_iload_n hx hb dX4_points_62 rfl (lv_at hl 3 rfl) ?_
      refine r_iremN hx hb (by omega) (by omega) (by omega) dX4_points_63 ?_
      exact r_retS (v := nI ((uS z u) % (cn z))) hx hb hr hlocks (congrArg nI (show _ = aimN z u c0 by unfold aimN ptsN; rw [if_neg (by omega), if_neg (by omega), if_pos c2])) dX4_points_64
  · refine lv_iload hx hb dX4_points_43 (lv_at hl 1 rfl) ?_
    refine lv_iload_n hx hb dX4_points_45 rfl (lv_at hl 6 rfl) ?_
    refine r_iaddN hx hb dX4_points_46 ?_
    refine lv_iload_n hx hb dX4_points_47 rfl (lv_at hl 3 rfl) ?_
    refine r_iremN hx hb (by omega) (by omega) (by omega) dX4_points_48 ?_
    exact r_retS (v := nI (((uS z u) + c0) % (cn z))) hx hb hr hlocks (congrArg nI (show _ = aimN z u c0 by unfold aimN ptsN; rw [if_neg (by omega), if_pos c1])) dX4_points_49

set_option maxHeartbeats 4000000 in
set_option maxRecDepth 100000 in
/-- how many bits are set -/
theorem c_X4_ones (l : Launch) (G : va_G) (t : gT) (x : Nat) (hx0 : x < 1024) : Met l yX4_ones wsX4_ones ({ frames := 0, cells := 0, slots := 0, locals := 0 } : Room) (pc_ [.int (nI x)] (fun _ _ => True)) (vp_Si (fun r => r = nI (onesN x))) 0 0 (fun _ => False) := by
  refine Met.ofW (cc := cX4_ones) (maxL := 3) (ret := (some .int)) (by decide) rfl ?_
  intro p e s m args below meth c s₁ B hml hv
  obtain ⟨rfl, hB⟩ := hv
  have hx := B.exec
  have hb := B.bytes
  have hr := B.returns
  have hts := atoms_spec (ws := wsX4_ones) B.pre
  have hown : s.vm.findClass RX4 = some m.cls := findClass_of_methodNamed B.named
  have hlocks := B.notSynchronized
  have hl := lv_entry ([.int (nI x)]) (n := 3) (Nat.le_of_ble_eq_true rfl)
  rw [lg_entry_eq]
  generalize (lg_sl ([.int (nI x)]) ++ List.replicate (3 - (lg_sl ([.int (nI x)])).length) Slot.unset).toArray = ls at hl ⊢
  have hl : lv_has ls 3 [(0, .int (nI x))] := hl
  refine lv_iconst (v := nI 0) hx hb dX4_ones_0 (by decide) ?_
  refine lv_istore_n (lv' := [(1, .int (nI 0)), (0, .int (nI x))]) hx hb dX4_ones_1 rfl hl (by decide) rfl (fun ls hl => ?_)
  refine lv_iconst (v := nI 0) hx hb dX4_ones_2 (by decide) ?_
  refine lv_istore_n (lv' := [(2, .int (nI 0)), (1, .int (nI 0)), (0, .int (nI x))]) hx hb dX4_ones_3 rfl hl (by decide) rfl (fun ls hl => ?_)
  have loop4 : ∀ (fu : Nat) (k : Nat) (hk : k ≤ 10) (hfu : 10 - k < fu) (ls : Array Slot) (hl : lv_has ls 3 [(0, .int (nI x)), (1, .int (nI (onesF x k))), (2, .int (nI k))]), W p l e (headSpec wsX4_ones ({ frames := 0, cells := 0, slots := 0, locals := 0 } : Room)).room s m ([.int (nI x)] : List Value).toArray below meth c s.heap [] 0 0 (MQ below (vp_Si (fun r => r = nI (onesN x))) ([.int (nI x)] : List Value).toArray s 0 0 (fun _ => False)) (F0 m 4 ls []) := by
    intro fu
    induction fu with
    | zero => intro k hk hfu; exact absurd hfu (Nat.not_lt_zero _)
    | succ fu4 ih4 =>
      intro k hk hfu ls hl
      refine lv_iload_n hx hb dX4_ones_4 rfl (lv_at hl 2 rfl) ?_
      refine lv_bipush (v := nI 10) hx hb dX4_ones_5 (by decide) ?_
      refine r_geN hx hb (by omega) (by omega) dX4_ones_7 (tgt := 24) (by decide) (fun c1 => ?_) (fun c1 => ?_)
      · refine lv_iload_n hx hb dX4_ones_24 rfl (lv_at hl 1 rfl) ?_
        exact r_retS (v := nI (onesF x k)) hx hb hr hlocks (by rw [show k = 10 by omega]; rfl) dX4_ones_25
      · refine lv_iload_n hx hb dX4_ones_10 rfl (lv_at hl 1 rfl) ?_
        refine lv_iload_n hx hb dX4_ones_11 rfl (lv_at hl 0 rfl) ?_
        refine lv_iload_n hx hb dX4_ones_12 rfl (lv_at hl 2 rfl) ?_
        refine lv_ishr hx hb dX4_ones_13 ?_
        refine r_top (y := nI (x / 2 ^ k)) (i_shr (by omega) (by omega)) ?_
        refine lv_iconst (v := nI 1) hx hb dX4_ones_14 (by decide) ?_
        refine r_iandN hx hb dX4_ones_15 ?_
        refine r_top (y := nI (bt0 x k)) (congrArg nI (i_and1 _)) ?_
        refine r_iaddN hx hb dX4_ones_16 ?_
        refine lv_istore_n (lv' := [(1, .int (nI ((onesF x k) + (bt0 x k)))), (0, .int (nI x)), (2, .int (nI k))]) hx hb dX4_ones_17 rfl hl (by decide) rfl (fun ls hl => ?_)
        refine lv_iinc (v := nI (k + 1)) (lv' := [(2, .int (nI (k + 1))), (1, .int (nI ((onesF x k) + (bt0 x k)))), (0, .int (nI x))]) hx hb dX4_ones_18 hl (k := 2) rfl (nI_1 _) (by decide) rfl (fun ls hl => ?_)
        refine lv_goto (tgt := 4) hx hb dX4_ones_21 (by decide) ?_
        exact ih4 (k + 1) (by omega) (by omega) ls (lv_sub hl [2, 1, 0] rfl)
  exact loop4 _ 0 (Nat.zero_le _) (Nat.lt_succ_self _) ls (lv_sub hl [2, 1, 0] rfl)

set_option maxRecDepth 20000 in
theorem iiX4_lands_4 : ∀ w ∈ wsX40, w ∈ wsX4_lands := by decide +kernel
set_option maxHeartbeats 4000000 in
set_option maxRecDepth 100000 in
/-- where a user is by its clock -/
theorem c_X4_lands (l : Launch) (G : va_G) (t : gT) (d : Nat) (z : Nat → Int32) (hz : WF z) (u c0 : Nat) (hu : u < cu z) (hc : c0 ≤ 5000) : Met l yX4_lands wsX4_lands ({ frames := 2, cells := 0, slots := 0, locals := 51 } : Room) (pc_ [.ref d, .int (nI u), .int (nI c0)] (fun U H => KK G t U ∧ Mn G t d z H)) (vp_Si (fun r => r = plN z u c0)) 0 0 (fun _ => False) := by
  refine Met.ofW (cc := cX4_lands) (maxL := 7) (ret := (some .int)) (by decide) rfl ?_
  intro p e s m args below meth c s₁ B hml hv
  obtain ⟨rfl, hB⟩ := hv
  have hx := B.exec
  have hb := B.bytes
  have hr := B.returns
  have hts := atoms_spec (ws := wsX4_lands) B.pre
  have hown : s.vm.findClass RX4 = some m.cls := findClass_of_methodNamed B.named
  have hlocks := B.notSynchronized
  have hK := hB.1
  obtain ⟨bc, sl, lo, h0, h1⟩ := hB.2
  have hn := hz.n
  have hu5 := hz.u5
  have hs8 := hz.s8
  have hp := prN_in (cn z)
  have huf := hz.us hu
  have b1 := huf.1.2
  have b2 := huf.2.1.2
  have b3 := huf.2.2.1.2
  have b4 := huf.2.2.2.1.2
  have b5 := hz.o hu
  have b6 := hz.aim u c0
  have hl := lv_entry ([.ref d, .int (nI u), .int (nI c0)]) (n := 7) (Nat.le_of_ble_eq_true rfl)
  rw [lg_entry_eq]
  generalize (lg_sl ([.ref d, .int (nI u), .int (nI c0)]) ++ List.replicate (7 - (lg_sl ([.ref d, .int (nI u), .int (nI c0)])).length) Slot.unset).toArray = ls at hl ⊢
  have hl : lv_has ls 7 [(0, .ref d), (1, .int (nI u)), (2, .int (nI c0))] := hl
  refine lv_aload_n hx hb dX4_lands_0 rfl (lv_at hl 0 rfl) ?_
  refine lv_iload_n hx hb dX4_lands_1 rfl (lv_at hl 1 rfl) ?_
  refine lv_iconst (v := nI 4) hx hb dX4_lands_2 (by decide) ?_
  refine r_cV (av := [.int (nI u), .int (nI 4)]) (c_X4_of l G t d z hz u 4 (by omega) (by decide)) ⟨hx, hb, hml, hown, hts⟩ (cwV 2 hts gX4_lands_X4_of rfl rfl rfl (by decide +kernel) ⟨Nat.le_of_ble_eq_true rfl, Nat.le_of_ble_eq_true rfl⟩) mv_K hB (at_recv hK h0 rfl) rfl hl (Nat.le_of_ble_eq_true rfl) ⟨Nat.le_of_ble_eq_true rfl, Nat.le_of_ble_eq_true rfl⟩ rfl dX4_lands_3 (fun r1 hr1 => ?_)
  subst hr1
  refine r_top (y := nI (uO z u)) huf.2.2.2.2.1 ?_
  refine lv_istore_n (lv' := [(3, .int (nI (uO z u))), (0, .ref d), (1, .int (nI u)), (2, .int (nI c0))]) hx hb dX4_lands_6 rfl hl (by decide) rfl (fun ls hl => ?_)
  refine lv_aload_n hx hb dX4_lands_7 rfl (lv_at hl 1 rfl) ?_
  refine lv_iload_n hx hb dX4_lands_8 rfl (lv_at hl 2 rfl) ?_
  refine lv_iload_n hx hb dX4_lands_9 rfl (lv_at hl 3 rfl) ?_
  refine r_cV (av := [.int (nI u), .int (nI c0)]) (c_X4_points l G t d z hz u c0 hu hc) ⟨hx, hb, hml, hown, hts⟩ (cwV 2 hts gX4_lands_X4_points rfl rfl rfl (by decide +kernel) ⟨Nat.le_of_ble_eq_true rfl, Nat.le_of_ble_eq_true rfl⟩) mv_K hB (at_recv hK h0 rfl) rfl hl (Nat.le_of_ble_eq_true rfl) ⟨Nat.le_of_ble_eq_true rfl, Nat.le_of_ble_eq_true rfl⟩ rfl dX4_lands_10 (fun r2 hr2 => ?_)
  subst hr2
  refine lv_istore (lv' := [(4, .int (nI (aimN z u c0))), (3, .int (nI (uO z u))), (0, .ref d), (1, .int (nI u)), (2, .int (nI c0))]) hx hb dX4_lands_13 hl (by decide) rfl (fun ls hl => ?_)
  refine lv_iload_n hx hb dX4_lands_15 rfl (lv_at hl 1 rfl) ?_
  refine r_ifeqN hx hb (by omega) dX4_lands_16 (tgt := 29) (by decide) (fun c1 => ?_) (fun c1 => ?_)
  · refine lv_iload_n hx hb dX4_lands_29 rfl (lv_at hl 1 rfl) ?_
    refine r_ifneN hx hb (by omega) dX4_lands_30 (tgt := 37) (by decide) (fun c3 => absurd c1 c3) (fun _ => ?_)
    refine lv_iconst (v := (-1)) hx hb dX4_lands_33 (by decide) ?_
    refine lv_goto (tgt := 39) hx hb dX4_lands_34 (by decide) ?_
    exact r_retS (v := (-1)) hx hb hr hlocks (plN_0 c1).symm dX4_lands_39
  · refine lv_iload_n hx hb dX4_lands_19 rfl (lv_at hl 1 rfl) ?_
    refine lv_iload hx hb dX4_lands_20 (lv_at hl 0 rfl) ?_
    refine lv_ishr hx hb dX4_lands_22 ?_
    refine r_top (y := nI (uO z u / 2 ^ (aimN z u c0))) (i_shr (by omega) (by omega)) ?_
    refine lv_iconst (v := nI 1) hx hb dX4_lands_23 (by decide) ?_
    refine r_iandN hx hb dX4_lands_24 ?_
    refine r_top (y := nI (bt0 (uO z u) (aimN z u c0))) (congrArg nI (i_and1 _)) ?_
    refine lv_iconst (v := nI 1) hx hb dX4_lands_25 (by decide) ?_
    refine r_neN hx hb (Nat.lt_trans (bt0_lt _ _) (by decide)) (by decide) dX4_lands_26 (tgt := 40) (by decide) (fun c2 => ?_) (fun c2 => ?_)
    · refine lv_iload hx hb dX4_lands_40 (lv_at hl 0 rfl) ?_
      refine lv_iload_n hx hb dX4_lands_42 rfl (lv_at hl 1 rfl) ?_
      refine r_cS (av := [.int (nI (uO z u))]) (c_X4_ones l G t (uO z u) b5) ⟨hx, hb, hml, hown, hts⟩ (va_cwS 1 hts gX4_lands_X4_ones rfl rfl rfl (by decide +kernel) ⟨Nat.le_of_ble_eq_true rfl, Nat.le_of_ble_eq_true rfl⟩) mv_T trivial rfl hl (Nat.le_of_ble_eq_true rfl) ⟨Nat.le_of_ble_eq_true rfl, Nat.le_of_ble_eq_true rfl⟩ rfl dX4_lands_43 (fun r3 hr3 => ?_)
      subst hr3
      have b7 := ones_pos _ b5 (Nat.pos_of_ne_zero c1)
      have b8 := ones_le _ b5
      have b9 : aimN z u c0 % onesN (uO z u) < onesN (uO z u) := Nat.mod_lt _ b7
      refine r_iremN hx hb (by omega) (by omega) (by omega) dX4_lands_46 ?_
      refine lv_istore (lv' := [(5, .int (nI ((aimN z u c0) % (onesN (uO z u))))), (4, .int (nI (aimN z u c0))), (3, .int (nI (uO z u))), (0, .ref d), (1, .int (nI u)), (2, .int (nI c0))]) hx hb dX4_lands_47 hl (by decide) rfl (fun ls hl => ?_)
      refine lv_iconst (v := nI 0) hx hb dX4_lands_49 (by decide) ?_
      refine lv_istore (lv' := [(6, .int (nI 0)), (5, .int (nI ((aimN z u c0) % (onesN (uO z u))))), (4, .int (nI (aimN z u c0))), (3, .int (nI (uO z u))), (0, .ref d), (1, .int (nI u)), (2, .int (nI c0))]) hx hb dX4_lands_50 hl (by decide) rfl (fun ls hl => ?_)
      have loop52 : ∀ (fu : Nat) (k : Nat) (w : Nat) (hk : k ≤ 10) (hw : w ≤ 10) (hm : mwN (uO z u) (10 - k) k w = mwN (uO z u) 10 0 (aimN z u c0 % onesN (uO z u))) (hfu : 10 - k < fu) (ls : Array Slot) (hl : lv_has ls 7 [(3, .int (nI (uO z u))), (5, .int (nI w)), (6, .int (nI k))]), W p l e (headSpec wsX4_lands ({ frames := 2, cells := 0, slots := 0, locals := 51 } : Room)).room s m ([.ref d, .int (nI u), .int (nI c0)] : List Value).toArray below meth c s.heap [] 0 0 (MQ below (vp_Si (fun r => r = plN z u c0)) ([.ref d, .int (nI u), .int (nI c0)] : List Value).toArray s 0 0 (fun _ => False)) (F0 m 52 ls []) := by
        intro fu
        induction fu with
        | zero => intro k w hk hw hm hfu; exact absurd hfu (Nat.not_lt_zero _)
        | succ fu52 ih52 =>
          intro k w hk hw hm hfu ls hl
          have hk2 : k < 10 := by
            apply Decidable.byContradiction
            intro hq
            have q1 := mw_lt _ b5 _ b9
            rw [← hm, show 10 - k = 0 by omega] at q1
            simp [mwN] at q1
          refine lv_iload_n hx hb dX4_lands_52 rfl (lv_at hl 0 rfl) ?_
          refine lv_iload hx hb dX4_lands_53 (lv_at hl 2 rfl) ?_
          refine lv_ishr hx hb dX4_lands_55 ?_
          refine r_top (y := nI (uO z u / 2 ^ k)) (i_shr (by omega) (by omega)) ?_
          refine lv_iconst (v := nI 1) hx hb dX4_lands_56 (by decide) ?_
          refine r_iandN hx hb dX4_lands_57 ?_
          refine r_top (y := nI (bt0 (uO z u) k)) (congrArg nI (i_and1 _)) ?_
          refine r_ifeqN hx hb (Nat.lt_trans (bt0_lt _ _) (by decide)) dX4_lands_58 (tgt := 66) (by decide) (fun c4 => ?_) (fun c4 => ?_)
          · refine lv_iload hx hb dX4_lands_66 (lv_at hl 1 rfl) ?_
            refine lv_iload_n hx hb dX4_lands_68 rfl (lv_at hl 0 rfl) ?_
            refine lv_iload hx hb dX4_lands_69 (lv_at hl 2 rfl) ?_
            refine lv_ishr hx hb dX4_lands_71 ?_
            refine r_top (y := nI (uO z u / 2 ^ k)) (i_shr (by omega) (by omega)) ?_
            refine lv_iconst (v := nI 1) hx hb dX4_lands_72 (by decide) ?_
            refine r_iandN hx hb dX4_lands_73 ?_
            refine r_top (y := nI (bt0 (uO z u) k)) (congrArg nI (i_and1 _)) ?_
            refine r_isubN hx hb (by omega) dX4_lands_74 ?_
            refine r_top (y := nI w) (by first | rw [c4, Nat.sub_zero] | rw [hb1]) ?_
            refine lv_istore (lv' := [(5, .int (nI w)), (3, .int (nI (uO z u))), (6, .int (nI k))]) hx hb dX4_lands_75 hl (by decide) rfl (fun ls hl => ?_)
            refine lv_iinc (v := nI (k + 1)) (lv' := [(6, .int (nI (k + 1))), (5, .int (nI w)), (3, .int (nI (uO z u)))]) hx hb dX4_lands_77 hl (k := 2) rfl (nI_1 _) (by decide) rfl (fun ls hl => ?_)
            refine lv_goto (tgt := 52) hx hb dX4_lands_80 (by decide) ?_
            exact ih52 (k + 1) w (by omega) (by omega) ((mw_b _ k w hk2 (decide_eq_false (by rw [c4]; decide))).symm.trans hm) (by omega) ls (lv_sub hl [2, 1, 0] rfl)
          · have hb1 : bt0 (uO z u) k = 1 := by have := bt0_lt (uO z u) k; omega
            refine lv_iload hx hb dX4_lands_61 (lv_at hl 1 rfl) ?_
            refine r_ifleN hx hb (by omega) dX4_lands_63 (tgt := 83) (by decide) (fun c5 => ?_) (fun c5 => ?_)
            · refine lv_iload hx hb dX4_lands_83 (lv_at hl 2 rfl) ?_
              exact r_retS (v := nI k) hx hb hr hlocks (by rw [plN_1 c1, landN, if_neg c2, ← hm, mw_c _ k w hk2 (decide_eq_true hb1) c5]) dX4_lands_85
            · refine lv_iload hx hb dX4_lands_66 (lv_at hl 1 rfl) ?_
              refine lv_iload_n hx hb dX4_lands_68 rfl (lv_at hl 0 rfl) ?_
              refine lv_iload hx hb dX4_lands_69 (lv_at hl 2 rfl) ?_
              refine lv_ishr hx hb dX4_lands_71 ?_
              refine r_top (y := nI (uO z u / 2 ^ k)) (i_shr (by omega) (by omega)) ?_
              refine lv_iconst (v := nI 1) hx hb dX4_lands_72 (by decide) ?_
              refine r_iandN hx hb dX4_lands_73 ?_
              refine r_top (y := nI (bt0 (uO z u) k)) (congrArg nI (i_and1 _)) ?_
              refine r_isubN hx hb (by omega) dX4_lands_74 ?_
              refine r_top (y := nI (w - 1)) (by first | rw [c4, Nat.sub_zero] | rw [hb1]) ?_
              refine lv_istore (lv' := [(5, .int (nI (w - 1))), (3, .int (nI (uO z u))), (6, .int (nI k))]) hx hb dX4_lands_75 hl (by decide) rfl (fun ls hl => ?_)
              refine lv_iinc (v := nI (k + 1)) (lv' := [(6, .int (nI (k + 1))), (5, .int (nI (w - 1))), (3, .int (nI (uO z u)))]) hx hb dX4_lands_77 hl (k := 2) rfl (nI_1 _) (by decide) rfl (fun ls hl => ?_)
              refine lv_goto (tgt := 52) hx hb dX4_lands_80 (by decide) ?_
              exact ih52 (k + 1) (w - 1) (by omega) (by omega) ((mw_a _ k w hk2 (decide_eq_true hb1) c5).symm.trans hm) (by omega) ls (lv_sub hl [2, 1, 0] rfl)
      exact loop52 _ 0 (aimN z u c0 % onesN (uO z u)) (Nat.zero_le _) (by omega) rfl (Nat.lt_succ_self _) ls (lv_sub hl [3, 1, 0] rfl)
    · refine lv_iload_n hx hb dX4_lands_29 rfl (lv_at hl 1 rfl) ?_
      refine r_ifneN hx hb (by omega) dX4_lands_30 (tgt := 37) (by decide) (fun _ => ?_) (fun c3 => absurd c3 c1)
      refine lv_iload hx hb dX4_lands_37 (lv_at hl 0 rfl) ?_
      exact r_retS (v := nI (aimN z u c0)) hx hb hr hlocks ((plN_1 c1).trans (congrArg nI (if_pos c2))).symm dX4_lands_39

set_option maxRecDepth 20000 in
theorem iiX4_isShut_4 : ∀ w ∈ wsX40, w ∈ wsX4_isShut := by decide +kernel
set_option maxHeartbeats 4000000 in
set_option maxRecDepth 100000 in
/-- whether a channel is shut for a user at a slot -/
theorem c_X4_isShut (l : Launch) (G : va_G) (t : gT) (d : Nat) (z : Nat → Int32) (hz : WF z) (u y : Nat) (ch : Int32) (hu : u < cu z) (hy : y ≤ 5000) : Met l yX4_isShut wsX4_isShut ({ frames := 1, cells := 0, slots := 0, locals := 22 } : Room) (pc_ [.ref d, .int (nI u), .int ch, .int (nI y)] (fun U H => KK G t U ∧ Mn G t d z H)) (vp_Si (fun r => r = bI (shB z u ch y (cs z)))) 0 0 (fun _ => False) := by
  refine Met.ofW (cc := cX4_isShut) (maxL := 8) (ret := (some .boolean)) (by decide) rfl ?_
  intro p e s m args below meth c s₁ B hml hv
  obtain ⟨rfl, hB⟩ := hv
  have hx := B.exec
  have hb := B.bytes
  have hr := B.returns
  have hts := atoms_spec (ws := wsX4_isShut) B.pre
  have hown : s.vm.findClass RX4 = some m.cls := findClass_of_methodNamed B.named
  have hlocks := B.notSynchronized
  have hK := hB.1
  obtain ⟨bc, sl, lo, h0, h1⟩ := hB.2
  have hn := hz.n
  have hu5 := hz.u5
  have hs8 := hz.s8
  have hp := prN_in (cn z)
  have hl := lv_entry ([.ref d, .int (nI u), .int ch, .int (nI y)]) (n := 8) (Nat.le_of_ble_eq_true rfl)
  rw [lg_entry_eq]
  generalize (lg_sl ([.ref d, .int (nI u), .int ch, .int (nI y)]) ++ List.replicate (8 - (lg_sl ([.ref d, .int (nI u), .int ch, .int (nI y)])).length) Slot.unset).toArray = ls at hl ⊢
  have hl : lv_has ls 8 [(0, .ref d), (1, .int (nI u)), (2, .int ch), (3, .int (nI y))] := hl
  refine lv_iconst (v := nI 0) hx hb dX4_isShut_0 (by decide) ?_
  refine r_top (y := bI (shB z u ch y 0)) rfl ?_
  refine lv_istore (lv' := [(4, .int (bI (shB z u ch y 0))), (0, .ref d), (1, .int (nI u)), (2, .int ch), (3, .int (nI y))]) hx hb dX4_isShut_1 hl (by decide) rfl (fun ls hl => ?_)
  refine lv_iconst (v := nI 0) hx hb dX4_isShut_3 (by decide) ?_
  refine lv_istore (lv' := [(5, .int (nI 0)), (4, .int (bI (shB z u ch y 0))), (0, .ref d), (1, .int (nI u)), (2, .int ch), (3, .int (nI y))]) hx hb dX4_isShut_4 hl (by decide) rfl (fun ls hl => ?_)
  have loop6 : ∀ (fu : Nat) (j : Nat) (hj : j ≤ cs z) (hfu : cs z - j < fu) (ls : Array Slot) (hl : lv_has ls 8 [(0, .ref d), (1, .int (nI u)), (2, .int ch), (3, .int (nI y)), (4, .int (bI (shB z u ch y j))), (5, .int (nI j))]), W p l e (headSpec wsX4_isShut ({ frames := 1, cells := 0, slots := 0, locals := 22 } : Room)).room s m ([.ref d, .int (nI u), .int ch, .int (nI y)] : List Value).toArray below meth c s.heap [] 0 0 (MQ below (vp_Si (fun r => r = bI (shB z u ch y (cs z)))) ([.ref d, .int (nI u), .int ch, .int (nI y)] : List Value).toArray s 0 0 (fun _ => False)) (F0 m 6 ls []) := by
    intro fu
    induction fu with
    | zero => intro j hj hfu; exact absurd hfu (Nat.not_lt_zero _)
    | succ fu6 ih6 =>
      intro j hj hfu ls hl
      refine lv_iload hx hb dX4_isShut_6 (lv_at hl 5 rfl) ?_
      refine lv_aload_n hx hb dX4_isShut_8 rfl (lv_at hl 0 rfl) ?_
      refine r_get (C := RX4) (T := TX4) (N := 10) hx hb hts iiX4_isShut_4 hown hK h0 rfl 0 (by decide) (hts (.fieldLink RX4 7 "HopMeetModel" "now" "[I") (List.mem_of_getElem? (i := 1) rfl)) rfl dX4_isShut_9 ?_
      refine lv_iconst (v := nI 2) hx hb dX4_isShut_12 (by decide) ?_
      refine r_iald hx hb hK h1 rfl 2 (by omega) (by decide) (v := nI (cs z)) hz.2.2.1.1 dX4_isShut_13 ?_
      refine r_geN hx hb (by omega) (by omega) dX4_isShut_14 (tgt := 128) (by decide) (fun c1 => ?_) (fun c1 => ?_)
      · refine lv_iload hx hb dX4_isShut_128 (lv_at hl 4 rfl) ?_
        exact r_retZ (v := bI (shB z u ch y j)) hx hb hr hlocks (shB z u ch y j) rfl (by rw [show cs z = j by omega]) dX4_isShut_130
      · have hsf := hz.sp c1
        have hsl := hsf.2.2.1.2
        have hsm := hsf.2.2.2.2
        refine lv_bipush (v := nI 28) hx hb dX4_isShut_17 (by decide) ?_
        refine lv_iconst (v := nI 4) hx hb dX4_isShut_19 (by decide) ?_
        refine lv_iload hx hb dX4_isShut_20 (lv_at hl 5 rfl) ?_
        refine r_imulN hx hb dX4_isShut_22 ?_
        refine r_iaddN hx hb dX4_isShut_23 ?_
        refine lv_istore (lv' := [(6, .int (nI (28 + (4 * j)))), (0, .ref d), (1, .int (nI u)), (2, .int ch), (3, .int (nI y)), (4, .int (bI (shB z u ch y j))), (5, .int (nI j))]) hx hb dX4_isShut_24 hl (by decide) rfl (fun ls hl => ?_)
        refine lv_aload_n hx hb dX4_isShut_26 rfl (lv_at hl 1 rfl) ?_
        refine r_get (C := RX4) (T := TX4) (N := 10) hx hb hts iiX4_isShut_4 hown hK h0 rfl 0 (by decide) (hts (.fieldLink RX4 7 "HopMeetModel" "now" "[I") (List.mem_of_getElem? (i := 1) rfl)) rfl dX4_isShut_27 ?_
        refine lv_iload hx hb dX4_isShut_30 (lv_at hl 0 rfl) ?_
        refine r_iald hx hb hK h1 rfl (28 + (4 * j)) (by omega) (by decide) (v := sU z j) rfl dX4_isShut_32 ?_
        refine lv_iconst (v := (-1)) hx hb dX4_isShut_33 (by decide) ?_
        refine lv_icmp_eq (tgt := 48) hx hb dX4_isShut_34 (by decide) (fun c2 => ?_) (fun c2 => ?_)
        · refine lv_iconst (v := nI 1) hx hb dX4_isShut_48 (by decide) ?_
          refine lv_goto (tgt := 53) hx hb dX4_isShut_49 (by decide) ?_
          refine lv_istore (lv' := [(7, .int (nI 1)), (6, .int (nI (28 + (4 * j)))), (0, .ref d), (1, .int (nI u)), (2, .int ch), (3, .int (nI y)), (4, .int (bI (shB z u ch y j))), (5, .int (nI j))]) hx hb dX4_isShut_53 hl (by decide) rfl (fun ls hl => ?_)
          refine lv_iload hx hb dX4_isShut_55 (lv_at hl 6 rfl) ?_
          refine r_ifneB hx hb dX4_isShut_57 (tgt := 115) (by decide) (fun c4 => ?_) (fun c4 => ?_)
          · refine lv_iconst (v := nI 1) hx hb dX4_isShut_115 (by decide) ?_
            refine lv_goto (tgt := 120) hx hb dX4_isShut_116 (by decide) ?_
            refine r_top (y := bI (shB z u ch y (j + 1))) (by first | (rw [shB_mono c4 (Nat.le_succ _)]; rfl) | (rw [shB_yes (sh_yes hsf ⟨c5, by first | exact Or.inl c2 | exact Or.inr c3, by omega, by omega⟩)]; rfl)) ?_
            refine lv_istore (lv' := [(4, .int (bI (shB z u ch y (j + 1)))), (7, .int (nI 1)), (6, .int (nI (28 + (4 * j)))), (0, .ref d), (1, .int (nI u)), (2, .int ch), (3, .int (nI y)), (5, .int (nI j))]) hx hb dX4_isShut_120 hl (by decide) rfl (fun ls hl => ?_)
            refine lv_iinc (v := nI (j + 1)) (lv' := [(5, .int (nI (j + 1))), (4, .int (bI (shB z u ch y (j + 1)))), (7, .int (nI 1)), (6, .int (nI (28 + (4 * j)))), (0, .ref d), (1, .int (nI u)), (2, .int ch), (3, .int (nI y))]) hx hb dX4_isShut_122 hl (k := 7) rfl (nI_1 _) (by decide) rfl (fun ls hl => ?_)
            refine lv_goto (tgt := 6) hx hb dX4_isShut_125 (by decide) ?_
            exact ih6 (j + 1) c1 (by omega) ls (lv_sub hl [4, 5, 6, 7, 1, 0] rfl)
          · refine lv_iload hx hb dX4_isShut_60 (lv_at hl 0 rfl) ?_
            refine r_ifeqN hx hb (by omega) dX4_isShut_62 (tgt := 119) (by decide) (fun c1 => absurd c1 (by decide)) (fun _ => ?_)
            refine lv_aload_n hx hb dX4_isShut_65 rfl (lv_at hl 2 rfl) ?_
            refine r_get (C := RX4) (T := TX4) (N := 10) hx hb hts iiX4_isShut_4 hown hK h0 rfl 0 (by decide) (hts (.fieldLink RX4 7 "HopMeetModel" "now" "[I") (List.mem_of_getElem? (i := 1) rfl)) rfl dX4_isShut_66 ?_
            refine lv_iload hx hb dX4_isShut_69 (lv_at hl 1 rfl) ?_
            refine lv_iconst (v := nI 1) hx hb dX4_isShut_71 (by decide) ?_
            refine r_iaddN hx hb dX4_isShut_72 ?_
            refine r_iald hx hb hK h1 rfl ((28 + (4 * j)) + 1) (by omega) (by decide) (v := nI (sC z j)) hsf.2.1.1 dX4_isShut_73 ?_
            refine lv_iload_n hx hb dX4_isShut_74 rfl (lv_at hl 4 rfl) ?_
            refine lv_icmp_ne (tgt := 119) hx hb dX4_isShut_75 (by decide) (fun c5 => ?_) (fun c5 => ?_)
            · refine lv_iconst (v := nI 0) hx hb dX4_isShut_119 (by decide) ?_
              refine r_top (y := bI (shB z u ch y (j + 1))) (by rw [shB_no c4 (sh_no hsf (fun q => by obtain ⟨q1, q2, q3, q4⟩ := q; first | exact c5 q1 | (rcases q2 with q2 | q2; exact c2 q2; exact c3 q2) | omega))]; rfl) ?_
              refine lv_istore (lv' := [(4, .int (bI (shB z u ch y (j + 1)))), (7, .int (nI 1)), (6, .int (nI (28 + (4 * j)))), (0, .ref d), (1, .int (nI u)), (2, .int ch), (3, .int (nI y)), (5, .int (nI j))]) hx hb dX4_isShut_120 hl (by decide) rfl (fun ls hl => ?_)
              refine lv_iinc (v := nI (j + 1)) (lv' := [(5, .int (nI (j + 1))), (4, .int (bI (shB z u ch y (j + 1)))), (7, .int (nI 1)), (6, .int (nI (28 + (4 * j)))), (0, .ref d), (1, .int (nI u)), (2, .int ch), (3, .int (nI y))]) hx hb dX4_isShut_122 hl (k := 7) rfl (nI_1 _) (by decide) rfl (fun ls hl => ?_)
              refine lv_goto (tgt := 6) hx hb dX4_isShut_125 (by decide) ?_
              exact ih6 (j + 1) c1 (by omega) ls (lv_sub hl [4, 5, 6, 7, 1, 0] rfl)
            · refine lv_iload_n hx hb dX4_isShut_78 rfl (lv_at hl 5 rfl) ?_
              refine lv_aload_n hx hb dX4_isShut_79 rfl (lv_at hl 2 rfl) ?_
              refine r_get (C := RX4) (T := TX4) (N := 10) hx hb hts iiX4_isShut_4 hown hK h0 rfl 0 (by decide) (hts (.fieldLink RX4 7 "HopMeetModel" "now" "[I") (List.mem_of_getElem? (i := 1) rfl)) rfl dX4_isShut_80 ?_
              refine lv_iload hx hb dX4_isShut_83 (lv_at hl 1 rfl) ?_
              refine lv_iconst (v := nI 2) hx hb dX4_isShut_85 (by decide) ?_
              refine r_iaddN hx hb dX4_isShut_86 ?_
              refine r_iald hx hb hK h1 rfl ((28 + (4 * j)) + 2) (by omega) (by decide) (v := nI (sL z j)) hsf.2.2.1.1 dX4_isShut_87 ?_
              refine lv_aload_n hx hb dX4_isShut_88 rfl (lv_at hl 2 rfl) ?_
              refine r_get (C := RX4) (T := TX4) (N := 10) hx hb hts iiX4_isShut_4 hown hK h0 rfl 0 (by decide) (hts (.fieldLink RX4 7 "HopMeetModel" "now" "[I") (List.mem_of_getElem? (i := 1) rfl)) rfl dX4_isShut_89 ?_
              refine lv_iload hx hb dX4_isShut_92 (lv_at hl 1 rfl) ?_
              refine lv_iconst (v := nI 2) hx hb dX4_isShut_94 (by decide) ?_
              refine r_iaddN hx hb dX4_isShut_95 ?_
              refine r_iald hx hb hK h1 rfl ((28 + (4 * j)) + 2) (by omega) (by decide) (v := nI (sL z j)) hsf.2.2.1.1 dX4_isShut_96 ?_
              refine lv_aload_n hx hb dX4_isShut_97 rfl (lv_at hl 2 rfl) ?_
              refine r_get (C := RX4) (T := TX4) (N := 10) hx hb hts iiX4_isShut_4 hown hK h0 rfl 0 (by decide) (hts (.fieldLink RX4 7 "HopMeetModel" "now" "[I") (List.mem_of_getElem? (i := 1) rfl)) rfl dX4_isShut_98 ?_
              refine lv_iload hx hb dX4_isShut_101 (lv_at hl 1 rfl) ?_
              refine lv_iconst (v := nI 3) hx hb dX4_isShut_103 (by decide) ?_
              refine r_iaddN hx hb dX4_isShut_104 ?_
              refine r_iald hx hb hK h1 rfl ((28 + (4 * j)) + 3) (by omega) (by decide) (v := nI (sM z j)) hsf.2.2.2.1 dX4_isShut_105 ?_
              refine r_iaddN hx hb dX4_isShut_106 ?_
              refine lv_iconst (v := nI 1) hx hb dX4_isShut_107 (by decide) ?_
              refine r_isubN hx hb (by omega) dX4_isShut_108 ?_
              refine r_cS (av := [.int (nI y), .int (nI (sL z j)), .int (nI (((sL z j) + (sM z j)) - 1))]) (c_X4_in l G t (nI y) (nI (sL z j)) (nI (sL z j + sM z j - 1))) ⟨hx, hb, hml, hown, hts⟩ (va_cwS 3 hts gX4_isShut_X4_in rfl rfl rfl (by decide +kernel) ⟨Nat.le_of_ble_eq_true rfl, Nat.le_of_ble_eq_true rfl⟩) mv_T trivial rfl hl (Nat.le_of_ble_eq_true rfl) ⟨Nat.le_of_ble_eq_true rfl, Nat.le_of_ble_eq_true rfl⟩ rfl dX4_isShut_109 (fun r2 hr2 => ?_)
              subst hr2
              refine r_ifeqB hx hb dX4_isShut_112 (tgt := 119) (by decide) (fun c6 => ?_) (fun c6 => ?_)
              · rw [inB_N (by omega) (by omega) (by omega)] at c6
                have c7 := of_decide_eq_false c6
                refine lv_iconst (v := nI 0) hx hb dX4_isShut_119 (by decide) ?_
                refine r_top (y := bI (shB z u ch y (j + 1))) (by rw [shB_no c4 (sh_no hsf (fun q => by obtain ⟨q1, q2, q3, q4⟩ := q; first | exact c5 q1 | (rcases q2 with q2 | q2; exact c2 q2; exact c3 q2) | omega))]; rfl) ?_
                refine lv_istore (lv' := [(4, .int (bI (shB z u ch y (j + 1)))), (7, .int (nI 1)), (6, .int (nI (28 + (4 * j)))), (0, .ref d), (1, .int (nI u)), (2, .int ch), (3, .int (nI y)), (5, .int (nI j))]) hx hb dX4_isShut_120 hl (by decide) rfl (fun ls hl => ?_)
                refine lv_iinc (v := nI (j + 1)) (lv' := [(5, .int (nI (j + 1))), (4, .int (bI (shB z u ch y (j + 1)))), (7, .int (nI 1)), (6, .int (nI (28 + (4 * j)))), (0, .ref d), (1, .int (nI u)), (2, .int ch), (3, .int (nI y))]) hx hb dX4_isShut_122 hl (k := 7) rfl (nI_1 _) (by decide) rfl (fun ls hl => ?_)
                refine lv_goto (tgt := 6) hx hb dX4_isShut_125 (by decide) ?_
                exact ih6 (j + 1) c1 (by omega) ls (lv_sub hl [4, 5, 6, 7, 1, 0] rfl)
              · rw [inB_N (by omega) (by omega) (by omega)] at c6
                have c7 := of_decide_eq_true c6
                refine lv_iconst (v := nI 1) hx hb dX4_isShut_115 (by decide) ?_
                refine lv_goto (tgt := 120) hx hb dX4_isShut_116 (by decide) ?_
                refine r_top (y := bI (shB z u ch y (j + 1))) (by first | (rw [shB_mono c4 (Nat.le_succ _)]; rfl) | (rw [shB_yes (sh_yes hsf ⟨c5, by first | exact Or.inl c2 | exact Or.inr c3, by omega, by omega⟩)]; rfl)) ?_
                refine lv_istore (lv' := [(4, .int (bI (shB z u ch y (j + 1)))), (7, .int (nI 1)), (6, .int (nI (28 + (4 * j)))), (0, .ref d), (1, .int (nI u)), (2, .int ch), (3, .int (nI y)), (5, .int (nI j))]) hx hb dX4_isShut_120 hl (by decide) rfl (fun ls hl => ?_)
                refine lv_iinc (v := nI (j + 1)) (lv' := [(5, .int (nI (j + 1))), (4, .int (bI (shB z u ch y (j + 1)))), (7, .int (nI 1)), (6, .int (nI (28 + (4 * j)))), (0, .ref d), (1, .int (nI u)), (2, .int ch), (3, .int (nI y))]) hx hb dX4_isShut_122 hl (k := 7) rfl (nI_1 _) (by decide) rfl (fun ls hl => ?_)
                refine lv_goto (tgt := 6) hx hb dX4_isShut_125 (by decide) ?_
                exact ih6 (j + 1) c1 (by omega) ls (lv_sub hl [4, 5, 6, 7, 1, 0] rfl)
        · refine lv_aload_n hx hb dX4_isShut_37 rfl (lv_at hl 1 rfl) ?_
          refine r_get (C := RX4) (T := TX4) (N := 10) hx hb hts iiX4_isShut_4 hown hK h0 rfl 0 (by decide) (hts (.fieldLink RX4 7 "HopMeetModel" "now" "[I") (List.mem_of_getElem? (i := 1) rfl)) rfl dX4_isShut_38 ?_
          refine lv_iload hx hb dX4_isShut_41 (lv_at hl 0 rfl) ?_
          refine r_iald hx hb hK h1 rfl (28 + (4 * j)) (by omega) (by decide) (v := sU z j) rfl dX4_isShut_43 ?_
          refine lv_iload_n hx hb dX4_isShut_44 rfl (lv_at hl 2 rfl) ?_
          refine lv_icmp_ne (tgt := 52) hx hb dX4_isShut_45 (by decide) (fun c3 => ?_) (fun c3 => ?_)
          · refine lv_iconst (v := nI 0) hx hb dX4_isShut_52 (by decide) ?_
            refine lv_istore (lv' := [(7, .int (nI 0)), (6, .int (nI (28 + (4 * j)))), (0, .ref d), (1, .int (nI u)), (2, .int ch), (3, .int (nI y)), (4, .int (bI (shB z u ch y j))), (5, .int (nI j))]) hx hb dX4_isShut_53 hl (by decide) rfl (fun ls hl => ?_)
            refine lv_iload hx hb dX4_isShut_55 (lv_at hl 6 rfl) ?_
            refine r_ifneB hx hb dX4_isShut_57 (tgt := 115) (by decide) (fun c4 => ?_) (fun c4 => ?_)
            · refine lv_iconst (v := nI 1) hx hb dX4_isShut_115 (by decide) ?_
              refine lv_goto (tgt := 120) hx hb dX4_isShut_116 (by decide) ?_
              refine r_top (y := bI (shB z u ch y (j + 1))) (by first | (rw [shB_mono c4 (Nat.le_succ _)]; rfl) | (rw [shB_yes (sh_yes hsf ⟨c5, by first | exact Or.inl c2 | exact Or.inr c3, by omega, by omega⟩)]; rfl)) ?_
              refine lv_istore (lv' := [(4, .int (bI (shB z u ch y (j + 1)))), (7, .int (nI 0)), (6, .int (nI (28 + (4 * j)))), (0, .ref d), (1, .int (nI u)), (2, .int ch), (3, .int (nI y)), (5, .int (nI j))]) hx hb dX4_isShut_120 hl (by decide) rfl (fun ls hl => ?_)
              refine lv_iinc (v := nI (j + 1)) (lv' := [(5, .int (nI (j + 1))), (4, .int (bI (shB z u ch y (j + 1)))), (7, .int (nI 0)), (6, .int (nI (28 + (4 * j)))), (0, .ref d), (1, .int (nI u)), (2, .int ch), (3, .int (nI y))]) hx hb dX4_isShut_122 hl (k := 7) rfl (nI_1 _) (by decide) rfl (fun ls hl => ?_)
              refine lv_goto (tgt := 6) hx hb dX4_isShut_125 (by decide) ?_
              exact ih6 (j + 1) c1 (by omega) ls (lv_sub hl [4, 5, 6, 7, 1, 0] rfl)
            · refine lv_iload hx hb dX4_isShut_60 (lv_at hl 0 rfl) ?_
              refine r_ifeqN hx hb (by omega) dX4_isShut_62 (tgt := 119) (by decide) (fun _ => ?_) (fun c3 => absurd c3 (by decide))
              refine lv_iconst (v := nI 0) hx hb dX4_isShut_119 (by decide) ?_
              refine r_top (y := bI (shB z u ch y (j + 1))) (by rw [shB_no c4 (sh_no hsf (fun q => by obtain ⟨q1, q2, q3, q4⟩ := q; first | exact c5 q1 | (rcases q2 with q2 | q2; exact c2 q2; exact c3 q2) | omega))]; rfl) ?_
              refine lv_istore (lv' := [(4, .int (bI (shB z u ch y (j + 1)))), (7, .int (nI 0)), (6, .int (nI (28 + (4 * j)))), (0, .ref d), (1, .int (nI u)), (2, .int ch), (3, .int (nI y)), (5, .int (nI j))]) hx hb dX4_isShut_120 hl (by decide) rfl (fun ls hl => ?_)
              refine lv_iinc (v := nI (j + 1)) (lv' := [(5, .int (nI (j + 1))), (4, .int (bI (shB z u ch y (j + 1)))), (7, .int (nI 0)), (6, .int (nI (28 + (4 * j)))), (0, .ref d), (1, .int (nI u)), (2, .int ch), (3, .int (nI y))]) hx hb dX4_isShut_122 hl (k := 7) rfl (nI_1 _) (by decide) rfl (fun ls hl => ?_)
              refine lv_goto (tgt := 6) hx hb dX4_isShut_125 (by decide) ?_
              exact ih6 (j + 1) c1 (by omega) ls (lv_sub hl [4, 5, 6, 7, 1, 0] rfl)
          · refine lv_iconst (v := nI 1) hx hb dX4_isShut_48 (by decide) ?_
            refine lv_goto (tgt := 53) hx hb dX4_isShut_49 (by decide) ?_
            refine lv_istore (lv' := [(7, .int (nI 1)), (6, .int (nI (28 + (4 * j)))), (0, .ref d), (1, .int (nI u)), (2, .int ch), (3, .int (nI y)), (4, .int (bI (shB z u ch y j))), (5, .int (nI j))]) hx hb dX4_isShut_53 hl (by decide) rfl (fun ls hl => ?_)
            refine lv_iload hx hb dX4_isShut_55 (lv_at hl 6 rfl) ?_
            refine r_ifneB hx hb dX4_isShut_57 (tgt := 115) (by decide) (fun c4 => ?_) (fun c4 => ?_)
            · refine lv_iconst (v := nI 1) hx hb dX4_isShut_115 (by decide) ?_
              refine lv_goto (tgt := 120) hx hb dX4_isShut_116 (by decide) ?_
              refine r_top (y := bI (shB z u ch y (j + 1))) (by first | (rw [shB_mono c4 (Nat.le_succ _)]; rfl) | (rw [shB_yes (sh_yes hsf ⟨c5, by first | exact Or.inl c2 | exact Or.inr c3, by omega, by omega⟩)]; rfl)) ?_
              refine lv_istore (lv' := [(4, .int (bI (shB z u ch y (j + 1)))), (7, .int (nI 1)), (6, .int (nI (28 + (4 * j)))), (0, .ref d), (1, .int (nI u)), (2, .int ch), (3, .int (nI y)), (5, .int (nI j))]) hx hb dX4_isShut_120 hl (by decide) rfl (fun ls hl => ?_)
              refine lv_iinc (v := nI (j + 1)) (lv' := [(5, .int (nI (j + 1))), (4, .int (bI (shB z u ch y (j + 1)))), (7, .int (nI 1)), (6, .int (nI (28 + (4 * j)))), (0, .ref d), (1, .int (nI u)), (2, .int ch), (3, .int (nI y))]) hx hb dX4_isShut_122 hl (k := 7) rfl (nI_1 _) (by decide) rfl (fun ls hl => ?_)
              refine lv_goto (tgt := 6) hx hb dX4_isShut_125 (by decide) ?_
              exact ih6 (j + 1) c1 (by omega) ls (lv_sub hl [4, 5, 6, 7, 1, 0] rfl)
            · refine lv_iload hx hb dX4_isShut_60 (lv_at hl 0 rfl) ?_
              refine r_ifeqN hx hb (by omega) dX4_isShut_62 (tgt := 119) (by decide) (fun c4 => absurd c4 (by decide)) (fun _ => ?_)
              refine lv_aload_n hx hb dX4_isShut_65 rfl (lv_at hl 2 rfl) ?_
              refine r_get (C := RX4) (T := TX4) (N := 10) hx hb hts iiX4_isShut_4 hown hK h0 rfl 0 (by decide) (hts (.fieldLink RX4 7 "HopMeetModel" "now" "[I") (List.mem_of_getElem? (i := 1) rfl)) rfl dX4_isShut_66 ?_
              refine lv_iload hx hb dX4_isShut_69 (lv_at hl 1 rfl) ?_
              refine lv_iconst (v := nI 1) hx hb dX4_isShut_71 (by decide) ?_
              refine r_iaddN hx hb dX4_isShut_72 ?_
              refine r_iald hx hb hK h1 rfl ((28 + (4 * j)) + 1) (by omega) (by decide) (v := nI (sC z j)) hsf.2.1.1 dX4_isShut_73 ?_
              refine lv_iload_n hx hb dX4_isShut_74 rfl (lv_at hl 4 rfl) ?_
              refine lv_icmp_ne (tgt := 119) hx hb dX4_isShut_75 (by decide) (fun c5 => ?_) (fun c5 => ?_)
              · refine lv_iconst (v := nI 0) hx hb dX4_isShut_119 (by decide) ?_
                refine r_top (y := bI (shB z u ch y (j + 1))) (by rw [shB_no c4 (sh_no hsf (fun q => by obtain ⟨q1, q2, q3, q4⟩ := q; first | exact c5 q1 | (rcases q2 with q2 | q2; exact c2 q2; exact c3 q2) | omega))]; rfl) ?_
                refine lv_istore (lv' := [(4, .int (bI (shB z u ch y (j + 1)))), (7, .int (nI 1)), (6, .int (nI (28 + (4 * j)))), (0, .ref d), (1, .int (nI u)), (2, .int ch), (3, .int (nI y)), (5, .int (nI j))]) hx hb dX4_isShut_120 hl (by decide) rfl (fun ls hl => ?_)
                refine lv_iinc (v := nI (j + 1)) (lv' := [(5, .int (nI (j + 1))), (4, .int (bI (shB z u ch y (j + 1)))), (7, .int (nI 1)), (6, .int (nI (28 + (4 * j)))), (0, .ref d), (1, .int (nI u)), (2, .int ch), (3, .int (nI y))]) hx hb dX4_isShut_122 hl (k := 7) rfl (nI_1 _) (by decide) rfl (fun ls hl => ?_)
                refine lv_goto (tgt := 6) hx hb dX4_isShut_125 (by decide) ?_
                exact ih6 (j + 1) c1 (by omega) ls (lv_sub hl [4, 5, 6, 7, 1, 0] rfl)
              · refine lv_iload_n hx hb dX4_isShut_78 rfl (lv_at hl 5 rfl) ?_
                refine lv_aload_n hx hb dX4_isShut_79 rfl (lv_at hl 2 rfl) ?_
                refine r_get (C := RX4) (T := TX4) (N := 10) hx hb hts iiX4_isShut_4 hown hK h0 rfl 0 (by decide) (hts (.fieldLink RX4 7 "HopMeetModel" "now" "[I") (List.mem_of_getElem? (i := 1) rfl)) rfl dX4_isShut_80 ?_
                refine lv_iload hx hb dX4_isShut_83 (lv_at hl 1 rfl) ?_
                refine lv_iconst (v := nI 2) hx hb dX4_isShut_85 (by decide) ?_
                refine r_iaddN hx hb dX4_isShut_86 ?_
                refine r_iald hx hb hK h1 rfl ((28 + (4 * j)) + 2) (by omega) (by decide) (v := nI (sL z j)) hsf.2.2.1.1 dX4_isShut_87 ?_
                refine lv_aload_n hx hb dX4_isShut_88 rfl (lv_at hl 2 rfl) ?_
                refine r_get (C := RX4) (T := TX4) (N := 10) hx hb hts iiX4_isShut_4 hown hK h0 rfl 0 (by decide) (hts (.fieldLink RX4 7 "HopMeetModel" "now" "[I") (List.mem_of_getElem? (i := 1) rfl)) rfl dX4_isShut_89 ?_
                refine lv_iload hx hb dX4_isShut_92 (lv_at hl 1 rfl) ?_
                refine lv_iconst (v := nI 2) hx hb dX4_isShut_94 (by decide) ?_
                refine r_iaddN hx hb dX4_isShut_95 ?_
                refine r_iald hx hb hK h1 rfl ((28 + (4 * j)) + 2) (by omega) (by decide) (v := nI (sL z j)) hsf.2.2.1.1 dX4_isShut_96 ?_
                refine lv_aload_n hx hb dX4_isShut_97 rfl (lv_at hl 2 rfl) ?_
                refine r_get (C := RX4) (T := TX4) (N := 10) hx hb hts iiX4_isShut_4 hown hK h0 rfl 0 (by decide) (hts (.fieldLink RX4 7 "HopMeetModel" "now" "[I") (List.mem_of_getElem? (i := 1) rfl)) rfl dX4_isShut_98 ?_
                refine lv_iload hx hb dX4_isShut_101 (lv_at hl 1 rfl) ?_
                refine lv_iconst (v := nI 3) hx hb dX4_isShut_103 (by decide) ?_
                refine r_iaddN hx hb dX4_isShut_104 ?_
                refine r_iald hx hb hK h1 rfl ((28 + (4 * j)) + 3) (by omega) (by decide) (v := nI (sM z j)) hsf.2.2.2.1 dX4_isShut_105 ?_
                refine r_iaddN hx hb dX4_isShut_106 ?_
                refine lv_iconst (v := nI 1) hx hb dX4_isShut_107 (by decide) ?_
                refine r_isubN hx hb (by omega) dX4_isShut_108 ?_
                refine r_cS (av := [.int (nI y), .int (nI (sL z j)), .int (nI (((sL z j) + (sM z j)) - 1))]) (c_X4_in l G t (nI y) (nI (sL z j)) (nI (sL z j + sM z j - 1))) ⟨hx, hb, hml, hown, hts⟩ (va_cwS 3 hts gX4_isShut_X4_in rfl rfl rfl (by decide +kernel) ⟨Nat.le_of_ble_eq_true rfl, Nat.le_of_ble_eq_true rfl⟩) mv_T trivial rfl hl (Nat.le_of_ble_eq_true rfl) ⟨Nat.le_of_ble_eq_true rfl, Nat.le_of_ble_eq_true rfl⟩ rfl dX4_isShut_109 (fun r5 hr5 => ?_)
                subst hr5
                refine r_ifeqB hx hb dX4_isShut_112 (tgt := 119) (by decide) (fun c6 => ?_) (fun c6 => ?_)
                · rw [inB_N (by omega) (by omega) (by omega)] at c6
                  have c7 := of_decide_eq_false c6
                  refine lv_iconst (v := nI 0) hx hb dX4_isShut_119 (by decide) ?_
                  refine r_top (y := bI (shB z u ch y (j + 1))) (by rw [shB_no c4 (sh_no hsf (fun q => by obtain ⟨q1, q2, q3, q4⟩ := q; first | exact c5 q1 | (rcases q2 with q2 | q2; exact c2 q2; exact c3 q2) | omega))]; rfl) ?_
                  refine lv_istore (lv' := [(4, .int (bI (shB z u ch y (j + 1)))), (7, .int (nI 1)), (6, .int (nI (28 + (4 * j)))), (0, .ref d), (1, .int (nI u)), (2, .int ch), (3, .int (nI y)), (5, .int (nI j))]) hx hb dX4_isShut_120 hl (by decide) rfl (fun ls hl => ?_)
                  refine lv_iinc (v := nI (j + 1)) (lv' := [(5, .int (nI (j + 1))), (4, .int (bI (shB z u ch y (j + 1)))), (7, .int (nI 1)), (6, .int (nI (28 + (4 * j)))), (0, .ref d), (1, .int (nI u)), (2, .int ch), (3, .int (nI y))]) hx hb dX4_isShut_122 hl (k := 7) rfl (nI_1 _) (by decide) rfl (fun ls hl => ?_)
                  refine lv_goto (tgt := 6) hx hb dX4_isShut_125 (by decide) ?_
                  exact ih6 (j + 1) c1 (by omega) ls (lv_sub hl [4, 5, 6, 7, 1, 0] rfl)
                · rw [inB_N (by omega) (by omega) (by omega)] at c6
                  have c7 := of_decide_eq_true c6
                  refine lv_iconst (v := nI 1) hx hb dX4_isShut_115 (by decide) ?_
                  refine lv_goto (tgt := 120) hx hb dX4_isShut_116 (by decide) ?_
                  refine r_top (y := bI (shB z u ch y (j + 1))) (by first | (rw [shB_mono c4 (Nat.le_succ _)]; rfl) | (rw [shB_yes (sh_yes hsf ⟨c5, by first | exact Or.inl c2 | exact Or.inr c3, by omega, by omega⟩)]; rfl)) ?_
                  refine lv_istore (lv' := [(4, .int (bI (shB z u ch y (j + 1)))), (7, .int (nI 1)), (6, .int (nI (28 + (4 * j)))), (0, .ref d), (1, .int (nI u)), (2, .int ch), (3, .int (nI y)), (5, .int (nI j))]) hx hb dX4_isShut_120 hl (by decide) rfl (fun ls hl => ?_)
                  refine lv_iinc (v := nI (j + 1)) (lv' := [(5, .int (nI (j + 1))), (4, .int (bI (shB z u ch y (j + 1)))), (7, .int (nI 1)), (6, .int (nI (28 + (4 * j)))), (0, .ref d), (1, .int (nI u)), (2, .int ch), (3, .int (nI y))]) hx hb dX4_isShut_122 hl (k := 7) rfl (nI_1 _) (by decide) rfl (fun ls hl => ?_)
                  refine lv_goto (tgt := 6) hx hb dX4_isShut_125 (by decide) ?_
                  exact ih6 (j + 1) c1 (by omega) ls (lv_sub hl [4, 5, 6, 7, 1, 0] rfl)
  exact loop6 _ 0 (Nat.zero_le _) (Nat.lt_succ_self _) ls (lv_sub hl [2, 3, 4, 5, 1, 0] rfl)

set_option maxRecDepth 20000 in
theorem iiX4_whyNot_4 : ∀ w ∈ wsX40, w ∈ wsX4_whyNot := by decide +kernel
set_option maxHeartbeats 4000000 in
set_option maxRecDepth 100000 in
/-- why a user is nowhere -/
theorem c_X4_whyNot (l : Launch) (G : va_G) (t : gT) (d : Nat) (z : Nat → Int32) (hz : WF z) (u y : Nat) (hu : u < cu z) (hy : y ≤ 5000) : Met l yX4_whyNot wsX4_whyNot ({ frames := 3, cells := 0, slots := 0, locals := 77 } : Room) (pc_ [.ref d, .int (nI u), .int (nI y)] (fun U H => KK G t U ∧ Mn G t d z H)) (vp_Si (fun r => r = whC z u y)) 0 0 (fun _ => False) := by
  refine Met.ofW (cc := cX4_whyNot) (maxL := 4) (ret := (some .int)) (by decide) rfl ?_
  intro p e s m args below meth c s₁ B hml hv
  obtain ⟨rfl, hB⟩ := hv
  have hx := B.exec
  have hb := B.bytes
  have hr := B.returns
  have hts := atoms_spec (ws := wsX4_whyNot) B.pre
  have hown : s.vm.findClass RX4 = some m.cls := findClass_of_methodNamed B.named
  have hlocks := B.notSynchronized
  have hK := hB.1
  obtain ⟨bc, sl, lo, h0, h1⟩ := hB.2
  have hn := hz.n
  have hu5 := hz.u5
  have hs8 := hz.s8
  have hp := prN_in (cn z)
  have huf := hz.us hu
  have b1 := huf.1.2
  have b2 := huf.2.1.2
  have b3 := huf.2.2.1.2
  have b4 := huf.2.2.2.1.2
  have b5 := hz.o hu
  have hl := lv_entry ([.ref d, .int (nI u), .int (nI y)]) (n := 4) (Nat.le_of_ble_eq_true rfl)
  rw [lg_entry_eq]
  generalize (lg_sl ([.ref d, .int (nI u), .int (nI y)]) ++ List.replicate (4 - (lg_sl ([.ref d, .int (nI u), .int (nI y)])).length) Slot.unset).toArray = ls at hl ⊢
  have hl : lv_has ls 4 [(0, .ref d), (1, .int (nI u)), (2, .int (nI y))] := hl
  refine lv_iload_n hx hb dX4_whyNot_0 rfl (lv_at hl 2 rfl) ?_
  refine lv_aload_n hx hb dX4_whyNot_1 rfl (lv_at hl 0 rfl) ?_
  refine lv_iload_n hx hb dX4_whyNot_2 rfl (lv_at hl 1 rfl) ?_
  refine lv_iconst (v := nI 3) hx hb dX4_whyNot_3 (by decide) ?_
  refine r_cV (av := [.int (nI u), .int (nI 3)]) (c_X4_of l G t d z hz u 3 (by omega) (by decide)) ⟨hx, hb, hml, hown, hts⟩ (cwV 2 hts gX4_whyNot_X4_of rfl rfl rfl (by decide +kernel) ⟨Nat.le_of_ble_eq_true rfl, Nat.le_of_ble_eq_true rfl⟩) mv_K hB (at_recv hK h0 rfl) rfl hl (Nat.le_of_ble_eq_true rfl) ⟨Nat.le_of_ble_eq_true rfl, Nat.le_of_ble_eq_true rfl⟩ rfl dX4_whyNot_4 (fun r1 hr1 => ?_)
  subst hr1
  refine r_top (y := nI (uW z u)) huf.2.2.2.1.1 ?_
  rcases Nat.lt_or_ge y (uW z u) with hw | hw
  · refine lv_isub hx hb dX4_whyNot_7 ?_
    refine lv_istore_n (lv' := [(3, .int ((nI y) - (nI (uW z u)))), (0, .ref d), (1, .int (nI u)), (2, .int (nI y))]) hx hb dX4_whyNot_8 rfl hl (by decide) rfl (fun ls hl => ?_)
    refine lv_iload_n hx hb dX4_whyNot_9 rfl (lv_at hl 0 rfl) ?_
    refine lv_if_ge (tgt := 15) hx hb dX4_whyNot_10 (by decide) (fun c1 => ?_) (fun c1 => ?_)
    · exact (i_neg_ge (pk_sneg (by omega) hw) c1).elim
    · refine lv_iconst (v := nI 1) hx hb dX4_whyNot_13 (by decide) ?_
      exact r_retS (v := nI 1) hx hb hr hlocks (whC_w hw).symm dX4_whyNot_14
  · refine r_isubN hx hb hw dX4_whyNot_7 ?_
    refine lv_istore_n (lv' := [(3, .int (nI (y - (uW z u)))), (0, .ref d), (1, .int (nI u)), (2, .int (nI y))]) hx hb dX4_whyNot_8 rfl hl (by decide) rfl (fun ls hl => ?_)
    refine lv_iload_n hx hb dX4_whyNot_9 rfl (lv_at hl 0 rfl) ?_
    refine lv_if_ge (tgt := 15) hx hb dX4_whyNot_10 (by decide) (fun _ => ?_) (fun c1 => absurd (nI_pos' (by omega)) c1)
    refine lv_aload_n hx hb dX4_whyNot_15 rfl (lv_at hl 1 rfl) ?_
    refine lv_iload_n hx hb dX4_whyNot_16 rfl (lv_at hl 2 rfl) ?_
    refine lv_iconst (v := nI 4) hx hb dX4_whyNot_17 (by decide) ?_
    refine r_cV (av := [.int (nI u), .int (nI 4)]) (c_X4_of l G t d z hz u 4 (by omega) (by decide)) ⟨hx, hb, hml, hown, hts⟩ (cwV 2 hts gX4_whyNot_X4_of rfl rfl rfl (by decide +kernel) ⟨Nat.le_of_ble_eq_true rfl, Nat.le_of_ble_eq_true rfl⟩) mv_K hB (at_recv hK h0 rfl) rfl hl (Nat.le_of_ble_eq_true rfl) ⟨Nat.le_of_ble_eq_true rfl, Nat.le_of_ble_eq_true rfl⟩ rfl dX4_whyNot_18 (fun r2 hr2 => ?_)
    subst hr2
    refine r_top (y := nI (uO z u)) huf.2.2.2.2.1 ?_
    refine r_ifneN hx hb (by omega) dX4_whyNot_21 (tgt := 28) (by decide) (fun c2 => ?_) (fun c2 => ?_)
    · refine lv_aload_n hx hb dX4_whyNot_28 rfl (lv_at hl 1 rfl) ?_
      refine lv_iload_n hx hb dX4_whyNot_29 rfl (lv_at hl 2 rfl) ?_
      refine lv_aload_n hx hb dX4_whyNot_30 rfl (lv_at hl 1 rfl) ?_
      refine lv_iload_n hx hb dX4_whyNot_31 rfl (lv_at hl 2 rfl) ?_
      refine lv_iload_n hx hb dX4_whyNot_32 rfl (lv_at hl 0 rfl) ?_
      refine r_cV (av := [.int (nI u), .int (nI (y - (uW z u)))]) (c_X4_lands l G t d z hz u (y - uW z u) hu (by omega)) ⟨hx, hb, hml, hown, hts⟩ (cwV 2 hts gX4_whyNot_X4_lands rfl rfl rfl (by decide +kernel) ⟨Nat.le_of_ble_eq_true rfl, Nat.le_of_ble_eq_true rfl⟩) mv_K hB (at_recv hK h0 rfl) rfl hl (Nat.le_of_ble_eq_true rfl) ⟨Nat.le_of_ble_eq_true rfl, Nat.le_of_ble_eq_true rfl⟩ rfl dX4_whyNot_33 (fun r3 hr3 => ?_)
      subst hr3
      refine lv_iload_n hx hb dX4_whyNot_36 rfl (lv_at hl 3 rfl) ?_
      refine r_cV (av := [.int (nI u), .int (plN z u (y - uW z u)), .int (nI y)]) (c_X4_isShut l G t d z hz u y (plN z u (y - uW z u)) hu hy) ⟨hx, hb, hml, hown, hts⟩ (cwV 3 hts gX4_whyNot_X4_isShut rfl rfl rfl (by decide +kernel) ⟨Nat.le_of_ble_eq_true rfl, Nat.le_of_ble_eq_true rfl⟩) mv_K hB (at_recv hK h0 rfl) rfl hl (Nat.le_of_ble_eq_true rfl) ⟨Nat.le_of_ble_eq_true rfl, Nat.le_of_ble_eq_true rfl⟩ rfl dX4_whyNot_37 (fun r4 hr4 => ?_)
      subst hr4
      refine r_ifeqB hx hb dX4_whyNot_40 (tgt := 47) (by decide) (fun c3 => ?_) (fun c3 => ?_)
      · refine lv_iconst (v := nI 0) hx hb dX4_whyNot_47 (by decide) ?_
        exact r_retS (v := nI 0) hx hb hr hlocks (whC_2 hw c2 c3).symm dX4_whyNot_48
      · refine lv_iconst (v := nI 3) hx hb dX4_whyNot_43 (by decide) ?_
        refine lv_goto (tgt := 48) hx hb dX4_whyNot_44 (by decide) ?_
        exact r_retS (v := nI 3) hx hb hr hlocks (whC_1 hw c2 c3).symm dX4_whyNot_48
    · refine lv_iconst (v := nI 2) hx hb dX4_whyNot_24 (by decide) ?_
      refine lv_goto (tgt := 48) hx hb dX4_whyNot_25 (by decide) ?_
      exact r_retS (v := nI 2) hx hb hr hlocks (whC_0 hw c2).symm dX4_whyNot_48

set_option maxRecDepth 20000 in
theorem iiX4_place_4 : ∀ w ∈ wsX40, w ∈ wsX4_place := by decide +kernel
set_option maxHeartbeats 4000000 in
set_option maxRecDepth 100000 in
/-- where a user is at a slot -/
theorem c_X4_place (l : Launch) (G : va_G) (t : gT) (d : Nat) (z : Nat → Int32) (hz : WF z) (u y : Nat) (hu : u < cu z) (hy : y ≤ 5000) : Met l yX4_place wsX4_place ({ frames := 4, cells := 0, slots := 0, locals := 100 } : Room) (pc_ [.ref d, .int (nI u), .int (nI y)] (fun U H => KK G t U ∧ Mn G t d z H)) (vp_Si (fun r => r = plC z u y)) 0 0 (fun _ => False) := by
  refine Met.ofW (cc := cX4_place) (maxL := 3) (ret := (some .int)) (by decide) rfl ?_
  intro p e s m args below meth c s₁ B hml hv
  obtain ⟨rfl, hB⟩ := hv
  have hx := B.exec
  have hb := B.bytes
  have hr := B.returns
  have hts := atoms_spec (ws := wsX4_place) B.pre
  have hown : s.vm.findClass RX4 = some m.cls := findClass_of_methodNamed B.named
  have hlocks := B.notSynchronized
  have hK := hB.1
  obtain ⟨bc, sl, lo, h0, h1⟩ := hB.2
  have hn := hz.n
  have hu5 := hz.u5
  have hs8 := hz.s8
  have hp := prN_in (cn z)
  have huf := hz.us hu
  have b1 := huf.1.2
  have b2 := huf.2.1.2
  have b3 := huf.2.2.1.2
  have b4 := huf.2.2.2.1.2
  have b5 := hz.o hu
  have hl := lv_entry ([.ref d, .int (nI u), .int (nI y)]) (n := 3) (Nat.le_of_ble_eq_true rfl)
  rw [lg_entry_eq]
  generalize (lg_sl ([.ref d, .int (nI u), .int (nI y)]) ++ List.replicate (3 - (lg_sl ([.ref d, .int (nI u), .int (nI y)])).length) Slot.unset).toArray = ls at hl ⊢
  have hl : lv_has ls 3 [(0, .ref d), (1, .int (nI u)), (2, .int (nI y))] := hl
  refine lv_aload_n hx hb dX4_place_0 rfl (lv_at hl 0 rfl) ?_
  refine lv_iload_n hx hb dX4_place_1 rfl (lv_at hl 1 rfl) ?_
  refine lv_iload_n hx hb dX4_place_2 rfl (lv_at hl 2 rfl) ?_
  refine r_cV (av := [.int (nI u), .int (nI y)]) (c_X4_whyNot l G t d z hz u y hu hy) ⟨hx, hb, hml, hown, hts⟩ (cwV 2 hts gX4_place_X4_whyNot rfl rfl rfl (by decide +kernel) ⟨Nat.le_of_ble_eq_true rfl, Nat.le_of_ble_eq_true rfl⟩) mv_K hB (at_recv hK h0 rfl) rfl hl (Nat.le_of_ble_eq_true rfl) ⟨Nat.le_of_ble_eq_true rfl, Nat.le_of_ble_eq_true rfl⟩ rfl dX4_place_3 (fun r1 hr1 => ?_)
  subst hr1
  refine lv_if_ne (tgt := 25) hx hb dX4_place_6 (by decide) (fun c1 => ?_) (fun c1 => ?_)
  · refine lv_iconst (v := (-1)) hx hb dX4_place_25 (by decide) ?_
    exact r_retS (v := (-1)) hx hb hr hlocks (whC_nz c1).symm dX4_place_26
  · obtain ⟨hw, w2, w3⟩ := whC_z c1
    refine lv_aload_n hx hb dX4_place_9 rfl (lv_at hl 0 rfl) ?_
    refine lv_iload_n hx hb dX4_place_10 rfl (lv_at hl 1 rfl) ?_
    refine lv_iload_n hx hb dX4_place_11 rfl (lv_at hl 2 rfl) ?_
    refine lv_aload_n hx hb dX4_place_12 rfl (lv_at hl 0 rfl) ?_
    refine lv_iload_n hx hb dX4_place_13 rfl (lv_at hl 1 rfl) ?_
    refine lv_iconst (v := nI 3) hx hb dX4_place_14 (by decide) ?_
    refine r_cV (av := [.int (nI u), .int (nI 3)]) (c_X4_of l G t d z hz u 3 (by omega) (by decide)) ⟨hx, hb, hml, hown, hts⟩ (cwV 2 hts gX4_place_X4_of rfl rfl rfl (by decide +kernel) ⟨Nat.le_of_ble_eq_true rfl, Nat.le_of_ble_eq_true rfl⟩) mv_K hB (at_recv hK h0 rfl) rfl hl (Nat.le_of_ble_eq_true rfl) ⟨Nat.le_of_ble_eq_true rfl, Nat.le_of_ble_eq_true rfl⟩ rfl dX4_place_15 (fun r2 hr2 => ?_)
    subst hr2
    refine r_top (y := nI (uW z u)) huf.2.2.2.1.1 ?_
    refine r_isubN hx hb hw dX4_place_18 ?_
    refine r_cV (av := [.int (nI u), .int (nI (y - (uW z u)))]) (c_X4_lands l G t d z hz u (y - uW z u) hu (by omega)) ⟨hx, hb, hml, hown, hts⟩ (cwV 2 hts gX4_place_X4_lands rfl rfl rfl (by decide +kernel) ⟨Nat.le_of_ble_eq_true rfl, Nat.le_of_ble_eq_true rfl⟩) mv_K hB (at_recv hK h0 rfl) rfl hl (Nat.le_of_ble_eq_true rfl) ⟨Nat.le_of_ble_eq_true rfl, Nat.le_of_ble_eq_true rfl⟩ rfl dX4_place_19 (fun r3 hr3 => ?_)
    subst hr3
    refine lv_goto (tgt := 26) hx hb dX4_place_22 (by decide) ?_
    exact r_retS (v := plN z u (y - uW z u)) hx hb hr hlocks (plC_2 hw w3).symm dX4_place_26

set_option maxRecDepth 20000 in
theorem iiX4_isMet_4 : ∀ w ∈ wsX40, w ∈ wsX4_isMet := by decide +kernel
set_option maxHeartbeats 4000000 in
set_option maxRecDepth 100000 in
/-- whether two meet in a slot -/
theorem c_X4_isMet (l : Launch) (G : va_G) (t : gT) (d : Nat) (z : Nat → Int32) (hz : WF z) (u v y : Nat) (hu : u < cu z) (hv0 : v < cu z) (hy : y ≤ 5000) : Met l yX4_isMet wsX4_isMet ({ frames := 5, cells := 0, slots := 0, locals := 122 } : Room) (pc_ [.ref d, .int (nI u), .int (nI v), .int (nI y)] (fun U H => KK G t U ∧ Mn G t d z H)) (vp_Si (fun r => r = bI (meB z u v y))) 0 0 (fun _ => False) := by
  refine Met.ofW (cc := cX4_isMet) (maxL := 5) (ret := (some .boolean)) (by decide) rfl ?_
  intro p e s m args below meth c s₁ B hml hv
  obtain ⟨rfl, hB⟩ := hv
  have hx := B.exec
  have hb := B.bytes
  have hr := B.returns
  have hts := atoms_spec (ws := wsX4_isMet) B.pre
  have hown : s.vm.findClass RX4 = some m.cls := findClass_of_methodNamed B.named
  have hlocks := B.notSynchronized
  have hK := hB.1
  obtain ⟨bc, sl, lo, h0, h1⟩ := hB.2
  have hn := hz.n
  have hu5 := hz.u5
  have hs8 := hz.s8
  have hp := prN_in (cn z)
  have hl := lv_entry ([.ref d, .int (nI u), .int (nI v), .int (nI y)]) (n := 5) (Nat.le_of_ble_eq_true rfl)
  rw [lg_entry_eq]
  generalize (lg_sl ([.ref d, .int (nI u), .int (nI v), .int (nI y)]) ++ List.replicate (5 - (lg_sl ([.ref d, .int (nI u), .int (nI v), .int (nI y)])).length) Slot.unset).toArray = ls at hl ⊢
  have hl : lv_has ls 5 [(0, .ref d), (1, .int (nI u)), (2, .int (nI v)), (3, .int (nI y))] := hl
  refine lv_aload_n hx hb dX4_isMet_0 rfl (lv_at hl 0 rfl) ?_
  refine lv_iload_n hx hb dX4_isMet_1 rfl (lv_at hl 1 rfl) ?_
  refine lv_iload_n hx hb dX4_isMet_2 rfl (lv_at hl 3 rfl) ?_
  refine r_cV (av := [.int (nI u), .int (nI y)]) (c_X4_place l G t d z hz u y hu hy) ⟨hx, hb, hml, hown, hts⟩ (cwV 2 hts gX4_isMet_X4_place rfl rfl rfl (by decide +kernel) ⟨Nat.le_of_ble_eq_true rfl, Nat.le_of_ble_eq_true rfl⟩) mv_K hB (at_recv hK h0 rfl) rfl hl (Nat.le_of_ble_eq_true rfl) ⟨Nat.le_of_ble_eq_true rfl, Nat.le_of_ble_eq_true rfl⟩ rfl dX4_isMet_3 (fun r1 hr1 => ?_)
  subst hr1
  refine lv_istore (lv' := [(4, .int (plC z u y)), (0, .ref d), (1, .int (nI u)), (2, .int (nI v)), (3, .int (nI y))]) hx hb dX4_isMet_6 hl (by decide) rfl (fun ls hl => ?_)
  refine lv_iload hx hb dX4_isMet_8 (lv_at hl 0 rfl) ?_
  refine lv_iconst (v := (-1)) hx hb dX4_isMet_10 (by decide) ?_
  refine lv_icmp_eq (tgt := 29) hx hb dX4_isMet_11 (by decide) (fun c1 => ?_) (fun c1 => ?_)
  · refine lv_iconst (v := nI 0) hx hb dX4_isMet_29 (by decide) ?_
    exact r_retZ (v := nI 0) hx hb hr hlocks false rfl (by rw [show meB z u v y = false from decide_eq_false (fun q => by first | exact q.1 c1 | exact c2 q.2)]; rfl) dX4_isMet_30
  · refine lv_iload hx hb dX4_isMet_14 (lv_at hl 0 rfl) ?_
    refine lv_aload_n hx hb dX4_isMet_16 rfl (lv_at hl 1 rfl) ?_
    refine lv_iload_n hx hb dX4_isMet_17 rfl (lv_at hl 3 rfl) ?_
    refine lv_iload_n hx hb dX4_isMet_18 rfl (lv_at hl 4 rfl) ?_
    refine r_cV (av := [.int (nI v), .int (nI y)]) (c_X4_place l G t d z hz v y hv0 hy) ⟨hx, hb, hml, hown, hts⟩ (cwV 2 hts gX4_isMet_X4_place rfl rfl rfl (by decide +kernel) ⟨Nat.le_of_ble_eq_true rfl, Nat.le_of_ble_eq_true rfl⟩) mv_K hB (at_recv hK h0 rfl) rfl hl (Nat.le_of_ble_eq_true rfl) ⟨Nat.le_of_ble_eq_true rfl, Nat.le_of_ble_eq_true rfl⟩ rfl dX4_isMet_19 (fun r2 hr2 => ?_)
    subst hr2
    refine lv_icmp_ne (tgt := 29) hx hb dX4_isMet_22 (by decide) (fun c2 => ?_) (fun c2 => ?_)
    · refine lv_iconst (v := nI 0) hx hb dX4_isMet_29 (by decide) ?_
      exact r_retZ (v := nI 0) hx hb hr hlocks false rfl (by rw [show meB z u v y = false from decide_eq_false (fun q => by first | exact q.1 c1 | exact c2 q.2)]; rfl) dX4_isMet_30
    · refine lv_iconst (v := nI 1) hx hb dX4_isMet_25 (by decide) ?_
      refine lv_goto (tgt := 30) hx hb dX4_isMet_26 (by decide) ?_
      exact r_retZ (v := nI 1) hx hb hr hlocks true rfl (by rw [show meB z u v y = true from decide_eq_true ⟨c1, c2⟩]; rfl) dX4_isMet_30

set_option maxRecDepth 20000 in
theorem iiX4_isUser_4 : ∀ w ∈ wsX40, w ∈ wsX4_isUser := by decide +kernel
set_option maxHeartbeats 4000000 in
set_option maxRecDepth 100000 in
/-- whether there is such a user -/
theorem c_X4_isUser (l : Launch) (G : va_G) (t : gT) (d : Nat) (z : Nat → Int32) (hz : WF z) (u : Int32) : Met l yX4_isUser wsX4_isUser ({ frames := 1, cells := 0, slots := 0, locals := 22 } : Room) (pc_ [.ref d, .int u] (fun U H => KK G t U ∧ Mn G t d z H)) (vp_Si (fun r => r = bI (usB z u))) 0 0 (fun _ => False) := by
  refine Met.ofW (cc := cX4_isUser) (maxL := 2) (ret := (some .boolean)) (by decide) rfl ?_
  intro p e s m args below meth c s₁ B hml hv
  obtain ⟨rfl, hB⟩ := hv
  have hx := B.exec
  have hb := B.bytes
  have hr := B.returns
  have hts := atoms_spec (ws := wsX4_isUser) B.pre
  have hown : s.vm.findClass RX4 = some m.cls := findClass_of_methodNamed B.named
  have hlocks := B.notSynchronized
  have hK := hB.1
  obtain ⟨bc, sl, lo, h0, h1⟩ := hB.2
  have hn := hz.n
  have hu5 := hz.u5
  have hs8 := hz.s8
  have hp := prN_in (cn z)
  have hl := lv_entry ([.ref d, .int u]) (n := 2) (Nat.le_of_ble_eq_true rfl)
  rw [lg_entry_eq]
  generalize (lg_sl ([.ref d, .int u]) ++ List.replicate (2 - (lg_sl ([.ref d, .int u])).length) Slot.unset).toArray = ls at hl ⊢
  have hl : lv_has ls 2 [(0, .ref d), (1, .int u)] := hl
  refine lv_iload_n hx hb dX4_isUser_0 rfl (lv_at hl 1 rfl) ?_
  refine lv_iconst (v := nI 0) hx hb dX4_isUser_1 (by decide) ?_
  refine lv_aload_n hx hb dX4_isUser_2 rfl (lv_at hl 0 rfl) ?_
  refine r_get (C := RX4) (T := TX4) (N := 10) hx hb hts iiX4_isUser_4 hown hK h0 rfl 0 (by decide) (hts (.fieldLink RX4 7 "HopMeetModel" "now" "[I") (List.mem_of_getElem? (i := 1) rfl)) rfl dX4_isUser_3 ?_
  refine lv_iconst (v := nI 1) hx hb dX4_isUser_6 (by decide) ?_
  refine r_iald hx hb hK h1 rfl 1 (by omega) (by decide) (v := nI (cu z)) hz.2.1.1 dX4_isUser_7 ?_
  refine lv_iconst (v := nI 1) hx hb dX4_isUser_8 (by decide) ?_
  refine lv_isub hx hb dX4_isUser_9 ?_
  refine r_cS (av := [.int u, .int (nI 0), .int ((nI (cu z)) - (nI 1))]) (c_X4_in l G t u (nI 0) (nI (cu z) - nI 1)) ⟨hx, hb, hml, hown, hts⟩ (va_cwS 3 hts gX4_isUser_X4_in rfl rfl rfl (by decide +kernel) ⟨Nat.le_of_ble_eq_true rfl, Nat.le_of_ble_eq_true rfl⟩) mv_T trivial rfl hl (Nat.le_of_ble_eq_true rfl) ⟨Nat.le_of_ble_eq_true rfl, Nat.le_of_ble_eq_true rfl⟩ rfl dX4_isUser_10 (fun r1 hr1 => ?_)
  subst hr1
  exact r_retZ (v := bI (inB u (nI 0) (nI (cu z) - nI 1))) hx hb hr hlocks (inB u (nI 0) (nI (cu z) - nI 1)) rfl (by rw [usB_in hz]) dX4_isUser_13

set_option maxRecDepth 20000 in
theorem iiX4_areTwo_4 : ∀ w ∈ wsX40, w ∈ wsX4_areTwo := by decide +kernel
set_option maxHeartbeats 4000000 in
set_option maxRecDepth 100000 in
/-- whether there are two such users -/
theorem c_X4_areTwo (l : Launch) (G : va_G) (t : gT) (d : Nat) (z : Nat → Int32) (hz : WF z) (u v : Int32) : Met l yX4_areTwo wsX4_areTwo ({ frames := 2, cells := 0, slots := 0, locals := 43 } : Room) (pc_ [.ref d, .int u, .int v] (fun U H => KK G t U ∧ Mn G t d z H)) (vp_Si (fun r => r = bI (twB z u v))) 0 0 (fun _ => False) := by
  refine Met.ofW (cc := cX4_areTwo) (maxL := 3) (ret := (some .boolean)) (by decide) rfl ?_
  intro p e s m args below meth c s₁ B hml hv
  obtain ⟨rfl, hB⟩ := hv
  have hx := B.exec
  have hb := B.bytes
  have hr := B.returns
  have hts := atoms_spec (ws := wsX4_areTwo) B.pre
  have hown : s.vm.findClass RX4 = some m.cls := findClass_of_methodNamed B.named
  have hlocks := B.notSynchronized
  have hK := hB.1
  obtain ⟨bc, sl, lo, h0, h1⟩ := hB.2
  have hn := hz.n
  have hu5 := hz.u5
  have hs8 := hz.s8
  have hp := prN_in (cn z)
  have hl := lv_entry ([.ref d, .int u, .int v]) (n := 3) (Nat.le_of_ble_eq_true rfl)
  rw [lg_entry_eq]
  generalize (lg_sl ([.ref d, .int u, .int v]) ++ List.replicate (3 - (lg_sl ([.ref d, .int u, .int v])).length) Slot.unset).toArray = ls at hl ⊢
  have hl : lv_has ls 3 [(0, .ref d), (1, .int u), (2, .int v)] := hl
  refine lv_aload_n hx hb dX4_areTwo_0 rfl (lv_at hl 0 rfl) ?_
  refine lv_iload_n hx hb dX4_areTwo_1 rfl (lv_at hl 1 rfl) ?_
  refine r_cV (av := [.int u]) (c_X4_isUser l G t d z hz u) ⟨hx, hb, hml, hown, hts⟩ (cwV 1 hts gX4_areTwo_X4_isUser rfl rfl rfl (by decide +kernel) ⟨Nat.le_of_ble_eq_true rfl, Nat.le_of_ble_eq_true rfl⟩) mv_K hB (at_recv hK h0 rfl) rfl hl (Nat.le_of_ble_eq_true rfl) ⟨Nat.le_of_ble_eq_true rfl, Nat.le_of_ble_eq_true rfl⟩ rfl dX4_areTwo_2 (fun r1 hr1 => ?_)
  subst hr1
  refine r_ifeqB hx hb dX4_areTwo_5 (tgt := 25) (by decide) (fun c1 => ?_) (fun c1 => ?_)
  · refine lv_iconst (v := nI 0) hx hb dX4_areTwo_25 (by decide) ?_
    exact r_retZ (v := nI 0) hx hb hr hlocks false rfl (by first | (rw [tw_n1 c1]; rfl) | (rw [tw_n2 c2]; rfl) | (rw [tw_n3 c3]; rfl)) dX4_areTwo_26
  · refine lv_aload_n hx hb dX4_areTwo_8 rfl (lv_at hl 0 rfl) ?_
    refine lv_iload_n hx hb dX4_areTwo_9 rfl (lv_at hl 2 rfl) ?_
    refine r_cV (av := [.int v]) (c_X4_isUser l G t d z hz v) ⟨hx, hb, hml, hown, hts⟩ (cwV 1 hts gX4_areTwo_X4_isUser rfl rfl rfl (by decide +kernel) ⟨Nat.le_of_ble_eq_true rfl, Nat.le_of_ble_eq_true rfl⟩) mv_K hB (at_recv hK h0 rfl) rfl hl (Nat.le_of_ble_eq_true rfl) ⟨Nat.le_of_ble_eq_true rfl, Nat.le_of_ble_eq_true rfl⟩ rfl dX4_areTwo_10 (fun r2 hr2 => ?_)
    subst hr2
    refine r_ifeqB hx hb dX4_areTwo_13 (tgt := 25) (by decide) (fun c2 => ?_) (fun c2 => ?_)
    · refine lv_iconst (v := nI 0) hx hb dX4_areTwo_25 (by decide) ?_
      exact r_retZ (v := nI 0) hx hb hr hlocks false rfl (by first | (rw [tw_n1 c1]; rfl) | (rw [tw_n2 c2]; rfl) | (rw [tw_n3 c3]; rfl)) dX4_areTwo_26
    · refine lv_iload_n hx hb dX4_areTwo_16 rfl (lv_at hl 1 rfl) ?_
      refine lv_iload_n hx hb dX4_areTwo_17 rfl (lv_at hl 2 rfl) ?_
      refine lv_icmp_eq (tgt := 25) hx hb dX4_areTwo_18 (by decide) (fun c3 => ?_) (fun c3 => ?_)
      · refine lv_iconst (v := nI 0) hx hb dX4_areTwo_25 (by decide) ?_
        exact r_retZ (v := nI 0) hx hb hr hlocks false rfl (by first | (rw [tw_n1 c1]; rfl) | (rw [tw_n2 c2]; rfl) | (rw [tw_n3 c3]; rfl)) dX4_areTwo_26
      · refine lv_iconst (v := nI 1) hx hb dX4_areTwo_21 (by decide) ?_
        refine lv_goto (tgt := 26) hx hb dX4_areTwo_22 (by decide) ?_
        exact r_retZ (v := nI 1) hx hb hr hlocks true rfl (by rw [tw_y c1 c2 c3]; rfl) dX4_areTwo_26

set_option maxRecDepth 20000 in
theorem iiX4_common_4 : ∀ w ∈ wsX40, w ∈ wsX4_common := by decide +kernel
set_option maxHeartbeats 4000000 in
set_option maxRecDepth 100000 in
/-- the channels that are open to all -/
theorem c_X4_common (l : Launch) (G : va_G) (t : gT) (d : Nat) (z : Nat → Int32) (hz : WF z) : Met l yX4_common wsX4_common ({ frames := 1, cells := 0, slots := 0, locals := 22 } : Room) (pc_ [.ref d] (fun U H => KK G t U ∧ Mn G t d z H)) (vp_Si (fun r => r = nI (comN z (cu z)))) 0 0 (fun _ => False) := by
  refine Met.ofW (cc := cX4_common) (maxL := 3) (ret := (some .int)) (by decide) rfl ?_
  intro p e s m args below meth c s₁ B hml hv
  obtain ⟨rfl, hB⟩ := hv
  have hx := B.exec
  have hb := B.bytes
  have hr := B.returns
  have hts := atoms_spec (ws := wsX4_common) B.pre
  have hown : s.vm.findClass RX4 = some m.cls := findClass_of_methodNamed B.named
  have hlocks := B.notSynchronized
  have hK := hB.1
  obtain ⟨bc, sl, lo, h0, h1⟩ := hB.2
  have hn := hz.n
  have hu5 := hz.u5
  have hs8 := hz.s8
  have hp := prN_in (cn z)
  have hl := lv_entry ([.ref d]) (n := 3) (Nat.le_of_ble_eq_true rfl)
  rw [lg_entry_eq]
  generalize (lg_sl ([.ref d]) ++ List.replicate (3 - (lg_sl ([.ref d])).length) Slot.unset).toArray = ls at hl ⊢
  have hl : lv_has ls 3 [(0, .ref d)] := hl
  refine lv_aload_n hx hb dX4_common_0 rfl (lv_at hl 0 rfl) ?_
  refine r_cV (av := []) (c_X4_all l G t d z hz) ⟨hx, hb, hml, hown, hts⟩ (cwV 0 hts gX4_common_X4_all rfl rfl rfl (by decide +kernel) ⟨Nat.le_of_ble_eq_true rfl, Nat.le_of_ble_eq_true rfl⟩) mv_K hB (at_recv hK h0 rfl) rfl hl (Nat.le_of_ble_eq_true rfl) ⟨Nat.le_of_ble_eq_true rfl, Nat.le_of_ble_eq_true rfl⟩ rfl dX4_common_1 (fun r1 hr1 => ?_)
  subst hr1
  refine lv_istore_n (lv' := [(1, .int (nI (2 ^ cn z - 1))), (0, .ref d)]) hx hb dX4_common_4 rfl hl (by decide) rfl (fun ls hl => ?_)
  refine lv_iconst (v := nI 0) hx hb dX4_common_5 (by decide) ?_
  refine lv_istore_n (lv' := [(2, .int (nI 0)), (1, .int (nI (2 ^ cn z - 1))), (0, .ref d)]) hx hb dX4_common_6 rfl hl (by decide) rfl (fun ls hl => ?_)
  have loop7 : ∀ (fu : Nat) (j : Nat) (hj : j ≤ cu z) (hfu : cu z - j < fu) (ls : Array Slot) (hl : lv_has ls 3 [(0, .ref d), (1, .int (nI (comN z j))), (2, .int (nI j))]), W p l e (headSpec wsX4_common ({ frames := 1, cells := 0, slots := 0, locals := 22 } : Room)).room s m ([.ref d] : List Value).toArray below meth c s.heap [] 0 0 (MQ below (vp_Si (fun r => r = nI (comN z (cu z)))) ([.ref d] : List Value).toArray s 0 0 (fun _ => False)) (F0 m 7 ls []) := by
    intro fu
    induction fu with
    | zero => intro j hj hfu; exact absurd hfu (Nat.not_lt_zero _)
    | succ fu7 ih7 =>
      intro j hj hfu ls hl
      refine lv_iload_n hx hb dX4_common_7 rfl (lv_at hl 2 rfl) ?_
      refine lv_aload_n hx hb dX4_common_8 rfl (lv_at hl 0 rfl) ?_
      refine r_get (C := RX4) (T := TX4) (N := 10) hx hb hts iiX4_common_4 hown hK h0 rfl 0 (by decide) (hts (.fieldLink RX4 7 "HopMeetModel" "now" "[I") (List.mem_of_getElem? (i := 1) rfl)) rfl dX4_common_9 ?_
      refine lv_iconst (v := nI 1) hx hb dX4_common_12 (by decide) ?_
      refine r_iald hx hb hK h1 rfl 1 (by omega) (by decide) (v := nI (cu z)) hz.2.1.1 dX4_common_13 ?_
      refine r_geN hx hb (by omega) (by omega) dX4_common_14 (tgt := 32) (by decide) (fun c1 => ?_) (fun c1 => ?_)
      · refine lv_iload_n hx hb dX4_common_32 rfl (lv_at hl 1 rfl) ?_
        exact r_retS (v := nI (comN z j)) hx hb hr hlocks (by rw [show cu z = j by omega]) dX4_common_33
      · refine lv_iload_n hx hb dX4_common_17 rfl (lv_at hl 1 rfl) ?_
        refine lv_aload_n hx hb dX4_common_18 rfl (lv_at hl 0 rfl) ?_
        refine lv_iload_n hx hb dX4_common_19 rfl (lv_at hl 2 rfl) ?_
        refine lv_iconst (v := nI 4) hx hb dX4_common_20 (by decide) ?_
        refine r_cV (av := [.int (nI j), .int (nI 4)]) (c_X4_of l G t d z hz j 4 (by omega) (by decide)) ⟨hx, hb, hml, hown, hts⟩ (cwV 2 hts gX4_common_X4_of rfl rfl rfl (by decide +kernel) ⟨Nat.le_of_ble_eq_true rfl, Nat.le_of_ble_eq_true rfl⟩) mv_K hB (at_recv hK h0 rfl) rfl hl (Nat.le_of_ble_eq_true rfl) ⟨Nat.le_of_ble_eq_true rfl, Nat.le_of_ble_eq_true rfl⟩ rfl dX4_common_21 (fun r2 hr2 => ?_)
        subst hr2
        refine r_top (y := nI (uO z j)) (hz.us c1).2.2.2.2.1 ?_
        refine r_iandN hx hb dX4_common_24 ?_
        refine lv_istore_n (lv' := [(1, .int (nI ((comN z j) &&& (uO z j)))), (0, .ref d), (2, .int (nI j))]) hx hb dX4_common_25 rfl hl (by decide) rfl (fun ls hl => ?_)
        refine lv_iinc (v := nI (j + 1)) (lv' := [(2, .int (nI (j + 1))), (1, .int (nI ((comN z j) &&& (uO z j)))), (0, .ref d)]) hx hb dX4_common_26 hl (k := 2) rfl (nI_1 _) (by decide) rfl (fun ls hl => ?_)
        refine lv_goto (tgt := 7) hx hb dX4_common_29 (by decide) ?_
        exact ih7 (j + 1) c1 (by omega) ls (lv_sub hl [2, 1, 0] rfl)
  exact loop7 _ 0 (Nat.zero_le _) (Nat.lt_succ_self _) ls (lv_sub hl [2, 1, 0] rfl)

set_option maxHeartbeats 4000000 in
set_option maxRecDepth 100000 in
/-- whether v may stand there -/
theorem c_X4_isBound (l : Launch) (G : va_G) (t : gT) (w v : Int32) : Met l yX4_isBound wsX4_isBound ({ frames := 1, cells := 0, slots := 0, locals := 22 } : Room) (pc_ [.int w, .int v] (fun _ _ => True)) (vp_Si (fun r => r = bI (ibB w v))) 0 0 (fun _ => False) := by
  refine Met.ofW (cc := cX4_isBound) (maxL := 2) (ret := (some .boolean)) (by decide) rfl ?_
  intro p e s m args below meth c s₁ B hml hv
  obtain ⟨rfl, hB⟩ := hv
  have hx := B.exec
  have hb := B.bytes
  have hr := B.returns
  have hts := atoms_spec (ws := wsX4_isBound) B.pre
  have hown : s.vm.findClass RX4 = some m.cls := findClass_of_methodNamed B.named
  have hlocks := B.notSynchronized
  have hl := lv_entry ([.int w, .int v]) (n := 2) (Nat.le_of_ble_eq_true rfl)
  rw [lg_entry_eq]
  generalize (lg_sl ([.int w, .int v]) ++ List.replicate (2 - (lg_sl ([.int w, .int v])).length) Slot.unset).toArray = ls at hl ⊢
  have hl : lv_has ls 2 [(0, .int w), (1, .int v)] := hl
  refine lv_iload_n hx hb dX4_isBound_0 rfl (lv_at hl 1 rfl) ?_
  refine lv_iconst (v := nI 0) hx hb dX4_isBound_1 (by decide) ?_
  refine lv_iload_n hx hb dX4_isBound_2 rfl (lv_at hl 0 rfl) ?_
  refine lv_if_ne (tgt := 10) hx hb dX4_isBound_3 (by decide) (fun c1 => ?_) (fun c1 => ?_)
  · refine lv_iload_n hx hb dX4_isBound_10 rfl (lv_at hl 0 rfl) ?_
    refine lv_iconst (v := nI 3) hx hb dX4_isBound_11 (by decide) ?_
    refine lv_icmp_ne (tgt := 21) hx hb dX4_isBound_12 (by decide) (fun c2 => ?_) (fun c2 => ?_)
    · refine lv_bipush (v := nI 99) hx hb dX4_isBound_21 (by decide) ?_
      refine r_cS (av := [.int v, .int (nI 0), .int (nI 99)]) (c_X4_in l G t v (nI 0) (nI 99)) ⟨hx, hb, hml, hown, hts⟩ (va_cwS 3 hts gX4_isBound_X4_in rfl rfl rfl (by decide +kernel) ⟨Nat.le_of_ble_eq_true rfl, Nat.le_of_ble_eq_true rfl⟩) mv_T trivial rfl hl (Nat.le_of_ble_eq_true rfl) ⟨Nat.le_of_ble_eq_true rfl, Nat.le_of_ble_eq_true rfl⟩ rfl dX4_isBound_23 (fun r1 hr1 => ?_)
      subst hr1
      exact r_retZ (v := bI (inB v (nI 0) (nI 99))) hx hb hr hlocks (inB v (nI 0) (nI 99)) rfl (by unfold ibB; rw [if_neg c1, if_neg c2]) dX4_isBound_26
    · refine lv_sipush (v := nI 200) hx hb dX4_isBound_15 (by decide) ?_
      refine lv_goto (tgt := 23) hx hb dX4_isBound_18 (by decide) ?_
      refine r_cS (av := [.int v, .int (nI 0), .int (nI 200)]) (c_X4_in l G t v (nI 0) (nI 200)) ⟨hx, hb, hml, hown, hts⟩ (va_cwS 3 hts gX4_isBound_X4_in rfl rfl rfl (by decide +kernel) ⟨Nat.le_of_ble_eq_true rfl, Nat.le_of_ble_eq_true rfl⟩) mv_T trivial rfl hl (Nat.le_of_ble_eq_true rfl) ⟨Nat.le_of_ble_eq_true rfl, Nat.le_of_ble_eq_true rfl⟩ rfl dX4_isBound_23 (fun r2 hr2 => ?_)
      subst hr2
      exact r_retZ (v := bI (inB v (nI 0) (nI 200))) hx hb hr hlocks (inB v (nI 0) (nI 200)) rfl (by unfold ibB; rw [if_neg c1, if_pos c2]) dX4_isBound_26
  · refine lv_iconst (v := nI 3) hx hb dX4_isBound_6 (by decide) ?_
    refine lv_goto (tgt := 23) hx hb dX4_isBound_7 (by decide) ?_
    refine r_cS (av := [.int v, .int (nI 0), .int (nI 3)]) (c_X4_in l G t v (nI 0) (nI 3)) ⟨hx, hb, hml, hown, hts⟩ (va_cwS 3 hts gX4_isBound_X4_in rfl rfl rfl (by decide +kernel) ⟨Nat.le_of_ble_eq_true rfl, Nat.le_of_ble_eq_true rfl⟩) mv_T trivial rfl hl (Nat.le_of_ble_eq_true rfl) ⟨Nat.le_of_ble_eq_true rfl, Nat.le_of_ble_eq_true rfl⟩ rfl dX4_isBound_23 (fun r3 hr3 => ?_)
    subst hr3
    exact r_retZ (v := bI (inB v (nI 0) (nI 3))) hx hb hr hlocks (inB v (nI 0) (nI 3)) rfl (by unfold ibB; rw [if_pos c1]) dX4_isBound_26
