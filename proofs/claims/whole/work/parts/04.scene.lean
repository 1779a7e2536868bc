/-! Scene: what reads alone (printed by wip/whole/m1.py) -/
set_option maxHeartbeats 4000000 in
set_option maxRecDepth 100000 in
/-- whether bit k of x is set -/
theorem c_X2_holds (l : Launch) (G : va_G) (t : gT) (x k : Nat) (hs : x < 2 ^ 31) (hk : k < 31) : Met l yX2_holds wsX2_holds ({ frames := 0, cells := 0, slots := 0, locals := 0 } : Room) (pc_ [.int (nI x), .int (nI k)] (fun _ _ => True)) (vp_Si (fun r => r = bI (btB x k))) 0 0 (fun _ => False) := by
  refine Met.ofW (cc := cX2_holds) (maxL := 2) (ret := (some .boolean)) (by decide) rfl ?_
  intro p e s m args below meth c s₁ B hml hv
  obtain ⟨rfl, hB⟩ := hv
  have hx := B.exec
  have hb := B.bytes
  have hr := B.returns
  have hts := atoms_spec (ws := wsX2_holds) B.pre
  have hown : s.vm.findClass RX2 = some m.cls := findClass_of_methodNamed B.named
  have hlocks := B.notSynchronized
  have hl := lv_entry ([.int (nI x), .int (nI k)]) (n := 2) (Nat.le_of_ble_eq_true rfl)
  rw [lg_entry_eq]
  generalize (lg_sl ([.int (nI x), .int (nI k)]) ++ List.replicate (2 - (lg_sl ([.int (nI x), .int (nI k)])).length) Slot.unset).toArray = ls at hl ⊢
  have hl : lv_has ls 2 [(0, .int (nI x)), (1, .int (nI k))] := hl
  refine lv_iload_n hx hb dX2_holds_0 rfl (lv_at hl 0 rfl) ?_
  refine lv_iload_n hx hb dX2_holds_1 rfl (lv_at hl 1 rfl) ?_
  refine lv_ishr hx hb dX2_holds_2 ?_
  refine r_top (y := nI (x / 2 ^ k)) (i_shr hs hk) ?_
  refine lv_iconst (v := nI 1) hx hb dX2_holds_3 (by decide) ?_
  refine r_iandN hx hb dX2_holds_4 ?_
  refine r_top (y := nI (bt0 x k)) (congrArg nI (i_and1 _)) ?_
  refine lv_iconst (v := nI 1) hx hb dX2_holds_5 (by decide) ?_
  refine r_neN hx hb (Nat.lt_trans (bt0_lt x k) (by decide)) (by decide) dX2_holds_6 (tgt := 13) (by decide) (fun c1 => ?_) (fun c1 => ?_)
  · refine lv_iconst (v := nI 0) hx hb dX2_holds_13 (by decide) ?_
    exact r_retZ (v := nI 0) hx hb hr hlocks false rfl (by rw [show btB x k = false from decide_eq_false c1]; rfl) dX2_holds_14
  · refine lv_iconst (v := nI 1) hx hb dX2_holds_9 (by decide) ?_
    refine lv_goto (tgt := 14) hx hb dX2_holds_10 (by decide) ?_
    exact r_retZ (v := nI 1) hx hb hr hlocks true rfl (by rw [show btB x k = true from decide_eq_true c1]; rfl) dX2_holds_14

set_option maxHeartbeats 4000000 in
set_option maxRecDepth 100000 in
/-- how many bits are set -/
theorem c_J6_bitCount_0f7a4 (l : Launch) (G : va_G) (t : gT) (x : Nat) (hx0 : x < 1024) : Met l yJ6_bitCount_0f7a4 wsJ6_bitCount_0f7a4 ({ frames := 0, cells := 0, slots := 0, locals := 0 } : Room) (pc_ [.int (nI x)] (fun _ _ => True)) (vp_Si (fun r => r = nI (onesN x))) 0 0 (fun _ => False) := by
  refine Met.ofW (cc := cJ6_bitCount_0f7a4) (maxL := 1) (ret := (some .int)) (by decide) rfl ?_
  intro p e s m args below meth c s₁ B hml hv
  obtain ⟨rfl, hB⟩ := hv
  have hx := B.exec
  have hb := B.bytes
  have hr := B.returns
  have hts := atoms_spec (ws := wsJ6_bitCount_0f7a4) B.pre
  have hown : s.vm.findClass RJ6 = some m.cls := findClass_of_methodNamed B.named
  have hlocks := B.notSynchronized
  have hl := lv_entry ([.int (nI x)]) (n := 1) (Nat.le_of_ble_eq_true rfl)
  rw [lg_entry_eq]
  generalize (lg_sl ([.int (nI x)]) ++ List.replicate (1 - (lg_sl ([.int (nI x)])).length) Slot.unset).toArray = ls at hl ⊢
  have hl : lv_has ls 1 [(0, .int (nI x))] := hl
  refine lv_iload_n hx hb dJ6_bitCount_0f7a4_0 rfl (lv_at hl 0 rfl) ?_
  refine lv_iload_n hx hb dJ6_bitCount_0f7a4_1 rfl (lv_at hl 0 rfl) ?_
  refine lv_iconst (v := nI 1) hx hb dJ6_bitCount_0f7a4_2 (by decide) ?_
  refine lv_iushr hx hb dJ6_bitCount_0f7a4_3 rfl ?_
  refine lv_ldcw (v := (1431655765)) hx hb hown (hts (.constant RJ6 265 (1431655765)) (List.mem_of_getElem? (i := 1) rfl)) dJ6_bitCount_0f7a4_4 ?_
  refine r_top (y := nI 1431655765) rfl ?_
  refine lv_iand hx hb dJ6_bitCount_0f7a4_7 ?_
  refine lv_isub hx hb dJ6_bitCount_0f7a4_8 ?_
  refine lv_topi (fun b1 eb1 => ?_)
  refine lv_istore_n (lv' := [(0, .int b1)]) hx hb dJ6_bitCount_0f7a4_9 rfl hl (by decide) rfl (fun ls hl => ?_)
  refine lv_iload_n hx hb dJ6_bitCount_0f7a4_10 rfl (lv_at hl 0 rfl) ?_
  refine lv_ldcw (v := (858993459)) hx hb hown (hts (.constant RJ6 266 (858993459)) (List.mem_of_getElem? (i := 2) rfl)) dJ6_bitCount_0f7a4_11 ?_
  refine r_top (y := nI 858993459) rfl ?_
  refine lv_iand hx hb dJ6_bitCount_0f7a4_14 ?_
  refine lv_iload_n hx hb dJ6_bitCount_0f7a4_15 rfl (lv_at hl 0 rfl) ?_
  refine lv_iconst (v := nI 2) hx hb dJ6_bitCount_0f7a4_16 (by decide) ?_
  refine lv_iushr hx hb dJ6_bitCount_0f7a4_17 rfl ?_
  refine lv_ldcw (v := (858993459)) hx hb hown (hts (.constant RJ6 266 (858993459)) (List.mem_of_getElem? (i := 2) rfl)) dJ6_bitCount_0f7a4_18 ?_
  refine r_top (y := nI 858993459) rfl ?_
  refine lv_iand hx hb dJ6_bitCount_0f7a4_21 ?_
  refine lv_iadd hx hb dJ6_bitCount_0f7a4_22 ?_
  refine lv_topi (fun b2 eb2 => ?_)
  refine lv_istore_n (lv' := [(0, .int b2)]) hx hb dJ6_bitCount_0f7a4_23 rfl hl (by decide) rfl (fun ls hl => ?_)
  refine lv_iload_n hx hb dJ6_bitCount_0f7a4_24 rfl (lv_at hl 0 rfl) ?_
  refine lv_iload_n hx hb dJ6_bitCount_0f7a4_25 rfl (lv_at hl 0 rfl) ?_
  refine lv_iconst (v := nI 4) hx hb dJ6_bitCount_0f7a4_26 (by decide) ?_
  refine lv_iushr hx hb dJ6_bitCount_0f7a4_27 rfl ?_
  refine lv_iadd hx hb dJ6_bitCount_0f7a4_28 ?_
  refine lv_ldcw (v := (252645135)) hx hb hown (hts (.constant RJ6 267 (252645135)) (List.mem_of_getElem? (i := 3) rfl)) dJ6_bitCount_0f7a4_29 ?_
  refine r_top (y := nI 252645135) rfl ?_
  refine lv_iand hx hb dJ6_bitCount_0f7a4_32 ?_
  refine lv_topi (fun b3 eb3 => ?_)
  refine lv_istore_n (lv' := [(0, .int b3)]) hx hb dJ6_bitCount_0f7a4_33 rfl hl (by decide) rfl (fun ls hl => ?_)
  refine lv_iload_n hx hb dJ6_bitCount_0f7a4_34 rfl (lv_at hl 0 rfl) ?_
  refine lv_iload_n hx hb dJ6_bitCount_0f7a4_35 rfl (lv_at hl 0 rfl) ?_
  refine lv_bipush (v := nI 8) hx hb dJ6_bitCount_0f7a4_36 (by decide) ?_
  refine lv_iushr hx hb dJ6_bitCount_0f7a4_38 rfl ?_
  refine lv_iadd hx hb dJ6_bitCount_0f7a4_39 ?_
  refine lv_topi (fun b4 eb4 => ?_)
  refine lv_istore_n (lv' := [(0, .int b4)]) hx hb dJ6_bitCount_0f7a4_40 rfl hl (by decide) rfl (fun ls hl => ?_)
  refine lv_iload_n hx hb dJ6_bitCount_0f7a4_41 rfl (lv_at hl 0 rfl) ?_
  refine lv_iload_n hx hb dJ6_bitCount_0f7a4_42 rfl (lv_at hl 0 rfl) ?_
  refine lv_bipush (v := nI 16) hx hb dJ6_bitCount_0f7a4_43 (by decide) ?_
  refine lv_iushr hx hb dJ6_bitCount_0f7a4_45 rfl ?_
  refine lv_iadd hx hb dJ6_bitCount_0f7a4_46 ?_
  refine lv_topi (fun b5 eb5 => ?_)
  refine lv_istore_n (lv' := [(0, .int b5)]) hx hb dJ6_bitCount_0f7a4_47 rfl hl (by decide) rfl (fun ls hl => ?_)
  refine lv_iload_n hx hb dJ6_bitCount_0f7a4_48 rfl (lv_at hl 0 rfl) ?_
  refine lv_bipush (v := nI 63) hx hb dJ6_bitCount_0f7a4_49 (by decide) ?_
  refine lv_iand hx hb dJ6_bitCount_0f7a4_51 ?_
  exact r_retS (v := b5 &&& (nI 63)) hx hb hr hlocks (by subst eb5 eb4 eb3 eb2 eb1; exact bc_rows x hx0) dJ6_bitCount_0f7a4_52

set_option maxHeartbeats 4000000 in
set_option maxRecDepth 100000 in
/-- the bit of x with the number q -/
theorem c_X2_memberWithNumber (l : Launch) (G : va_G) (t : gT) (x q : Nat) (hx0 : x < 1024) (hq : q < onesN x) : Met l yX2_memberWithNumber wsX2_memberWithNumber ({ frames := 1, cells := 0, slots := 0, locals := 21 } : Room) (pc_ [.int (nI x), .int (nI q)] (fun _ _ => True)) (vp_Si (fun r => r = nI (mwN x 10 0 q))) 0 0 (fun _ => False) := by
  refine Met.ofW (cc := cX2_memberWithNumber) (maxL := 4) (ret := (some .int)) (by decide) rfl ?_
  intro p e s m args below meth c s₁ B hml hv
  obtain ⟨rfl, hB⟩ := hv
  have hx := B.exec
  have hb := B.bytes
  have hr := B.returns
  have hts := atoms_spec (ws := wsX2_memberWithNumber) B.pre
  have hown : s.vm.findClass RX2 = some m.cls := findClass_of_methodNamed B.named
  have hlocks := B.notSynchronized
  have ho := ones_le x hx0
  have hl := lv_entry ([.int (nI x), .int (nI q)]) (n := 4) (Nat.le_of_ble_eq_true rfl)
  rw [lg_entry_eq]
  generalize (lg_sl ([.int (nI x), .int (nI q)]) ++ List.replicate (4 - (lg_sl ([.int (nI x), .int (nI q)])).length) Slot.unset).toArray = ls at hl ⊢
  have hl : lv_has ls 4 [(0, .int (nI x)), (1, .int (nI q))] := hl
  refine lv_iload_n hx hb dX2_memberWithNumber_0 rfl (lv_at hl 1 rfl) ?_
  refine lv_istore_n (lv' := [(2, .int (nI q)), (0, .int (nI x)), (1, .int (nI q))]) hx hb dX2_memberWithNumber_1 rfl hl (by decide) rfl (fun ls hl => ?_)
  refine lv_iconst (v := nI 0) hx hb dX2_memberWithNumber_2 (by decide) ?_
  refine lv_istore_n (lv' := [(3, .int (nI 0)), (2, .int (nI q)), (0, .int (nI x)), (1, .int (nI q))]) hx hb dX2_memberWithNumber_3 rfl hl (by decide) rfl (fun ls hl => ?_)
  have loop4 : ∀ (fu : Nat) (k : Nat) (w : Nat) (hk : k ≤ 10) (hw : w ≤ 10) (hm : mwN x (10 - k) k w = mwN x 10 0 q) (hfu : 10 - k < fu) (ls : Array Slot) (hl : lv_has ls 4 [(0, .int (nI x)), (2, .int (nI w)), (3, .int (nI k))]), W p l e (headSpec wsX2_memberWithNumber ({ frames := 1, cells := 0, slots := 0, locals := 21 } : Room)).room s m ([.int (nI x), .int (nI q)] : List Value).toArray below meth c s.heap [] 0 0 (MQ below (vp_Si (fun r => r = nI (mwN x 10 0 q))) ([.int (nI x), .int (nI q)] : List Value).toArray s 0 0 (fun _ => False)) (F0 m 4 ls []) := by
    intro fu
    induction fu with
    | zero => intro k w hk hw hm hfu; exact absurd hfu (Nat.not_lt_zero _)
    | succ fu4 ih4 =>
      intro k w hk hw hm hfu ls hl
      refine lv_iload_n hx hb dX2_memberWithNumber_4 rfl (lv_at hl 2 rfl) ?_
      refine lv_bipush (v := nI 10) hx hb dX2_memberWithNumber_5 (by decide) ?_
      refine r_geN hx hb (by omega) (by omega) dX2_memberWithNumber_7 (tgt := 33) (by decide) (fun c1 => ?_) (fun c1 => ?_)
      · exact absurd (mw_lt x hx0 q hq) (by rw [← hm, show 10 - k = 0 by omega]; simp [mwN])
      · have hk2 : k < 10 := c1
        refine lv_iload_n hx hb dX2_memberWithNumber_10 rfl (lv_at hl 0 rfl) ?_
        refine lv_iload_n hx hb dX2_memberWithNumber_11 rfl (lv_at hl 2 rfl) ?_
        refine r_cS (av := [.int (nI x), .int (nI k)]) (c_X2_holds l G t x k (by omega) (by omega)) ⟨hx, hb, hml, hown, hts⟩ (va_cwS 2 hts gX2_memberWithNumber_X2_holds rfl rfl rfl (by decide +kernel) ⟨Nat.le_of_ble_eq_true rfl, Nat.le_of_ble_eq_true rfl⟩) mv_T trivial rfl hl (Nat.le_of_ble_eq_true rfl) ⟨Nat.le_of_ble_eq_true rfl, Nat.le_of_ble_eq_true rfl⟩ rfl dX2_memberWithNumber_12 (fun r1 hr1 => ?_)
        subst hr1
        refine r_ifeqB hx hb dX2_memberWithNumber_15 (tgt := 27) (by decide) (fun c2 => ?_) (fun c2 => ?_)
        · refine lv_iinc (v := nI (k + 1)) (lv' := [(3, .int (nI (k + 1))), (0, .int (nI x)), (2, .int (nI w))]) hx hb dX2_memberWithNumber_27 hl (k := 2) rfl (nI_1 _) (by decide) rfl (fun ls hl => ?_)
          refine lv_goto (tgt := 4) hx hb dX2_memberWithNumber_30 (by decide) ?_
          exact ih4 (k + 1) w (by omega) (by omega) ((mw_b x k w hk2 c2).symm.trans hm) (by omega) ls (lv_sub hl [1, 2, 0] rfl)
        · refine lv_iload_n hx hb dX2_memberWithNumber_18 rfl (lv_at hl 1 rfl) ?_
          refine r_ifneN hx hb (by omega) dX2_memberWithNumber_19 (tgt := 24) (by decide) (fun c3 => ?_) (fun c3 => ?_)
          · refine lv_iinc (v := nI (w - 1)) (lv' := [(2, .int (nI (w - 1))), (0, .int (nI x)), (3, .int (nI k))]) hx hb dX2_memberWithNumber_24 hl (k := 1) rfl (nI_dec (Nat.pos_of_ne_zero c3)) (by decide) rfl (fun ls hl => ?_)
            refine lv_iinc (v := nI (k + 1)) (lv' := [(3, .int (nI (k + 1))), (2, .int (nI (w - 1))), (0, .int (nI x))]) hx hb dX2_memberWithNumber_27 hl (k := 2) rfl (nI_1 _) (by decide) rfl (fun ls hl => ?_)
            refine lv_goto (tgt := 4) hx hb dX2_memberWithNumber_30 (by decide) ?_
            exact ih4 (k + 1) (w - 1) (by omega) (by omega) ((mw_a x k w hk2 c2 c3).symm.trans hm) (by omega) ls (lv_sub hl [2, 1, 0] rfl)
          · refine lv_iload_n hx hb dX2_memberWithNumber_22 rfl (lv_at hl 2 rfl) ?_
            exact r_retS (v := nI k) hx hb hr hlocks (by rw [← hm]; exact congrArg nI (mw_c x k w hk2 c2 c3).symm) dX2_memberWithNumber_23
  exact loop4 _ 0 q (Nat.zero_le _) (by omega) rfl (Nat.lt_succ_self _) ls (lv_sub hl [2, 1, 0] rfl)

set_option maxHeartbeats 4000000 in
set_option maxRecDepth 100000 in
/-- whether n is a prime -/
theorem c_X2_isPrime (l : Launch) (G : va_G) (t : gT) (n : Nat) (hn : n < 100) : Met l yX2_isPrime wsX2_isPrime ({ frames := 0, cells := 0, slots := 0, locals := 0 } : Room) (pc_ [.int (nI n)] (fun _ _ => True)) (vp_Si (fun r => r = bI (prB n))) 0 0 (fun _ => False) := by
  refine Met.ofW (cc := cX2_isPrime) (maxL := 2) (ret := (some .boolean)) (by decide) rfl ?_
  intro p e s m args below meth c s₁ B hml hv
  obtain ⟨rfl, hB⟩ := hv
  have hx := B.exec
  have hb := B.bytes
  have hr := B.returns
  have hts := atoms_spec (ws := wsX2_isPrime) B.pre
  have hown : s.vm.findClass RX2 = some m.cls := findClass_of_methodNamed B.named
  have hlocks := B.notSynchronized
  have hl := lv_entry ([.int (nI n)]) (n := 2) (Nat.le_of_ble_eq_true rfl)
  rw [lg_entry_eq]
  generalize (lg_sl ([.int (nI n)]) ++ List.replicate (2 - (lg_sl ([.int (nI n)])).length) Slot.unset).toArray = ls at hl ⊢
  have hl : lv_has ls 2 [(0, .int (nI n))] := hl
  refine lv_iconst (v := nI 2) hx hb dX2_isPrime_0 (by decide) ?_
  refine lv_istore_n (lv' := [(1, .int (nI 2)), (0, .int (nI n))]) hx hb dX2_isPrime_1 rfl hl (by decide) rfl (fun ls hl => ?_)
  have loop2 : ∀ (fu : Nat) (k : Nat) (hk : 2 ≤ k) (hk3 : k ≤ 100) (hd : ∀ d, d < k → 2 ≤ d → n % d ≠ 0) (hfu : 100 - k < fu) (ls : Array Slot) (hl : lv_has ls 2 [(0, .int (nI n)), (1, .int (nI k))]), W p l e (headSpec wsX2_isPrime ({ frames := 0, cells := 0, slots := 0, locals := 0 } : Room)).room s m ([.int (nI n)] : List Value).toArray below meth c s.heap [] 0 0 (MQ below (vp_Si (fun r => r = bI (prB n))) ([.int (nI n)] : List Value).toArray s 0 0 (fun _ => False)) (F0 m 2 ls []) := by
    intro fu
    induction fu with
    | zero => intro k hk hk3 hd hfu; exact absurd hfu (Nat.not_lt_zero _)
    | succ fu2 ih2 =>
      intro k hk hk3 hd hfu ls hl
      refine lv_iload_n hx hb dX2_isPrime_2 rfl (lv_at hl 1 rfl) ?_
      refine lv_iload_n hx hb dX2_isPrime_3 rfl (lv_at hl 0 rfl) ?_
      refine r_geN hx hb (by omega) (by omega) dX2_isPrime_4 (tgt := 21) (by decide) (fun c1 => ?_) (fun c1 => ?_)
      · refine lv_iconst (v := nI 1) hx hb dX2_isPrime_21 (by decide) ?_
        exact r_retZ (v := nI 1) hx hb hr hlocks true rfl (by rw [show prB n = true from decide_eq_true (fun d h1 h2 => hd d (by omega) h2)]; rfl) dX2_isPrime_22
      · refine lv_iload_n hx hb dX2_isPrime_7 rfl (lv_at hl 0 rfl) ?_
        refine lv_iload_n hx hb dX2_isPrime_8 rfl (lv_at hl 1 rfl) ?_
        refine r_iremN hx hb (by omega) (by omega) (by omega) dX2_isPrime_9 ?_
        refine r_ifneN hx hb (Nat.lt_of_le_of_lt (Nat.mod_le _ _) (by omega)) dX2_isPrime_10 (tgt := 15) (by decide) (fun c2 => ?_) (fun c2 => ?_)
        · refine lv_iinc (v := nI (k + 1)) (lv' := [(1, .int (nI (k + 1))), (0, .int (nI n))]) hx hb dX2_isPrime_15 hl (k := 1) rfl (nI_1 _) (by decide) rfl (fun ls hl => ?_)
          refine lv_goto (tgt := 2) hx hb dX2_isPrime_18 (by decide) ?_
          exact ih2 (k + 1) (by omega) (by omega) (fun d h1 h2 => by rcases Nat.lt_succ_iff_lt_or_eq.mp h1 with h | h; exact hd d h h2; rw [h]; exact c2) (by omega) ls (lv_sub hl [1, 0] rfl)
        · refine lv_iconst (v := nI 0) hx hb dX2_isPrime_13 (by decide) ?_
          exact r_retZ (v := nI 0) hx hb hr hlocks false rfl (by rw [show prB n = false from decide_eq_false (fun h => h k c1 hk c2)]; rfl) dX2_isPrime_14
  exact loop2 _ 2 (Nat.le_refl _) (by decide) (fun d h1 h2 => absurd h1 (by omega)) (Nat.lt_succ_self _) ls (lv_sub hl [1, 0] rfl)

set_option maxHeartbeats 4000000 in
set_option maxRecDepth 100000 in
/-- the least prime above n -/
theorem c_X2_primeAbove (l : Launch) (G : va_G) (t : gT) (n : Nat) (h2 : 2 ≤ n) (h10 : n ≤ 10) : Met l yX2_primeAbove wsX2_primeAbove ({ frames := 1, cells := 0, slots := 0, locals := 21 } : Room) (pc_ [.int (nI n)] (fun _ _ => True)) (vp_Si (fun r => r = nI (prN n))) 0 0 (fun _ => False) := by
  refine Met.ofW (cc := cX2_primeAbove) (maxL := 2) (ret := (some .int)) (by decide) rfl ?_
  intro p e s m args below meth c s₁ B hml hv
  obtain ⟨rfl, hB⟩ := hv
  have hx := B.exec
  have hb := B.bytes
  have hr := B.returns
  have hts := atoms_spec (ws := wsX2_primeAbove) B.pre
  have hown : s.vm.findClass RX2 = some m.cls := findClass_of_methodNamed B.named
  have hlocks := B.notSynchronized
  have hl := lv_entry ([.int (nI n)]) (n := 2) (Nat.le_of_ble_eq_true rfl)
  rw [lg_entry_eq]
  generalize (lg_sl ([.int (nI n)]) ++ List.replicate (2 - (lg_sl ([.int (nI n)])).length) Slot.unset).toArray = ls at hl ⊢
  have hl : lv_has ls 2 [(0, .int (nI n))] := hl
  refine lv_iload_n hx hb dX2_primeAbove_0 rfl (lv_at hl 0 rfl) ?_
  refine lv_iconst (v := nI 1) hx hb dX2_primeAbove_1 (by decide) ?_
  refine r_iaddN hx hb dX2_primeAbove_2 ?_
  refine lv_istore_n (lv' := [(1, .int (nI (n + 1))), (0, .int (nI n))]) hx hb dX2_primeAbove_3 rfl hl (by decide) rfl (fun ls hl => ?_)
  have loop4 : ∀ (fu : Nat) (k : Nat) (hk : n < k) (hk2 : k ≤ 2 * n) (hd : ∀ d, d < k → n < d → prB d = false) (hfu : 2 * n - k < fu) (ls : Array Slot) (hl : lv_has ls 2 [(0, .int (nI n)), (1, .int (nI k))]), W p l e (headSpec wsX2_primeAbove ({ frames := 1, cells := 0, slots := 0, locals := 21 } : Room)).room s m ([.int (nI n)] : List Value).toArray below meth c s.heap [] 0 0 (MQ below (vp_Si (fun r => r = nI (prN n))) ([.int (nI n)] : List Value).toArray s 0 0 (fun _ => False)) (F0 m 4 ls []) := by
    intro fu
    induction fu with
    | zero => intro k hk hk2 hd hfu; exact absurd hfu (Nat.not_lt_zero _)
    | succ fu4 ih4 =>
      intro k hk hk2 hd hfu ls hl
      refine lv_iload_n hx hb dX2_primeAbove_4 rfl (lv_at hl 1 rfl) ?_
      refine lv_iconst (v := nI 2) hx hb dX2_primeAbove_5 (by decide) ?_
      refine lv_iload_n hx hb dX2_primeAbove_6 rfl (lv_at hl 0 rfl) ?_
      refine r_imulN hx hb dX2_primeAbove_7 ?_
      refine r_geN hx hb (by omega) (by omega) dX2_primeAbove_8 (tgt := 24) (by decide) (fun c1 => ?_) (fun c1 => ?_)
      · refine lv_iload_n hx hb dX2_primeAbove_24 rfl (lv_at hl 1 rfl) ?_
        exact r_retS (v := nI k) hx hb hr hlocks (congrArg nI (pr_least n (by omega) k (by omega) hk hd (fun h => by first | exact c2 | exact absurd h (by omega)) h2 hk2)) dX2_primeAbove_25
      · refine lv_iload_n hx hb dX2_primeAbove_11 rfl (lv_at hl 1 rfl) ?_
        refine r_cS (av := [.int (nI k)]) (c_X2_isPrime l G t k (by omega)) ⟨hx, hb, hml, hown, hts⟩ (va_cwS 1 hts gX2_primeAbove_X2_isPrime rfl rfl rfl (by decide +kernel) ⟨Nat.le_of_ble_eq_true rfl, Nat.le_of_ble_eq_true rfl⟩) mv_T trivial rfl hl (Nat.le_of_ble_eq_true rfl) ⟨Nat.le_of_ble_eq_true rfl, Nat.le_of_ble_eq_true rfl⟩ rfl dX2_primeAbove_12 (fun r1 hr1 => ?_)
        subst hr1
        refine r_ifneB hx hb dX2_primeAbove_15 (tgt := 24) (by decide) (fun c2 => ?_) (fun c2 => ?_)
        · refine lv_iload_n hx hb dX2_primeAbove_24 rfl (lv_at hl 1 rfl) ?_
          exact r_retS (v := nI k) hx hb hr hlocks (congrArg nI (pr_least n (by omega) k (by omega) hk hd (fun h => by first | exact c2 | exact absurd h (by omega)) h2 hk2)) dX2_primeAbove_25
        · refine lv_iinc (v := nI (k + 1)) (lv' := [(1, .int (nI (k + 1))), (0, .int (nI n))]) hx hb dX2_primeAbove_18 hl (k := 1) rfl (nI_1 _) (by decide) rfl (fun ls hl => ?_)
          refine lv_goto (tgt := 4) hx hb dX2_primeAbove_21 (by decide) ?_
          exact ih4 (k + 1) (by omega) (by omega) (fun d h3 h4 => by rcases Nat.lt_succ_iff_lt_or_eq.mp h3 with h | h; exact hd d h h4; rw [h]; exact c2) (by omega) ls (lv_sub hl [1, 0] rfl)
  exact loop4 _ (n + 1) (Nat.lt_succ_self _) (by omega) (fun d h3 h4 => absurd h3 (by omega)) (Nat.lt_succ_self _) ls (lv_sub hl [1, 0] rfl)

set_option maxRecDepth 20000 in
theorem iiX2_allChannels_2 : ∀ w ∈ wsX20, w ∈ wsX2_allChannels := by decide +kernel
set_option maxHeartbeats 4000000 in
set_option maxRecDepth 100000 in
/-- the set of all channels -/
theorem c_X2_allChannels (l : Launch) (G : va_G) (t : gT) (o : Nat) (z : Nat → Int32) (hz : WF z) : Met l yX2_allChannels wsX2_allChannels ({ frames := 0, cells := 0, slots := 0, locals := 0 } : Room) (pc_ [.ref o] (fun U H => KK G t U ∧ Sc G t o z H)) (vp_Si (fun r => r = nI (2 ^ cn z - 1))) 0 0 (fun _ => False) := by
  refine Met.ofW (cc := cX2_allChannels) (maxL := 1) (ret := (some .int)) (by decide) rfl ?_
  intro p e s m args below meth c s₁ B hml hv
  obtain ⟨rfl, hB⟩ := hv
  have hx := B.exec
  have hb := B.bytes
  have hr := B.returns
  have hts := atoms_spec (ws := wsX2_allChannels) B.pre
  have hown : s.vm.findClass RX2 = some m.cls := findClass_of_methodNamed B.named
  have hlocks := B.notSynchronized
  have hK := hB.1
  have hSc := hB.2
  have h0 := Sc_obj hSc
  have h1 := (Sc_rows hSc).1
  have h3 := (Sc_rows hSc).2
  have hn := hz.n
  have hu5 := hz.u5
  have hs8 := hz.s8
  have hp := prN_in (cn z)
  have hl := lv_entry ([.ref o]) (n := 1) (Nat.le_of_ble_eq_true rfl)
  rw [lg_entry_eq]
  generalize (lg_sl ([.ref o]) ++ List.replicate (1 - (lg_sl ([.ref o])).length) Slot.unset).toArray = ls at hl ⊢
  have hl : lv_has ls 1 [(0, .ref o)] := hl
  refine lv_iconst (v := nI 1) hx hb dX2_allChannels_0 (by decide) ?_
  refine lv_aload_n hx hb dX2_allChannels_1 rfl (lv_at hl 0 rfl) ?_
  refine r_get (C := RX2) (T := TX2) (N := 6) hx hb hts iiX2_allChannels_2 hown hK h0 rfl 0 (by decide) (hts (.fieldLink RX2 23 "HopMeet$Scene" "channelCount" "I") (List.mem_of_getElem? (i := 1) rfl)) rfl dX2_allChannels_2 ?_
  refine lv_ishl hx hb dX2_allChannels_5 ?_
  refine r_top (y := nI (2 ^ cn z)) (i_shl1 hn.2) ?_
  refine lv_iconst (v := nI 1) hx hb dX2_allChannels_6 (by decide) ?_
  refine r_isubN hx hb (Nat.one_le_two_pow) dX2_allChannels_7 ?_
  exact r_retS (v := nI ((2 ^ cn z) - 1)) hx hb hr hlocks rfl dX2_allChannels_8

set_option maxRecDepth 20000 in
theorem iiX2_clockOf_2 : ∀ w ∈ wsX20, w ∈ wsX2_clockOf := by decide +kernel
set_option maxHeartbeats 4000000 in
set_option maxRecDepth 100000 in
/-- the clock of a user at a slot -/
theorem c_X2_clockOf (l : Launch) (G : va_G) (t : gT) (o : Nat) (z : Nat → Int32) (hz : WF z) (u y : Nat) (hu : u < cu z) : Met l yX2_clockOf wsX2_clockOf ({ frames := 0, cells := 0, slots := 0, locals := 0 } : Room) (pc_ [.ref o, .int (nI u), .int (nI y)] (fun U H => KK G t U ∧ Sc G t o z H)) (vp_Si (fun r => r = nI y - nI (uW z u))) 0 0 (fun _ => False) := by
  refine Met.ofW (cc := cX2_clockOf) (maxL := 3) (ret := (some .int)) (by decide) rfl ?_
  intro p e s m args below meth c s₁ B hml hv
  obtain ⟨rfl, hB⟩ := hv
  have hx := B.exec
  have hb := B.bytes
  have hr := B.returns
  have hts := atoms_spec (ws := wsX2_clockOf) B.pre
  have hown : s.vm.findClass RX2 = some m.cls := findClass_of_methodNamed B.named
  have hlocks := B.notSynchronized
  have hK := hB.1
  have hSc := hB.2
  have h0 := Sc_obj hSc
  have h1 := (Sc_rows hSc).1
  have h3 := (Sc_rows hSc).2
  have hn := hz.n
  have hu5 := hz.u5
  have hs8 := hz.s8
  have hp := prN_in (cn z)
  obtain ⟨fu, hf, e0, e1, e2, e3, e4⟩ := Sc_user hSc hz hu
  have huf := hz.us hu
  have hl := lv_entry ([.ref o, .int (nI u), .int (nI y)]) (n := 3) (Nat.le_of_ble_eq_true rfl)
  rw [lg_entry_eq]
  generalize (lg_sl ([.ref o, .int (nI u), .int (nI y)]) ++ List.replicate (3 - (lg_sl ([.ref o, .int (nI u), .int (nI y)])).length) Slot.unset).toArray = ls at hl ⊢
  have hl : lv_has ls 3 [(0, .ref o), (1, .int (nI u)), (2, .int (nI y))] := hl
  refine lv_iload_n hx hb dX2_clockOf_0 rfl (lv_at hl 2 rfl) ?_
  refine lv_aload_n hx hb dX2_clockOf_1 rfl (lv_at hl 0 rfl) ?_
  refine r_get (C := RX2) (T := TX2) (N := 6) hx hb hts iiX2_clockOf_2 hown hK h0 rfl 4 (by decide) (hts (.fieldLink RX2 11 "HopMeet$Scene" "users" "[[I") (List.mem_of_getElem? (i := 1) rfl)) rfl dX2_clockOf_2 ?_
  refine lv_iload_n hx hb dX2_clockOf_5 rfl (lv_at hl 1 rfl) ?_
  refine r_rald hx hb hK h1 1 rfl rfl u (by omega) (by decide) (b := o + 2 + u) (rowsF_at (by omega)) dX2_clockOf_6 ?_
  refine lv_iconst (v := nI 3) hx hb dX2_clockOf_7 (by decide) ?_
  refine r_iald hx hb hK hf rfl 3 (by omega) (by decide) (v := nI (uW z u)) e3 dX2_clockOf_8 ?_
  refine lv_isub hx hb dX2_clockOf_9 ?_
  exact r_retS (v := (nI y) - (nI (uW z u))) hx hb hr hlocks rfl dX2_clockOf_10

set_option maxHeartbeats 4000000 in
set_option maxRecDepth 100000 in
/-- x / y, tested -/
theorem c_X2_quotient (l : Launch) (G : va_G) (t : gT) (x y : Nat) (hx0 : x < 2 ^ 31) (hy : 0 < y) (hy2 : y < 2 ^ 31) : Met l yX2_quotient wsX2_quotient ({ frames := 0, cells := 0, slots := 0, locals := 0 } : Room) (pc_ [.int (nI x), .int (nI y)] (fun _ _ => True)) (vp_Si (fun r => r = nI (x / y))) 0 0 (fun _ => False) := by
  refine Met.ofW (cc := cX2_quotient) (maxL := 2) (ret := (some .int)) (by decide) rfl ?_
  intro p e s m args below meth c s₁ B hml hv
  obtain ⟨rfl, hB⟩ := hv
  have hx := B.exec
  have hb := B.bytes
  have hr := B.returns
  have hts := atoms_spec (ws := wsX2_quotient) B.pre
  have hown : s.vm.findClass RX2 = some m.cls := findClass_of_methodNamed B.named
  have hlocks := B.notSynchronized
  have hl := lv_entry ([.int (nI x), .int (nI y)]) (n := 2) (Nat.le_of_ble_eq_true rfl)
  rw [lg_entry_eq]
  generalize (lg_sl ([.int (nI x), .int (nI y)]) ++ List.replicate (2 - (lg_sl ([.int (nI x), .int (nI y)])).length) Slot.unset).toArray = ls at hl ⊢
  have hl : lv_has ls 2 [(0, .int (nI x)), (1, .int (nI y))] := hl
  refine lv_iload_n hx hb dX2_quotient_0 rfl (lv_at hl 1 rfl) ?_
  refine r_ifleN hx hb hy2 dX2_quotient_1 (tgt := 10) (by decide) (fun c1 => ?_) (fun c1 => ?_)
  · exact absurd c1 (Nat.ne_of_gt hy)
  · refine lv_iload_n hx hb dX2_quotient_4 rfl (lv_at hl 0 rfl) ?_
    refine lv_iload_n hx hb dX2_quotient_5 rfl (lv_at hl 1 rfl) ?_
    refine r_idivN hx hb hx0 hy hy2 dX2_quotient_6 ?_
    refine lv_goto (tgt := 11) hx hb dX2_quotient_7 (by decide) ?_
    exact r_retS (v := nI (x / y)) hx hb hr hlocks rfl dX2_quotient_11

set_option maxHeartbeats 4000000 in
set_option maxRecDepth 100000 in
/-- x % y, tested -/
theorem c_X2_remainder (l : Launch) (G : va_G) (t : gT) (x y : Nat) (hx0 : x < 2 ^ 31) (hy : 0 < y) (hy2 : y < 2 ^ 31) : Met l yX2_remainder wsX2_remainder ({ frames := 0, cells := 0, slots := 0, locals := 0 } : Room) (pc_ [.int (nI x), .int (nI y)] (fun _ _ => True)) (vp_Si (fun r => r = nI (x % y))) 0 0 (fun _ => False) := by
  refine Met.ofW (cc := cX2_remainder) (maxL := 2) (ret := (some .int)) (by decide) rfl ?_
  intro p e s m args below meth c s₁ B hml hv
  obtain ⟨rfl, hB⟩ := hv
  have hx := B.exec
  have hb := B.bytes
  have hr := B.returns
  have hts := atoms_spec (ws := wsX2_remainder) B.pre
  have hown : s.vm.findClass RX2 = some m.cls := findClass_of_methodNamed B.named
  have hlocks := B.notSynchronized
  have hl := lv_entry ([.int (nI x), .int (nI y)]) (n := 2) (Nat.le_of_ble_eq_true rfl)
  rw [lg_entry_eq]
  generalize (lg_sl ([.int (nI x), .int (nI y)]) ++ List.replicate (2 - (lg_sl ([.int (nI x), .int (nI y)])).length) Slot.unset).toArray = ls at hl ⊢
  have hl : lv_has ls 2 [(0, .int (nI x)), (1, .int (nI y))] := hl
  refine lv_iload_n hx hb dX2_remainder_0 rfl (lv_at hl 1 rfl) ?_
  refine r_ifleN hx hb hy2 dX2_remainder_1 (tgt := 10) (by decide) (fun c1 => ?_) (fun c1 => ?_)
  · exact absurd c1 (Nat.ne_of_gt hy)
  · refine lv_iload_n hx hb dX2_remainder_4 rfl (lv_at hl 0 rfl) ?_
    refine lv_iload_n hx hb dX2_remainder_5 rfl (lv_at hl 1 rfl) ?_
    refine r_iremN hx hb hx0 hy hy2 dX2_remainder_6 ?_
    refine lv_goto (tgt := 11) hx hb dX2_remainder_7 (by decide) ?_
    exact r_retS (v := nI (x % y)) hx hb hr hlocks rfl dX2_remainder_11

set_option maxRecDepth 20000 in
theorem iiX2_aimOfJumpAndStay_2 : ∀ w ∈ wsX20, w ∈ wsX2_aimOfJumpAndStay := by decide +kernel
set_option maxHeartbeats 4000000 in
set_option maxRecDepth 100000 in
/-- where a row of kind 0 points -/
theorem c_X2_aimOfJumpAndStay (l : Launch) (G : va_G) (t : gT) (o : Nat) (z : Nat → Int32) (hz : WF z) (st j c0 : Nat) (hst : st ≤ 99) (hj : 1 ≤ j) (hj2 : j ≤ 10) (hc : c0 ≤ 5000) : Met l yX2_aimOfJumpAndStay wsX2_aimOfJumpAndStay ({ frames := 1, cells := 0, slots := 0, locals := 21 } : Room) (pc_ [.ref o, .int (nI st), .int (nI j), .int (nI c0)] (fun U H => KK G t U ∧ Sc G t o z H)) (vp_Si (fun r => r = nI (jsN (cn z) st j c0))) 0 0 (fun _ => False) := by
  refine Met.ofW (cc := cX2_aimOfJumpAndStay) (maxL := 8) (ret := (some .int)) (by decide) rfl ?_
  intro p e s m args below meth c s₁ B hml hv
  obtain ⟨rfl, hB⟩ := hv
  have hx := B.exec
  have hb := B.bytes
  have hr := B.returns
  have hts := atoms_spec (ws := wsX2_aimOfJumpAndStay) B.pre
  have hown : s.vm.findClass RX2 = some m.cls := findClass_of_methodNamed B.named
  have hlocks := B.notSynchronized
  have hK := hB.1
  have hSc := hB.2
  have h0 := Sc_obj hSc
  have h1 := (Sc_rows hSc).1
  have h3 := (Sc_rows hSc).2
  have hn := hz.n
  have hu5 := hz.u5
  have hs8 := hz.s8
  have hp := prN_in (cn z)
  have a1 : c0 / (3 * prN (cn z)) ≤ c0 := Nat.div_le_self _ _
  have a2 : c0 % (3 * prN (cn z)) < 3 * prN (cn z) := Nat.mod_lt _ (by omega)
  have a3 : c0 / (3 * prN (cn z)) / prN (cn z) ≤ c0 / (3 * prN (cn z)) := Nat.div_le_self _ _
  have a4 : (j - 1 + c0 / (3 * prN (cn z)) / prN (cn z)) % cn z < cn z := Nat.mod_lt _ (by omega)
  have a5 : c0 % (3 * prN (cn z)) * (1 + (j - 1 + c0 / (3 * prN (cn z)) / prN (cn z)) % cn z) ≤ 33 * 11 := Nat.mul_le_mul (by omega) (by omega)
  have hl := lv_entry ([.ref o, .int (nI st), .int (nI j), .int (nI c0)]) (n := 8) (Nat.le_of_ble_eq_true rfl)
  rw [lg_entry_eq]
  generalize (lg_sl ([.ref o, .int (nI st), .int (nI j), .int (nI c0)]) ++ List.replicate (8 - (lg_sl ([.ref o, .int (nI st), .int (nI j), .int (nI c0)])).length) Slot.unset).toArray = ls at hl ⊢
  have hl : lv_has ls 8 [(0, .ref o), (1, .int (nI st)), (2, .int (nI j)), (3, .int (nI c0))] := hl
  refine lv_iload_n hx hb dX2_aimOfJumpAndStay_0 rfl (lv_at hl 3 rfl) ?_
  refine lv_iconst (v := nI 3) hx hb dX2_aimOfJumpAndStay_1 (by decide) ?_
  refine lv_aload_n hx hb dX2_aimOfJumpAndStay_2 rfl (lv_at hl 0 rfl) ?_
  refine r_get (C := RX2) (T := TX2) (N := 6) hx hb hts iiX2_aimOfJumpAndStay_2 hown hK h0 rfl 1 (by decide) (hts (.fieldLink RX2 31 "HopMeet$Scene" "prime" "I") (List.mem_of_getElem? (i := 1) rfl)) rfl dX2_aimOfJumpAndStay_3 ?_
  refine r_imulN hx hb dX2_aimOfJumpAndStay_6 ?_
  refine r_cS (av := [.int (nI c0), .int (nI (3 * (prN (cn z))))]) (c_X2_quotient l G t (c0) (3 * prN (cn z)) (by omega) (by omega) (by omega)) ⟨hx, hb, hml, hown, hts⟩ (va_cwS 2 hts gX2_aimOfJumpAndStay_X2_quotient rfl rfl rfl (by decide +kernel) ⟨Nat.le_of_ble_eq_true rfl, Nat.le_of_ble_eq_true rfl⟩) mv_T trivial rfl hl (Nat.le_of_ble_eq_true rfl) ⟨Nat.le_of_ble_eq_true rfl, Nat.le_of_ble_eq_true rfl⟩ rfl dX2_aimOfJumpAndStay_7 (fun r1 hr1 => ?_)
  subst hr1
  refine lv_istore (lv' := [(4, .int (nI (c0 / (3 * prN (cn z))))), (0, .ref o), (1, .int (nI st)), (2, .int (nI j)), (3, .int (nI c0))]) hx hb dX2_aimOfJumpAndStay_10 hl (by decide) rfl (fun ls hl => ?_)
  refine lv_iload_n hx hb dX2_aimOfJumpAndStay_12 rfl (lv_at hl 4 rfl) ?_
  refine lv_iconst (v := nI 3) hx hb dX2_aimOfJumpAndStay_13 (by decide) ?_
  refine lv_aload_n hx hb dX2_aimOfJumpAndStay_14 rfl (lv_at hl 1 rfl) ?_
  refine r_get (C := RX2) (T := TX2) (N := 6) hx hb hts iiX2_aimOfJumpAndStay_2 hown hK h0 rfl 1 (by decide) (hts (.fieldLink RX2 31 "HopMeet$Scene" "prime" "I") (List.mem_of_getElem? (i := 1) rfl)) rfl dX2_aimOfJumpAndStay_15 ?_
  refine r_imulN hx hb dX2_aimOfJumpAndStay_18 ?_
  refine r_cS (av := [.int (nI c0), .int (nI (3 * (prN (cn z))))]) (c_X2_remainder l G t (c0) (3 * prN (cn z)) (by omega) (by omega) (by omega)) ⟨hx, hb, hml, hown, hts⟩ (va_cwS 2 hts gX2_aimOfJumpAndStay_X2_remainder rfl rfl rfl (by decide +kernel) ⟨Nat.le_of_ble_eq_true rfl, Nat.le_of_ble_eq_true rfl⟩) mv_T trivial rfl hl (Nat.le_of_ble_eq_true rfl) ⟨Nat.le_of_ble_eq_true rfl, Nat.le_of_ble_eq_true rfl⟩ rfl dX2_aimOfJumpAndStay_19 (fun r2 hr2 => ?_)
  subst hr2
  refine lv_istore (lv' := [(5, .int (nI (c0 % (3 * prN (cn z))))), (4, .int (nI (c0 / (3 * prN (cn z))))), (0, .ref o), (1, .int (nI st)), (2, .int (nI j)), (3, .int (nI c0))]) hx hb dX2_aimOfJumpAndStay_22 hl (by decide) rfl (fun ls hl => ?_)
  refine lv_iconst (v := nI 1) hx hb dX2_aimOfJumpAndStay_24 (by decide) ?_
  refine lv_iload_n hx hb dX2_aimOfJumpAndStay_25 rfl (lv_at hl 4 rfl) ?_
  refine lv_iconst (v := nI 1) hx hb dX2_aimOfJumpAndStay_26 (by decide) ?_
  refine r_isubN hx hb hj dX2_aimOfJumpAndStay_27 ?_
  refine lv_iload hx hb dX2_aimOfJumpAndStay_28 (lv_at hl 1 rfl) ?_
  refine lv_aload_n hx hb dX2_aimOfJumpAndStay_30 rfl (lv_at hl 2 rfl) ?_
  refine r_get (C := RX2) (T := TX2) (N := 6) hx hb hts iiX2_aimOfJumpAndStay_2 hown hK h0 rfl 1 (by decide) (hts (.fieldLink RX2 31 "HopMeet$Scene" "prime" "I") (List.mem_of_getElem? (i := 1) rfl)) rfl dX2_aimOfJumpAndStay_31 ?_
  refine r_cS (av := [.int (nI (c0 / (3 * prN (cn z)))), .int (nI (prN (cn z)))]) (c_X2_quotient l G t (c0 / (3 * prN (cn z))) (prN (cn z)) (by omega) (by omega) (by omega)) ⟨hx, hb, hml, hown, hts⟩ (va_cwS 2 hts gX2_aimOfJumpAndStay_X2_quotient rfl rfl rfl (by decide +kernel) ⟨Nat.le_of_ble_eq_true rfl, Nat.le_of_ble_eq_true rfl⟩) mv_T trivial rfl hl (Nat.le_of_ble_eq_true rfl) ⟨Nat.le_of_ble_eq_true rfl, Nat.le_of_ble_eq_true rfl⟩ rfl dX2_aimOfJumpAndStay_34 (fun r3 hr3 => ?_)
  subst hr3
  refine r_iaddN hx hb dX2_aimOfJumpAndStay_37 ?_
  refine lv_aload_n hx hb dX2_aimOfJumpAndStay_38 rfl (lv_at hl 2 rfl) ?_
  refine r_get (C := RX2) (T := TX2) (N := 6) hx hb hts iiX2_aimOfJumpAndStay_2 hown hK h0 rfl 0 (by decide) (hts (.fieldLink RX2 23 "HopMeet$Scene" "channelCount" "I") (List.mem_of_getElem? (i := 2) rfl)) rfl dX2_aimOfJumpAndStay_39 ?_
  refine r_cS (av := [.int (nI ((j - 1) + ((c0 / (3 * prN (cn z))) / (prN (cn z))))), .int (nI (cn z))]) (c_X2_remainder l G t (j - 1 + c0 / (3 * prN (cn z)) / prN (cn z)) (cn z) (by omega) (by omega) (by omega)) ⟨hx, hb, hml, hown, hts⟩ (va_cwS 2 hts gX2_aimOfJumpAndStay_X2_remainder rfl rfl rfl (by decide +kernel) ⟨Nat.le_of_ble_eq_true rfl, Nat.le_of_ble_eq_true rfl⟩) mv_T trivial rfl hl (Nat.le_of_ble_eq_true rfl) ⟨Nat.le_of_ble_eq_true rfl, Nat.le_of_ble_eq_true rfl⟩ rfl dX2_aimOfJumpAndStay_42 (fun r4 hr4 => ?_)
  subst hr4
  refine r_iaddN hx hb dX2_aimOfJumpAndStay_45 ?_
  refine lv_istore (lv' := [(6, .int (nI (1 + ((j - 1 + c0 / (3 * prN (cn z)) / prN (cn z)) % (cn z))))), (5, .int (nI (c0 % (3 * prN (cn z))))), (4, .int (nI (c0 / (3 * prN (cn z))))), (0, .ref o), (1, .int (nI st)), (2, .int (nI j)), (3, .int (nI c0))]) hx hb dX2_aimOfJumpAndStay_46 hl (by decide) rfl (fun ls hl => ?_)
  refine lv_iload hx hb dX2_aimOfJumpAndStay_48 (lv_at hl 1 rfl) ?_
  refine lv_iconst (v := nI 2) hx hb dX2_aimOfJumpAndStay_50 (by decide) ?_
  refine lv_aload_n hx hb dX2_aimOfJumpAndStay_51 rfl (lv_at hl 3 rfl) ?_
  refine r_get (C := RX2) (T := TX2) (N := 6) hx hb hts iiX2_aimOfJumpAndStay_2 hown hK h0 rfl 1 (by decide) (hts (.fieldLink RX2 31 "HopMeet$Scene" "prime" "I") (List.mem_of_getElem? (i := 1) rfl)) rfl dX2_aimOfJumpAndStay_52 ?_
  refine r_imulN hx hb dX2_aimOfJumpAndStay_55 ?_
  refine r_geN hx hb (by omega) (by omega) dX2_aimOfJumpAndStay_56 (tgt := 79) (by decide) (fun c1 => ?_) (fun c1 => ?_)
  · refine lv_iload hx hb dX2_aimOfJumpAndStay_79 (lv_at hl 0 rfl) ?_
    refine lv_istore (lv' := [(7, .int (nI (1 + ((j - 1 + c0 / (3 * prN (cn z)) / prN (cn z)) % (cn z))))), (6, .int (nI (1 + ((j - 1 + c0 / (3 * prN (cn z)) / prN (cn z)) % (cn z))))), (5, .int (nI (c0 % (3 * prN (cn z))))), (4, .int (nI (c0 / (3 * prN (cn z))))), (0, .ref o), (1, .int (nI st)), (2, .int (nI j)), (3, .int (nI c0))]) hx hb dX2_aimOfJumpAndStay_81 hl (by decide) rfl (fun ls hl => ?_)
    refine lv_iload hx hb dX2_aimOfJumpAndStay_83 (lv_at hl 0 rfl) ?_
    refine lv_aload_n hx hb dX2_aimOfJumpAndStay_85 rfl (lv_at hl 4 rfl) ?_
    refine r_get (C := RX2) (T := TX2) (N := 6) hx hb hts iiX2_aimOfJumpAndStay_2 hown hK h0 rfl 0 (by decide) (hts (.fieldLink RX2 23 "HopMeet$Scene" "channelCount" "I") (List.mem_of_getElem? (i := 2) rfl)) rfl dX2_aimOfJumpAndStay_86 ?_
    refine r_cS (av := [.int (nI (1 + ((j - 1 + c0 / (3 * prN (cn z)) / prN (cn z)) % (cn z)))), .int (nI (cn z))]) (c_X2_remainder l G t (1 + ((j - 1 + c0 / (3 * prN (cn z)) / prN (cn z)) % (cn z))) (cn z) (by omega) (by omega) (by omega)) ⟨hx, hb, hml, hown, hts⟩ (va_cwS 2 hts gX2_aimOfJumpAndStay_X2_remainder rfl rfl rfl (by decide +kernel) ⟨Nat.le_of_ble_eq_true rfl, Nat.le_of_ble_eq_true rfl⟩) mv_T trivial rfl hl (Nat.le_of_ble_eq_true rfl) ⟨Nat.le_of_ble_eq_true rfl, Nat.le_of_ble_eq_true rfl⟩ rfl dX2_aimOfJumpAndStay_89 (fun r5 hr5 => ?_)
    subst hr5
    exact r_retS (v := nI ((1 + ((j - 1 + c0 / (3 * prN (cn z)) / prN (cn z)) % (cn z))) % cn z)) hx hb hr hlocks (congrArg nI (if_neg (Nat.not_lt.mpr c1)).symm) dX2_aimOfJumpAndStay_92
  · refine lv_iload_n hx hb dX2_aimOfJumpAndStay_59 rfl (lv_at hl 4 rfl) ?_
    refine lv_iload hx hb dX2_aimOfJumpAndStay_60 (lv_at hl 2 rfl) ?_
    refine r_iaddN hx hb dX2_aimOfJumpAndStay_62 ?_
    refine lv_iload hx hb dX2_aimOfJumpAndStay_63 (lv_at hl 1 rfl) ?_
    refine lv_iload hx hb dX2_aimOfJumpAndStay_65 (lv_at hl 0 rfl) ?_
    refine r_imulN hx hb dX2_aimOfJumpAndStay_67 ?_
    refine r_iaddN hx hb dX2_aimOfJumpAndStay_68 ?_
    refine lv_aload_n hx hb dX2_aimOfJumpAndStay_69 rfl (lv_at hl 3 rfl) ?_
    refine r_get (C := RX2) (T := TX2) (N := 6) hx hb hts iiX2_aimOfJumpAndStay_2 hown hK h0 rfl 1 (by decide) (hts (.fieldLink RX2 31 "HopMeet$Scene" "prime" "I") (List.mem_of_getElem? (i := 1) rfl)) rfl dX2_aimOfJumpAndStay_70 ?_
    refine r_cS (av := [.int (nI ((st + (c0 / (3 * prN (cn z)))) + ((c0 % (3 * prN (cn z))) * (1 + ((j - 1 + c0 / (3 * prN (cn z)) / prN (cn z)) % (cn z)))))), .int (nI (prN (cn z)))]) (c_X2_remainder l G t ((st + (c0 / (3 * prN (cn z)))) + ((c0 % (3 * prN (cn z))) * (1 + ((j - 1 + c0 / (3 * prN (cn z)) / prN (cn z)) % (cn z))))) (prN (cn z)) (by omega) (by omega) (by omega)) ⟨hx, hb, hml, hown, hts⟩ (va_cwS 2 hts gX2_aimOfJumpAndStay_X2_remainder rfl rfl rfl (by decide +kernel) ⟨Nat.le_of_ble_eq_true rfl, Nat.le_of_ble_eq_true rfl⟩) mv_T trivial rfl hl (Nat.le_of_ble_eq_true rfl) ⟨Nat.le_of_ble_eq_true rfl, Nat.le_of_ble_eq_true rfl⟩ rfl dX2_aimOfJumpAndStay_73 (fun r6 hr6 => ?_)
    subst hr6
    refine lv_goto (tgt := 81) hx hb dX2_aimOfJumpAndStay_76 (by decide) ?_
    refine lv_istore (lv' := [(7, .int (nI (((st + (c0 / (3 * prN (cn z)))) + ((c0 % (3 * prN (cn z))) * (1 + ((j - 1 + c0 / (3 * prN (cn z)) / prN (cn z)) % (cn z))))) % prN (cn z)))), (6, .int (nI (1 + ((j - 1 + c0 / (3 * prN (cn z)) / prN (cn z)) % (cn z))))), (5, .int (nI (c0 % (3 * prN (cn z))))), (4, .int (nI (c0 / (3 * prN (cn z))))), (0, .ref o), (1, .int (nI st)), (2, .int (nI j)), (3, .int (nI c0))]) hx hb dX2_aimOfJumpAndStay_81 hl (by decide) rfl (fun ls hl => ?_)
    refine lv_iload hx hb dX2_aimOfJumpAndStay_83 (lv_at hl 0 rfl) ?_
    refine lv_aload_n hx hb dX2_aimOfJumpAndStay_85 rfl (lv_at hl 4 rfl) ?_
    refine r_get (C := RX2) (T := TX2) (N := 6) hx hb hts iiX2_aimOfJumpAndStay_2 hown hK h0 rfl 0 (by decide) (hts (.fieldLink RX2 23 "HopMeet$Scene" "channelCount" "I") (List.mem_of_getElem? (i := 2) rfl)) rfl dX2_aimOfJumpAndStay_86 ?_
    refine r_cS (av := [.int (nI (((st + (c0 / (3 * prN (cn z)))) + ((c0 % (3 * prN (cn z))) * (1 + ((j - 1 + c0 / (3 * prN (cn z)) / prN (cn z)) % (cn z))))) % prN (cn z))), .int (nI (cn z))]) (c_X2_remainder l G t (((st + (c0 / (3 * prN (cn z)))) + ((c0 % (3 * prN (cn z))) * (1 + ((j - 1 + c0 / (3 * prN (cn z)) / prN (cn z)) % (cn z))))) % prN (cn z)) (cn z) (Nat.lt_of_lt_of_le (Nat.mod_lt _ (by omega)) (by omega : prN (cn z) ≤ 2 ^ 31)) (by omega) (by omega)) ⟨hx, hb, hml, hown, hts⟩ (va_cwS 2 hts gX2_aimOfJumpAndStay_X2_remainder rfl rfl rfl (by decide +kernel) ⟨Nat.le_of_ble_eq_true rfl, Nat.le_of_ble_eq_true rfl⟩) mv_T trivial rfl hl (Nat.le_of_ble_eq_true rfl) ⟨Nat.le_of_ble_eq_true rfl, Nat.le_of_ble_eq_true rfl⟩ rfl dX2_aimOfJumpAndStay_89 (fun r7 hr7 => ?_)
    subst hr7
    exact r_retS (v := nI ((((st + (c0 / (3 * prN (cn z)))) + ((c0 % (3 * prN (cn z))) * (1 + ((j - 1 + c0 / (3 * prN (cn z)) / prN (cn z)) % (cn z))))) % prN (cn z)) % cn z)) hx hb hr hlocks (congrArg nI (if_pos c1).symm) dX2_aimOfJumpAndStay_92

set_option maxRecDepth 20000 in
theorem iiX2_aim_2 : ∀ w ∈ wsX20, w ∈ wsX2_aim := by decide +kernel
set_option maxHeartbeats 4000000 in
set_option maxRecDepth 100000 in
/-- where a row points -/
theorem c_X2_aim (l : Launch) (G : va_G) (t : gT) (o : Nat) (z : Nat → Int32) (hz : WF z) (u c0 : Nat) (hu : u < cu z) (hc : c0 ≤ 5000) : Met l yX2_aim wsX2_aim ({ frames := 2, cells := 0, slots := 0, locals := 48 } : Room) (pc_ [.ref o, .int (nI u), .int (nI c0)] (fun U H => KK G t U ∧ Sc G t o z H)) (vp_Si (fun r => r = nI (aimN z u c0))) 0 0 (fun _ => False) := by
  refine Met.ofW (cc := cX2_aim) (maxL := 6) (ret := (some .int)) (by decide) rfl ?_
  intro p e s m args below meth c s₁ B hml hv
  obtain ⟨rfl, hB⟩ := hv
  have hx := B.exec
  have hb := B.bytes
  have hr := B.returns
  have hts := atoms_spec (ws := wsX2_aim) B.pre
  have hown : s.vm.findClass RX2 = some m.cls := findClass_of_methodNamed B.named
  have hlocks := B.notSynchronized
  have hK := hB.1
  have hSc := hB.2
  have h0 := Sc_obj hSc
  have h1 := (Sc_rows hSc).1
  have h3 := (Sc_rows hSc).2
  have hn := hz.n
  have hu5 := hz.u5
  have hs8 := hz.s8
  have hp := prN_in (cn z)
  obtain ⟨fu, hf, e0, e1, e2, e3, e4⟩ := Sc_user hSc hz hu
  have huf := hz.us hu
  have b1 := huf.1.2
  have b2 := huf.2.1.2
  have b3 := huf.2.2.1.2
  have a4 : uT z u % cn z < cn z := Nat.mod_lt _ (by omega)
  have a5 : c0 * (1 + uT z u % cn z) ≤ 5000 * 11 := Nat.mul_le_mul hc (by omega)
  have hl := lv_entry ([.ref o, .int (nI u), .int (nI c0)]) (n := 6) (Nat.le_of_ble_eq_true rfl)
  rw [lg_entry_eq]
  generalize (lg_sl ([.ref o, .int (nI u), .int (nI c0)]) ++ List.replicate (6 - (lg_sl ([.ref o, .int (nI u), .int (nI c0)])).length) Slot.unset).toArray = ls at hl ⊢
  have hl : lv_has ls 6 [(0, .ref o), (1, .int (nI u)), (2, .int (nI c0))] := hl
  refine lv_aload_n hx hb dX2_aim_0 rfl (lv_at hl 0 rfl) ?_
  refine r_get (C := RX2) (T := TX2) (N := 6) hx hb hts iiX2_aim_2 hown hK h0 rfl 4 (by decide) (hts (.fieldLink RX2 11 "HopMeet$Scene" "users" "[[I") (List.mem_of_getElem? (i := 1) rfl)) rfl dX2_aim_1 ?_
  refine lv_iload_n hx hb dX2_aim_4 rfl (lv_at hl 1 rfl) ?_
  refine r_rald hx hb hK h1 1 rfl rfl u (by omega) (by decide) (b := o + 2 + u) (rowsF_at (by omega)) dX2_aim_5 ?_
  refine lv_astore_n (lv' := [(3, .ref (o + 2 + u)), (0, .ref o), (1, .int (nI u)), (2, .int (nI c0))]) hx hb dX2_aim_6 rfl hl (by decide) rfl (fun ls hl => ?_)
  refine lv_aload_n hx hb dX2_aim_7 rfl (lv_at hl 0 rfl) ?_
  refine lv_iconst (v := nI 1) hx hb dX2_aim_8 (by decide) ?_
  refine r_iald hx hb hK hf rfl 1 (by omega) (by decide) (v := nI (uS z u)) e1 dX2_aim_9 ?_
  refine lv_istore (lv' := [(4, .int (nI (uS z u))), (3, .ref (o + 2 + u)), (0, .ref o), (1, .int (nI u)), (2, .int (nI c0))]) hx hb dX2_aim_10 hl (by decide) rfl (fun ls hl => ?_)
  refine lv_iconst (v := nI 1) hx hb dX2_aim_12 (by decide) ?_
  refine lv_aload_n hx hb dX2_aim_13 rfl (lv_at hl 1 rfl) ?_
  refine lv_iconst (v := nI 2) hx hb dX2_aim_14 (by decide) ?_
  refine r_iald hx hb hK hf rfl 2 (by omega) (by decide) (v := nI (uT z u)) e2 dX2_aim_15 ?_
  refine lv_aload_n hx hb dX2_aim_16 rfl (lv_at hl 2 rfl) ?_
  refine r_get (C := RX2) (T := TX2) (N := 6) hx hb hts iiX2_aim_2 hown hK h0 rfl 0 (by decide) (hts (.fieldLink RX2 23 "HopMeet$Scene" "channelCount" "I") (List.mem_of_getElem? (i := 2) rfl)) rfl dX2_aim_17 ?_
  refine r_cS (av := [.int (nI (uT z u)), .int (nI (cn z))]) (c_X2_remainder l G t (uT z u) (cn z) (by omega) (by omega) (by omega)) ⟨hx, hb, hml, hown, hts⟩ (va_cwS 2 hts gX2_aim_X2_remainder rfl rfl rfl (by decide +kernel) ⟨Nat.le_of_ble_eq_true rfl, Nat.le_of_ble_eq_true rfl⟩) mv_T trivial rfl hl (Nat.le_of_ble_eq_true rfl) ⟨Nat.le_of_ble_eq_true rfl, Nat.le_of_ble_eq_true rfl⟩ rfl dX2_aim_20 (fun r1 hr1 => ?_)
  subst hr1
  refine r_iaddN hx hb dX2_aim_23 ?_
  refine lv_istore (lv' := [(5, .int (nI (1 + ((uT z u) % (cn z))))), (4, .int (nI (uS z u))), (3, .ref (o + 2 + u)), (0, .ref o), (1, .int (nI u)), (2, .int (nI c0))]) hx hb dX2_aim_24 hl (by decide) rfl (fun ls hl => ?_)
  refine lv_aload_n hx hb dX2_aim_26 rfl (lv_at hl 2 rfl) ?_
  refine lv_iconst (v := nI 0) hx hb dX2_aim_27 (by decide) ?_
  refine r_iald hx hb hK hf rfl 0 (by omega) (by decide) (v := nI (uR z u)) e0 dX2_aim_28 ?_
  rcases (show uR z u = 0 ∨ uR z u = 1 ∨ uR z u = 2 ∨ uR z u = 3 by omega) with hk | hk | hk | hk
  · rw [hk]
    refine lv_tableIn (off := 27) (tgt := 56) hx hb dX2_aim_29 (by decide) (by decide) (by decide) (by decide) ?_
    refine lv_aload_n hx hb dX2_aim_56 rfl (lv_at hl 3 rfl) ?_
    refine lv_iload hx hb dX2_aim_57 (lv_at hl 1 rfl) ?_
    refine lv_iload hx hb dX2_aim_59 (lv_at hl 0 rfl) ?_
    refine lv_iload_n hx hb dX2_aim_61 rfl (lv_at hl 5 rfl) ?_
    refine r_cV (av := [.int (nI (uS z u)), .int (nI (1 + ((uT z u) % (cn z)))), .int (nI c0)]) (c_X2_aimOfJumpAndStay l G t o z hz (uS z u) (1 + uT z u % cn z) c0 b2 (by omega) (by omega) hc) ⟨hx, hb, hml, hown, hts⟩ (cwV 3 hts gX2_aim_X2_aimOfJumpAndStay rfl rfl rfl (by decide +kernel) ⟨Nat.le_of_ble_eq_true rfl, Nat.le_of_ble_eq_true rfl⟩) mv_K hB (at_recv hK h0 rfl) rfl hl (Nat.le_of_ble_eq_true rfl) ⟨Nat.le_of_ble_eq_true rfl, Nat.le_of_ble_eq_true rfl⟩ rfl dX2_aim_62 (fun r2 hr2 => ?_)
    subst hr2
    exact r_retS (v := nI (jsN (cn z) (uS z u) (1 + uT z u % cn z) c0)) hx hb hr hlocks (congrArg nI (show _ = aimN z u c0 by unfold aimN ptsN; rw [if_pos hk])) dX2_aim_65
  · rw [hk]
    refine lv_tableIn (off := 37) (tgt := 66) hx hb dX2_aim_29 (by decide) (by decide) (by decide) (by decide) ?_
    refine lv_iload hx hb dX2_aim_66 (lv_at hl 1 rfl) ?_
    refine lv_iload_n hx hb dX2_aim_68 rfl (lv_at hl 5 rfl) ?_
    refine r_iaddN hx hb dX2_aim_69 ?_
    refine lv_aload_n hx hb dX2_aim_70 rfl (lv_at hl 3 rfl) ?_
    refine r_get (C := RX2) (T := TX2) (N := 6) hx hb hts iiX2_aim_2 hown hK h0 rfl 0 (by decide) (hts (.fieldLink RX2 23 "HopMeet$Scene" "channelCount" "I") (List.mem_of_getElem? (i := 2) rfl)) rfl dX2_aim_71 ?_
    refine r_cS (av := [.int (nI ((uS z u) + c0)), .int (nI (cn z))]) (c_X2_remainder l G t (uS z u + c0) (cn z) (by omega) (by omega) (by omega)) ⟨hx, hb, hml, hown, hts⟩ (va_cwS 2 hts gX2_aim_X2_remainder rfl rfl rfl (by decide +kernel) ⟨Nat.le_of_ble_eq_true rfl, Nat.le_of_ble_eq_true rfl⟩) mv_T trivial rfl hl (Nat.le_of_ble_eq_true rfl) ⟨Nat.le_of_ble_eq_true rfl, Nat.le_of_ble_eq_true rfl⟩ rfl dX2_aim_74 (fun r3 hr3 => ?_)
    subst hr3
    exact r_retS (v := nI ((uS z u + c0) % (cn z))) hx hb hr hlocks (congrArg nI (show _ = aimN z u c0 by unfold aimN ptsN; rw [if_neg (by omega), if_pos hk])) dX2_aim_77
  · rw [hk]
    refine lv_tableIn (off := 49) (tgt := 78) hx hb dX2_aim_29 (by decide) (by decide) (by decide) (by decide) ?_
    refine lv_iload hx hb dX2_aim_78 (lv_at hl 1 rfl) ?_
    refine lv_aload_n hx hb dX2_aim_80 rfl (lv_at hl 3 rfl) ?_
    refine r_get (C := RX2) (T := TX2) (N := 6) hx hb hts iiX2_aim_2 hown hK h0 rfl 0 (by decide) (hts (.fieldLink RX2 23 "HopMeet$Scene" "channelCount" "I") (List.mem_of_getElem? (i := 2) rfl)) rfl dX2_aim_81 ?_
    refine r_cS (av := [.int (nI (uS z u)), .int (nI (cn z))]) (c_X2_remainder l G t (uS z u) (cn z) (by omega) (by omega) (by omega)) ⟨hx, hb, hml, hown, hts⟩ (va_cwS 2 hts gX2_aim_X2_remainder rfl rfl rfl (by decide +kernel) ⟨Nat.le_of_ble_eq_true rfl, Nat.le_of_ble_eq_true rfl⟩) mv_T trivial rfl hl (Nat.le_of_ble_eq_true rfl) ⟨Nat.le_of_ble_eq_true rfl, Nat.le_of_ble_eq_true rfl⟩ rfl dX2_aim_84 (fun r4 hr4 => ?_)
    subst hr4
    exact r_retS (v := nI ((uS z u) % (cn z))) hx hb hr hlocks (congrArg nI (show _ = aimN z u c0 by unfold aimN ptsN; rw [if_neg (by omega), if_neg (by omega), if_pos hk])) dX2_aim_87
  · rw [hk]
    refine lv_tableOut (tgt := 88) hx hb dX2_aim_29 (Or.inr (by decide)) (by decide) ?_
    refine lv_iload hx hb dX2_aim_88 (lv_at hl 1 rfl) ?_
    refine lv_iload_n hx hb dX2_aim_90 rfl (lv_at hl 5 rfl) ?_
    refine lv_iload hx hb dX2_aim_91 (lv_at hl 0 rfl) ?_
    refine r_imulN hx hb dX2_aim_93 ?_
    refine r_iaddN hx hb dX2_aim_94 ?_
    refine lv_aload_n hx hb dX2_aim_95 rfl (lv_at hl 3 rfl) ?_
    refine r_get (C := RX2) (T := TX2) (N := 6) hx hb hts iiX2_aim_2 hown hK h0 rfl 1 (by decide) (hts (.fieldLink RX2 31 "HopMeet$Scene" "prime" "I") (List.mem_of_getElem? (i := 3) rfl)) rfl dX2_aim_96 ?_
    refine r_cS (av := [.int (nI ((uS z u) + (c0 * (1 + ((uT z u) % (cn z)))))), .int (nI (prN (cn z)))]) (c_X2_remainder l G t (uS z u + c0 * (1 + uT z u % cn z)) (prN (cn z)) (by omega) (by omega) (by omega)) ⟨hx, hb, hml, hown, hts⟩ (va_cwS 2 hts gX2_aim_X2_remainder rfl rfl rfl (by decide +kernel) ⟨Nat.le_of_ble_eq_true rfl, Nat.le_of_ble_eq_true rfl⟩) mv_T trivial rfl hl (Nat.le_of_ble_eq_true rfl) ⟨Nat.le_of_ble_eq_true rfl, Nat.le_of_ble_eq_true rfl⟩ rfl dX2_aim_99 (fun r5 hr5 => ?_)
    subst hr5
    refine lv_aload_n hx hb dX2_aim_102 rfl (lv_at hl 3 rfl) ?_
    refine r_get (C := RX2) (T := TX2) (N := 6) hx hb hts iiX2_aim_2 hown hK h0 rfl 0 (by decide) (hts (.fieldLink RX2 23 "HopMeet$Scene" "channelCount" "I") (List.mem_of_getElem? (i := 2) rfl)) rfl dX2_aim_103 ?_
    refine r_cS (av := [.int (nI ((uS z u + c0 * (1 + uT z u % cn z)) % (prN (cn z)))), .int (nI (cn z))]) (c_X2_remainder l G t ((uS z u + c0 * (1 + uT z u % cn z)) % prN (cn z)) (cn z) (Nat.lt_of_lt_of_le (Nat.mod_lt _ (by omega)) (by omega : prN (cn z) ≤ 2 ^ 31)) (by omega) (by omega)) ⟨hx, hb, hml, hown, hts⟩ (va_cwS 2 hts gX2_aim_X2_remainder rfl rfl rfl (by decide +kernel) ⟨Nat.le_of_ble_eq_true rfl, Nat.le_of_ble_eq_true rfl⟩) mv_T trivial rfl hl (Nat.le_of_ble_eq_true rfl) ⟨Nat.le_of_ble_eq_true rfl, Nat.le_of_ble_eq_true rfl⟩ rfl dX2_aim_106 (fun r6 hr6 => ?_)
    subst hr6
    exact r_retS (v := nI (((uS z u + c0 * (1 + uT z u % cn z)) % prN (cn z)) % (cn z))) hx hb hr hlocks (congrArg nI (show _ = aimN z u c0 by unfold aimN ptsN; rw [if_neg (by omega), if_neg (by omega), if_neg (by omega)])) dX2_aim_109

set_option maxRecDepth 20000 in
theorem iiX2_placeByClock_2 : ∀ w ∈ wsX20, w ∈ wsX2_placeByClock := by decide +kernel
set_option maxHeartbeats 4000000 in
set_option maxRecDepth 100000 in
/-- where a user is by its clock -/
theorem c_X2_placeByClock (l : Launch) (G : va_G) (t : gT) (o : Nat) (z : Nat → Int32) (hz : WF z) (u c0 : Nat) (hu : u < cu z) (hc : c0 ≤ 5000) : Met l yX2_placeByClock wsX2_placeByClock ({ frames := 3, cells := 0, slots := 0, locals := 73 } : Room) (pc_ [.ref o, .int (nI u), .int (nI c0)] (fun U H => KK G t U ∧ Sc G t o z H)) (vp_Si (fun r => r = plN z u c0)) 0 0 (fun _ => False) := by
  refine Met.ofW (cc := cX2_placeByClock) (maxL := 5) (ret := (some .int)) (by decide) rfl ?_
  intro p e s m args below meth c s₁ B hml hv
  obtain ⟨rfl, hB⟩ := hv
  have hx := B.exec
  have hb := B.bytes
  have hr := B.returns
  have hts := atoms_spec (ws := wsX2_placeByClock) B.pre
  have hown : s.vm.findClass RX2 = some m.cls := findClass_of_methodNamed B.named
  have hlocks := B.notSynchronized
  have hK := hB.1
  have hSc := hB.2
  have h0 := Sc_obj hSc
  have h1 := (Sc_rows hSc).1
  have h3 := (Sc_rows hSc).2
  have hn := hz.n
  have hu5 := hz.u5
  have hs8 := hz.s8
  have hp := prN_in (cn z)
  obtain ⟨fu, hf, e0, e1, e2, e3, e4⟩ := Sc_user hSc hz hu
  have huf := hz.us hu
  have b5 := hz.o hu
  have b6 := hz.aim u c0
  have hl := lv_entry ([.ref o, .int (nI u), .int (nI c0)]) (n := 5) (Nat.le_of_ble_eq_true rfl)
  rw [lg_entry_eq]
  generalize (lg_sl ([.ref o, .int (nI u), .int (nI c0)]) ++ List.replicate (5 - (lg_sl ([.ref o, .int (nI u), .int (nI c0)])).length) Slot.unset).toArray = ls at hl ⊢
  have hl : lv_has ls 5 [(0, .ref o), (1, .int (nI u)), (2, .int (nI c0))] := hl
  refine lv_aload_n hx hb dX2_placeByClock_0 rfl (lv_at hl 0 rfl) ?_
  refine r_get (C := RX2) (T := TX2) (N := 6) hx hb hts iiX2_placeByClock_2 hown hK h0 rfl 4 (by decide) (hts (.fieldLink RX2 11 "HopMeet$Scene" "users" "[[I") (List.mem_of_getElem? (i := 1) rfl)) rfl dX2_placeByClock_1 ?_
  refine lv_iload_n hx hb dX2_placeByClock_4 rfl (lv_at hl 1 rfl) ?_
  refine r_rald hx hb hK h1 1 rfl rfl u (by omega) (by decide) (b := o + 2 + u) (rowsF_at (by omega)) dX2_placeByClock_5 ?_
  refine lv_iconst (v := nI 4) hx hb dX2_placeByClock_6 (by decide) ?_
  refine r_iald hx hb hK hf rfl 4 (by omega) (by decide) (v := nI (uO z u)) e4 dX2_placeByClock_7 ?_
  refine lv_istore_n (lv' := [(3, .int (nI (uO z u))), (0, .ref o), (1, .int (nI u)), (2, .int (nI c0))]) hx hb dX2_placeByClock_8 rfl hl (by decide) rfl (fun ls hl => ?_)
  refine lv_iload_n hx hb dX2_placeByClock_9 rfl (lv_at hl 0 rfl) ?_
  refine r_ifneN hx hb (by omega) dX2_placeByClock_10 (tgt := 15) (by decide) (fun c1 => ?_) (fun c1 => ?_)
  · refine lv_aload_n hx hb dX2_placeByClock_15 rfl (lv_at hl 1 rfl) ?_
    refine lv_iload_n hx hb dX2_placeByClock_16 rfl (lv_at hl 2 rfl) ?_
    refine lv_iload_n hx hb dX2_placeByClock_17 rfl (lv_at hl 3 rfl) ?_
    refine r_cV (av := [.int (nI u), .int (nI c0)]) (c_X2_aim l G t o z hz u c0 hu hc) ⟨hx, hb, hml, hown, hts⟩ (cwV 2 hts gX2_placeByClock_X2_aim rfl rfl rfl (by decide +kernel) ⟨Nat.le_of_ble_eq_true rfl, Nat.le_of_ble_eq_true rfl⟩) mv_K hB (at_recv hK h0 rfl) rfl hl (Nat.le_of_ble_eq_true rfl) ⟨Nat.le_of_ble_eq_true rfl, Nat.le_of_ble_eq_true rfl⟩ rfl dX2_placeByClock_18 (fun r1 hr1 => ?_)
    subst hr1
    refine lv_istore (lv' := [(4, .int (nI (aimN z u c0))), (3, .int (nI (uO z u))), (0, .ref o), (1, .int (nI u)), (2, .int (nI c0))]) hx hb dX2_placeByClock_21 hl (by decide) rfl (fun ls hl => ?_)
    refine lv_iload_n hx hb dX2_placeByClock_23 rfl (lv_at hl 1 rfl) ?_
    refine lv_iload hx hb dX2_placeByClock_24 (lv_at hl 0 rfl) ?_
    refine r_cS (av := [.int (nI (uO z u)), .int (nI (aimN z u c0))]) (c_X2_holds l G t (uO z u) (aimN z u c0) (by omega) (by omega)) ⟨hx, hb, hml, hown, hts⟩ (va_cwS 2 hts gX2_placeByClock_X2_holds rfl rfl rfl (by decide +kernel) ⟨Nat.le_of_ble_eq_true rfl, Nat.le_of_ble_eq_true rfl⟩) mv_T trivial rfl hl (Nat.le_of_ble_eq_true rfl) ⟨Nat.le_of_ble_eq_true rfl, Nat.le_of_ble_eq_true rfl⟩ rfl dX2_placeByClock_26 (fun r2 hr2 => ?_)
    subst hr2
    refine r_ifeqB hx hb dX2_placeByClock_29 (tgt := 37) (by decide) (fun c2 => ?_) (fun c2 => ?_)
    · refine lv_iload_n hx hb dX2_placeByClock_37 rfl (lv_at hl 1 rfl) ?_
      refine lv_iload hx hb dX2_placeByClock_38 (lv_at hl 0 rfl) ?_
      refine lv_iload_n hx hb dX2_placeByClock_40 rfl (lv_at hl 1 rfl) ?_
      refine r_cS (av := [.int (nI (uO z u))]) (c_J6_bitCount_0f7a4 l G t (uO z u) b5) ⟨hx, hb, hml, hown, hts⟩ (va_cwS 1 hts gX2_placeByClock_J6_bitCount_0f7a4 rfl rfl rfl (by decide +kernel) ⟨Nat.le_of_ble_eq_true rfl, Nat.le_of_ble_eq_true rfl⟩) mv_T trivial rfl hl (Nat.le_of_ble_eq_true rfl) ⟨Nat.le_of_ble_eq_true rfl, Nat.le_of_ble_eq_true rfl⟩ rfl dX2_placeByClock_41 (fun r3 hr3 => ?_)
      subst hr3
      have b7 := ones_pos _ b5 (Nat.pos_of_ne_zero c1)
      have b8 := ones_le _ b5
      refine r_cS (av := [.int (nI (aimN z u c0)), .int (nI (onesN (uO z u)))]) (c_X2_remainder l G t (aimN z u c0) (onesN (uO z u)) (by omega) (by omega) (by omega)) ⟨hx, hb, hml, hown, hts⟩ (va_cwS 2 hts gX2_placeByClock_X2_remainder rfl rfl rfl (by decide +kernel) ⟨Nat.le_of_ble_eq_true rfl, Nat.le_of_ble_eq_true rfl⟩) mv_T trivial rfl hl (Nat.le_of_ble_eq_true rfl) ⟨Nat.le_of_ble_eq_true rfl, Nat.le_of_ble_eq_true rfl⟩ rfl dX2_placeByClock_44 (fun r4 hr4 => ?_)
      subst hr4
      refine r_cS (av := [.int (nI (uO z u)), .int (nI ((aimN z u c0) % (onesN (uO z u))))]) (c_X2_memberWithNumber l G t (uO z u) (aimN z u c0 % onesN (uO z u)) b5 (Nat.mod_lt _ b7)) ⟨hx, hb, hml, hown, hts⟩ (va_cwS 2 hts gX2_placeByClock_X2_memberWithNumber rfl rfl rfl (by decide +kernel) ⟨Nat.le_of_ble_eq_true rfl, Nat.le_of_ble_eq_true rfl⟩) mv_T trivial rfl hl (Nat.le_of_ble_eq_true rfl) ⟨Nat.le_of_ble_eq_true rfl, Nat.le_of_ble_eq_true rfl⟩ rfl dX2_placeByClock_47 (fun r5 hr5 => ?_)
      subst hr5
      exact r_retS (v := nI (mwN (uO z u) 10 0 (aimN z u c0 % onesN (uO z u)))) hx hb hr hlocks ((plN_1 c1).trans (congrArg nI (if_neg (of_decide_eq_false c2)))).symm dX2_placeByClock_50
    · refine lv_iload hx hb dX2_placeByClock_32 (lv_at hl 0 rfl) ?_
      refine lv_goto (tgt := 50) hx hb dX2_placeByClock_34 (by decide) ?_
      exact r_retS (v := nI (aimN z u c0)) hx hb hr hlocks ((plN_1 c1).trans (congrArg nI (if_pos (of_decide_eq_true c2)))).symm dX2_placeByClock_50
  · refine lv_iconst (v := (-1)) hx hb dX2_placeByClock_13 (by decide) ?_
    exact r_retS (v := (-1)) hx hb hr hlocks (plN_0 c1).symm dX2_placeByClock_14

set_option maxRecDepth 20000 in
theorem iiX2_isShut_2 : ∀ w ∈ wsX20, w ∈ wsX2_isShut := by decide +kernel
set_option maxHeartbeats 4000000 in
set_option maxRecDepth 100000 in
/-- whether a channel is shut for a user at a slot -/
theorem c_X2_isShut (l : Launch) (G : va_G) (t : gT) (o : Nat) (z : Nat → Int32) (hz : WF z) (u y : Nat) (ch : Int32) (hu : u < cu z) (hy : y ≤ 5000) : Met l yX2_isShut wsX2_isShut ({ frames := 0, cells := 0, slots := 0, locals := 0 } : Room) (pc_ [.ref o, .int (nI u), .int ch, .int (nI y)] (fun U H => KK G t U ∧ Sc G t o z H)) (vp_Si (fun r => r = bI (shB z u ch y (cs z)))) 0 0 (fun _ => False) := by
  refine Met.ofW (cc := cX2_isShut) (maxL := 8) (ret := (some .boolean)) (by decide) rfl ?_
  intro p e s m args below meth c s₁ B hml hv
  obtain ⟨rfl, hB⟩ := hv
  have hx := B.exec
  have hb := B.bytes
  have hr := B.returns
  have hts := atoms_spec (ws := wsX2_isShut) B.pre
  have hown : s.vm.findClass RX2 = some m.cls := findClass_of_methodNamed B.named
  have hlocks := B.notSynchronized
  have hK := hB.1
  have hSc := hB.2
  have h0 := Sc_obj hSc
  have h1 := (Sc_rows hSc).1
  have h3 := (Sc_rows hSc).2
  have hn := hz.n
  have hu5 := hz.u5
  have hs8 := hz.s8
  have hp := prN_in (cn z)
  have hl := lv_entry ([.ref o, .int (nI u), .int ch, .int (nI y)]) (n := 8) (Nat.le_of_ble_eq_true rfl)
  rw [lg_entry_eq]
  generalize (lg_sl ([.ref o, .int (nI u), .int ch, .int (nI y)]) ++ List.replicate (8 - (lg_sl ([.ref o, .int (nI u), .int ch, .int (nI y)])).length) Slot.unset).toArray = ls at hl ⊢
  have hl : lv_has ls 8 [(0, .ref o), (1, .int (nI u)), (2, .int ch), (3, .int (nI y))] := hl
  refine lv_iconst (v := nI 0) hx hb dX2_isShut_0 (by decide) ?_
  refine lv_istore (lv' := [(4, .int (nI 0)), (0, .ref o), (1, .int (nI u)), (2, .int ch), (3, .int (nI y))]) hx hb dX2_isShut_1 hl (by decide) rfl (fun ls hl => ?_)
  have loop3 : ∀ (fu : Nat) (j : Nat) (hj : j ≤ cs z) (hd : shB z u ch y j = false) (hfu : cs z - j < fu) (ls : Array Slot) (hl : lv_has ls 8 [(0, .ref o), (1, .int (nI u)), (2, .int ch), (3, .int (nI y)), (4, .int (nI j))]), W p l e (headSpec wsX2_isShut ({ frames := 0, cells := 0, slots := 0, locals := 0 } : Room)).room s m ([.ref o, .int (nI u), .int ch, .int (nI y)] : List Value).toArray below meth c s.heap [] 0 0 (MQ below (vp_Si (fun r => r = bI (shB z u ch y (cs z)))) ([.ref o, .int (nI u), .int ch, .int (nI y)] : List Value).toArray s 0 0 (fun _ => False)) (F0 m 3 ls []) := by
    intro fu
    induction fu with
    | zero => intro j hj hd hfu; exact absurd hfu (Nat.not_lt_zero _)
    | succ fu3 ih3 =>
      intro j hj hd hfu ls hl
      refine lv_iload hx hb dX2_isShut_3 (lv_at hl 4 rfl) ?_
      refine lv_aload_n hx hb dX2_isShut_5 rfl (lv_at hl 0 rfl) ?_
      refine r_get (C := RX2) (T := TX2) (N := 6) hx hb hts iiX2_isShut_2 hown hK h0 rfl 3 (by decide) (hts (.fieldLink RX2 37 "HopMeet$Scene" "spellCount" "I") (List.mem_of_getElem? (i := 1) rfl)) rfl dX2_isShut_6 ?_
      refine r_geN hx hb (by omega) (by omega) dX2_isShut_9 (tgt := 87) (by decide) (fun c1 => ?_) (fun c1 => ?_)
      · refine lv_iconst (v := nI 0) hx hb dX2_isShut_87 (by decide) ?_
        exact r_retZ (v := nI 0) hx hb hr hlocks false rfl (by rw [show cs z = j by omega, hd]; rfl) dX2_isShut_88
      · obtain ⟨fs, hg, s0, s1, s2, s3⟩ := Sc_spell hSc hz c1
        have hsf := hz.sp c1
        have hsl := hsf.2.2.1.2
        have hsm := hsf.2.2.2.2
        refine lv_aload_n hx hb dX2_isShut_12 rfl (lv_at hl 0 rfl) ?_
        refine r_get (C := RX2) (T := TX2) (N := 6) hx hb hts iiX2_isShut_2 hown hK h0 rfl 5 (by decide) (hts (.fieldLink RX2 16 "HopMeet$Scene" "spells" "[[I") (List.mem_of_getElem? (i := 2) rfl)) rfl dX2_isShut_13 ?_
        refine lv_iload hx hb dX2_isShut_16 (lv_at hl 4 rfl) ?_
        refine r_rald hx hb hK h3 1 rfl rfl j (by omega) (by decide) (b := o + 8 + j) (rowsF_at (by omega)) dX2_isShut_18 ?_
        refine lv_astore (lv' := [(5, .ref (o + 8 + j)), (0, .ref o), (1, .int (nI u)), (2, .int ch), (3, .int (nI y)), (4, .int (nI j))]) hx hb dX2_isShut_19 hl (by decide) rfl (fun ls hl => ?_)
        refine lv_aload hx hb dX2_isShut_21 (lv_at hl 0 rfl) ?_
        refine lv_iconst (v := nI 1) hx hb dX2_isShut_23 (by decide) ?_
        refine r_iald hx hb hK hg rfl 1 (by omega) (by decide) (v := nI (sC z j)) s1 dX2_isShut_24 ?_
        refine lv_iload_n hx hb dX2_isShut_25 rfl (lv_at hl 3 rfl) ?_
        refine lv_icmp_ne (tgt := 49) hx hb dX2_isShut_26 (by decide) (fun c2 => ?_) (fun c2 => ?_)
        · refine lv_iconst (v := nI 0) hx hb dX2_isShut_49 (by decide) ?_
          refine lv_istore (lv' := [(6, .int (nI 0)), (5, .ref (o + 8 + j)), (0, .ref o), (1, .int (nI u)), (2, .int ch), (3, .int (nI y)), (4, .int (nI j))]) hx hb dX2_isShut_50 hl (by decide) rfl (fun ls hl => ?_)
          refine lv_iload_n hx hb dX2_isShut_52 rfl (lv_at hl 5 rfl) ?_
          refine lv_aload hx hb dX2_isShut_53 (lv_at hl 1 rfl) ?_
          refine lv_iconst (v := nI 2) hx hb dX2_isShut_55 (by decide) ?_
          refine r_iald hx hb hK hg rfl 2 (by omega) (by decide) (v := nI (sL z j)) s2 dX2_isShut_56 ?_
          rcases Nat.lt_or_ge y (sL z j) with hw | hw
          · refine lv_isub hx hb dX2_isShut_57 ?_
            refine lv_istore (lv' := [(7, .int ((nI y) - (nI (sL z j)))), (6, .int (nI 0)), (5, .ref (o + 8 + j)), (0, .ref o), (1, .int (nI u)), (2, .int ch), (3, .int (nI y)), (4, .int (nI j))]) hx hb dX2_isShut_58 hl (by decide) rfl (fun ls hl => ?_)
            refine lv_iload hx hb dX2_isShut_60 (lv_at hl 1 rfl) ?_
            refine r_ifeqN hx hb (by omega) dX2_isShut_62 (tgt := 81) (by decide) (fun _ => ?_) (fun c1 => absurd c1 (by decide))
            refine lv_iinc (v := nI (j + 1)) (lv' := [(4, .int (nI (j + 1))), (7, .int ((nI y) - (nI (sL z j)))), (6, .int (nI 0)), (5, .ref (o + 8 + j)), (0, .ref o), (1, .int (nI u)), (2, .int ch), (3, .int (nI y))]) hx hb dX2_isShut_81 hl (k := 7) rfl (nI_1 _) (by decide) rfl (fun ls hl => ?_)
            refine lv_goto (tgt := 3) hx hb dX2_isShut_84 (by decide) ?_
            exact ih3 (j + 1) c1 (shB_no hd (sh_no hsf (fun q => by obtain ⟨q1, q2, q3, q4⟩ := q; first | exact c2 q1 | (rcases q2 with q2 | q2; exact c3 q2; exact c4 q2) | omega))) (by omega) ls (lv_sub hl [4, 5, 6, 7, 0] rfl)
          · refine r_isubN hx hb hw dX2_isShut_57 ?_
            refine lv_istore (lv' := [(7, .int (nI (y - (sL z j)))), (6, .int (nI 0)), (5, .ref (o + 8 + j)), (0, .ref o), (1, .int (nI u)), (2, .int ch), (3, .int (nI y)), (4, .int (nI j))]) hx hb dX2_isShut_58 hl (by decide) rfl (fun ls hl => ?_)
            refine lv_iload hx hb dX2_isShut_60 (lv_at hl 1 rfl) ?_
            refine r_ifeqN hx hb (by omega) dX2_isShut_62 (tgt := 81) (by decide) (fun _ => ?_) (fun c2 => absurd c2 (by decide))
            refine lv_iinc (v := nI (j + 1)) (lv' := [(4, .int (nI (j + 1))), (7, .int (nI (y - (sL z j)))), (6, .int (nI 0)), (5, .ref (o + 8 + j)), (0, .ref o), (1, .int (nI u)), (2, .int ch), (3, .int (nI y))]) hx hb dX2_isShut_81 hl (k := 7) rfl (nI_1 _) (by decide) rfl (fun ls hl => ?_)
            refine lv_goto (tgt := 3) hx hb dX2_isShut_84 (by decide) ?_
            exact ih3 (j + 1) c1 (shB_no hd (sh_no hsf (fun q => by obtain ⟨q1, q2, q3, q4⟩ := q; first | exact c2 q1 | (rcases q2 with q2 | q2; exact c3 q2; exact c4 q2) | omega))) (by omega) ls (lv_sub hl [4, 5, 6, 7, 0] rfl)
        · refine lv_aload hx hb dX2_isShut_29 (lv_at hl 0 rfl) ?_
          refine lv_iconst (v := nI 0) hx hb dX2_isShut_31 (by decide) ?_
          refine r_iald hx hb hK hg rfl 0 (by omega) (by decide) (v := sU z j) s0 dX2_isShut_32 ?_
          refine lv_iconst (v := (-1)) hx hb dX2_isShut_33 (by decide) ?_
          refine lv_icmp_eq (tgt := 45) hx hb dX2_isShut_34 (by decide) (fun c3 => ?_) (fun c3 => ?_)
          · refine lv_iconst (v := nI 1) hx hb dX2_isShut_45 (by decide) ?_
            refine lv_goto (tgt := 50) hx hb dX2_isShut_46 (by decide) ?_
            refine lv_istore (lv' := [(6, .int (nI 1)), (5, .ref (o + 8 + j)), (0, .ref o), (1, .int (nI u)), (2, .int ch), (3, .int (nI y)), (4, .int (nI j))]) hx hb dX2_isShut_50 hl (by decide) rfl (fun ls hl => ?_)
            refine lv_iload_n hx hb dX2_isShut_52 rfl (lv_at hl 5 rfl) ?_
            refine lv_aload hx hb dX2_isShut_53 (lv_at hl 1 rfl) ?_
            refine lv_iconst (v := nI 2) hx hb dX2_isShut_55 (by decide) ?_
            refine r_iald hx hb hK hg rfl 2 (by omega) (by decide) (v := nI (sL z j)) s2 dX2_isShut_56 ?_
            rcases Nat.lt_or_ge y (sL z j) with hw | hw
            · refine lv_isub hx hb dX2_isShut_57 ?_
              refine lv_istore (lv' := [(7, .int ((nI y) - (nI (sL z j)))), (6, .int (nI 1)), (5, .ref (o + 8 + j)), (0, .ref o), (1, .int (nI u)), (2, .int ch), (3, .int (nI y)), (4, .int (nI j))]) hx hb dX2_isShut_58 hl (by decide) rfl (fun ls hl => ?_)
              refine lv_iload hx hb dX2_isShut_60 (lv_at hl 1 rfl) ?_
              refine r_ifeqN hx hb (by omega) dX2_isShut_62 (tgt := 81) (by decide) (fun c3 => absurd c3 (by decide)) (fun _ => ?_)
              refine lv_iload hx hb dX2_isShut_65 (lv_at hl 0 rfl) ?_
              refine lv_if_lt (tgt := 81) hx hb dX2_isShut_67 (by decide) (fun c5 => ?_) (fun c5 => ?_)
              · refine lv_iinc (v := nI (j + 1)) (lv' := [(4, .int (nI (j + 1))), (7, .int ((nI y) - (nI (sL z j)))), (6, .int (nI 1)), (5, .ref (o + 8 + j)), (0, .ref o), (1, .int (nI u)), (2, .int ch), (3, .int (nI y))]) hx hb dX2_isShut_81 hl (k := 7) rfl (nI_1 _) (by decide) rfl (fun ls hl => ?_)
                refine lv_goto (tgt := 3) hx hb dX2_isShut_84 (by decide) ?_
                exact ih3 (j + 1) c1 (shB_no hd (sh_no hsf (fun q => by obtain ⟨q1, q2, q3, q4⟩ := q; first | exact c2 q1 | (rcases q2 with q2 | q2; exact c3 q2; exact c4 q2) | omega))) (by omega) ls (lv_sub hl [4, 5, 6, 7, 0] rfl)
              · exact absurd (pk_sneg (by omega) hw) c5
            · refine r_isubN hx hb hw dX2_isShut_57 ?_
              refine lv_istore (lv' := [(7, .int (nI (y - (sL z j)))), (6, .int (nI 1)), (5, .ref (o + 8 + j)), (0, .ref o), (1, .int (nI u)), (2, .int ch), (3, .int (nI y)), (4, .int (nI j))]) hx hb dX2_isShut_58 hl (by decide) rfl (fun ls hl => ?_)
              refine lv_iload hx hb dX2_isShut_60 (lv_at hl 1 rfl) ?_
              refine r_ifeqN hx hb (by omega) dX2_isShut_62 (tgt := 81) (by decide) (fun c4 => absurd c4 (by decide)) (fun _ => ?_)
              refine lv_iload hx hb dX2_isShut_65 (lv_at hl 0 rfl) ?_
              refine lv_if_lt (tgt := 81) hx hb dX2_isShut_67 (by decide) (fun c5 => absurd c5 (nI_pos (by omega))) (fun _ => ?_)
              refine lv_iload hx hb dX2_isShut_70 (lv_at hl 0 rfl) ?_
              refine lv_aload hx hb dX2_isShut_72 (lv_at hl 2 rfl) ?_
              refine lv_iconst (v := nI 3) hx hb dX2_isShut_74 (by decide) ?_
              refine r_iald hx hb hK hg rfl 3 (by omega) (by decide) (v := nI (sM z j)) s3 dX2_isShut_75 ?_
              refine r_geN hx hb (by omega) (by omega) dX2_isShut_76 (tgt := 81) (by decide) (fun c6 => ?_) (fun c6 => ?_)
              · refine lv_iinc (v := nI (j + 1)) (lv' := [(4, .int (nI (j + 1))), (7, .int (nI (y - (sL z j)))), (6, .int (nI 1)), (5, .ref (o + 8 + j)), (0, .ref o), (1, .int (nI u)), (2, .int ch), (3, .int (nI y))]) hx hb dX2_isShut_81 hl (k := 7) rfl (nI_1 _) (by decide) rfl (fun ls hl => ?_)
                refine lv_goto (tgt := 3) hx hb dX2_isShut_84 (by decide) ?_
                exact ih3 (j + 1) c1 (shB_no hd (sh_no hsf (fun q => by obtain ⟨q1, q2, q3, q4⟩ := q; first | exact c2 q1 | (rcases q2 with q2 | q2; exact c3 q2; exact c4 q2) | omega))) (by omega) ls (lv_sub hl [4, 5, 6, 7, 0] rfl)
              · refine lv_iconst (v := nI 1) hx hb dX2_isShut_79 (by decide) ?_
                exact r_retZ (v := nI 1) hx hb hr hlocks true rfl (by rw [shB_mono (j := j + 1) (shB_yes (sh_yes hsf ⟨c2, by first | exact Or.inl c3 | exact Or.inr (c4), hw, by omega⟩)) c1]; rfl) dX2_isShut_80
          · refine lv_aload hx hb dX2_isShut_37 (lv_at hl 0 rfl) ?_
            refine lv_iconst (v := nI 0) hx hb dX2_isShut_39 (by decide) ?_
            refine r_iald hx hb hK hg rfl 0 (by omega) (by decide) (v := sU z j) s0 dX2_isShut_40 ?_
            refine lv_iload_n hx hb dX2_isShut_41 rfl (lv_at hl 2 rfl) ?_
            refine lv_icmp_ne (tgt := 49) hx hb dX2_isShut_42 (by decide) (fun c4 => ?_) (fun c4 => ?_)
            · refine lv_iconst (v := nI 0) hx hb dX2_isShut_49 (by decide) ?_
              refine lv_istore (lv' := [(6, .int (nI 0)), (5, .ref (o + 8 + j)), (0, .ref o), (1, .int (nI u)), (2, .int ch), (3, .int (nI y)), (4, .int (nI j))]) hx hb dX2_isShut_50 hl (by decide) rfl (fun ls hl => ?_)
              refine lv_iload_n hx hb dX2_isShut_52 rfl (lv_at hl 5 rfl) ?_
              refine lv_aload hx hb dX2_isShut_53 (lv_at hl 1 rfl) ?_
              refine lv_iconst (v := nI 2) hx hb dX2_isShut_55 (by decide) ?_
              refine r_iald hx hb hK hg rfl 2 (by omega) (by decide) (v := nI (sL z j)) s2 dX2_isShut_56 ?_
              rcases Nat.lt_or_ge y (sL z j) with hw | hw
              · refine lv_isub hx hb dX2_isShut_57 ?_
                refine lv_istore (lv' := [(7, .int ((nI y) - (nI (sL z j)))), (6, .int (nI 0)), (5, .ref (o + 8 + j)), (0, .ref o), (1, .int (nI u)), (2, .int ch), (3, .int (nI y)), (4, .int (nI j))]) hx hb dX2_isShut_58 hl (by decide) rfl (fun ls hl => ?_)
                refine lv_iload hx hb dX2_isShut_60 (lv_at hl 1 rfl) ?_
                refine r_ifeqN hx hb (by omega) dX2_isShut_62 (tgt := 81) (by decide) (fun _ => ?_) (fun c5 => absurd c5 (by decide))
                refine lv_iinc (v := nI (j + 1)) (lv' := [(4, .int (nI (j + 1))), (7, .int ((nI y) - (nI (sL z j)))), (6, .int (nI 0)), (5, .ref (o + 8 + j)), (0, .ref o), (1, .int (nI u)), (2, .int ch), (3, .int (nI y))]) hx hb dX2_isShut_81 hl (k := 7) rfl (nI_1 _) (by decide) rfl (fun ls hl => ?_)
                refine lv_goto (tgt := 3) hx hb dX2_isShut_84 (by decide) ?_
                exact ih3 (j + 1) c1 (shB_no hd (sh_no hsf (fun q => by obtain ⟨q1, q2, q3, q4⟩ := q; first | exact c2 q1 | (rcases q2 with q2 | q2; exact c3 q2; exact c4 q2) | omega))) (by omega) ls (lv_sub hl [4, 5, 6, 7, 0] rfl)
              · refine r_isubN hx hb hw dX2_isShut_57 ?_
                refine lv_istore (lv' := [(7, .int (nI (y - (sL z j)))), (6, .int (nI 0)), (5, .ref (o + 8 + j)), (0, .ref o), (1, .int (nI u)), (2, .int ch), (3, .int (nI y)), (4, .int (nI j))]) hx hb dX2_isShut_58 hl (by decide) rfl (fun ls hl => ?_)
                refine lv_iload hx hb dX2_isShut_60 (lv_at hl 1 rfl) ?_
                refine r_ifeqN hx hb (by omega) dX2_isShut_62 (tgt := 81) (by decide) (fun _ => ?_) (fun c6 => absurd c6 (by decide))
                refine lv_iinc (v := nI (j + 1)) (lv' := [(4, .int (nI (j + 1))), (7, .int (nI (y - (sL z j)))), (6, .int (nI 0)), (5, .ref (o + 8 + j)), (0, .ref o), (1, .int (nI u)), (2, .int ch), (3, .int (nI y))]) hx hb dX2_isShut_81 hl (k := 7) rfl (nI_1 _) (by decide) rfl (fun ls hl => ?_)
                refine lv_goto (tgt := 3) hx hb dX2_isShut_84 (by decide) ?_
                exact ih3 (j + 1) c1 (shB_no hd (sh_no hsf (fun q => by obtain ⟨q1, q2, q3, q4⟩ := q; first | exact c2 q1 | (rcases q2 with q2 | q2; exact c3 q2; exact c4 q2) | omega))) (by omega) ls (lv_sub hl [4, 5, 6, 7, 0] rfl)
            · refine lv_iconst (v := nI 1) hx hb dX2_isShut_45 (by decide) ?_
              refine lv_goto (tgt := 50) hx hb dX2_isShut_46 (by decide) ?_
              refine lv_istore (lv' := [(6, .int (nI 1)), (5, .ref (o + 8 + j)), (0, .ref o), (1, .int (nI u)), (2, .int ch), (3, .int (nI y)), (4, .int (nI j))]) hx hb dX2_isShut_50 hl (by decide) rfl (fun ls hl => ?_)
              refine lv_iload_n hx hb dX2_isShut_52 rfl (lv_at hl 5 rfl) ?_
              refine lv_aload hx hb dX2_isShut_53 (lv_at hl 1 rfl) ?_
              refine lv_iconst (v := nI 2) hx hb dX2_isShut_55 (by decide) ?_
              refine r_iald hx hb hK hg rfl 2 (by omega) (by decide) (v := nI (sL z j)) s2 dX2_isShut_56 ?_
              rcases Nat.lt_or_ge y (sL z j) with hw | hw
              · refine lv_isub hx hb dX2_isShut_57 ?_
                refine lv_istore (lv' := [(7, .int ((nI y) - (nI (sL z j)))), (6, .int (nI 1)), (5, .ref (o + 8 + j)), (0, .ref o), (1, .int (nI u)), (2, .int ch), (3, .int (nI y)), (4, .int (nI j))]) hx hb dX2_isShut_58 hl (by decide) rfl (fun ls hl => ?_)
                refine lv_iload hx hb dX2_isShut_60 (lv_at hl 1 rfl) ?_
                refine r_ifeqN hx hb (by omega) dX2_isShut_62 (tgt := 81) (by decide) (fun c7 => absurd c7 (by decide)) (fun _ => ?_)
                refine lv_iload hx hb dX2_isShut_65 (lv_at hl 0 rfl) ?_
                refine lv_if_lt (tgt := 81) hx hb dX2_isShut_67 (by decide) (fun c5 => ?_) (fun c5 => ?_)
                · refine lv_iinc (v := nI (j + 1)) (lv' := [(4, .int (nI (j + 1))), (7, .int ((nI y) - (nI (sL z j)))), (6, .int (nI 1)), (5, .ref (o + 8 + j)), (0, .ref o), (1, .int (nI u)), (2, .int ch), (3, .int (nI y))]) hx hb dX2_isShut_81 hl (k := 7) rfl (nI_1 _) (by decide) rfl (fun ls hl => ?_)
                  refine lv_goto (tgt := 3) hx hb dX2_isShut_84 (by decide) ?_
                  exact ih3 (j + 1) c1 (shB_no hd (sh_no hsf (fun q => by obtain ⟨q1, q2, q3, q4⟩ := q; first | exact c2 q1 | (rcases q2 with q2 | q2; exact c3 q2; exact c4 q2) | omega))) (by omega) ls (lv_sub hl [4, 5, 6, 7, 0] rfl)
                · exact absurd (pk_sneg (by omega) hw) c5
              · refine r_isubN hx hb hw dX2_isShut_57 ?_
                refine lv_istore (lv' := [(7, .int (nI (y - (sL z j)))), (6, .int (nI 1)), (5, .ref (o + 8 + j)), (0, .ref o), (1, .int (nI u)), (2, .int ch), (3, .int (nI y)), (4, .int (nI j))]) hx hb dX2_isShut_58 hl (by decide) rfl (fun ls hl => ?_)
                refine lv_iload hx hb dX2_isShut_60 (lv_at hl 1 rfl) ?_
                refine r_ifeqN hx hb (by omega) dX2_isShut_62 (tgt := 81) (by decide) (fun c8 => absurd c8 (by decide)) (fun _ => ?_)
                refine lv_iload hx hb dX2_isShut_65 (lv_at hl 0 rfl) ?_
                refine lv_if_lt (tgt := 81) hx hb dX2_isShut_67 (by decide) (fun c5 => absurd c5 (nI_pos (by omega))) (fun _ => ?_)
                refine lv_iload hx hb dX2_isShut_70 (lv_at hl 0 rfl) ?_
                refine lv_aload hx hb dX2_isShut_72 (lv_at hl 2 rfl) ?_
                refine lv_iconst (v := nI 3) hx hb dX2_isShut_74 (by decide) ?_
                refine r_iald hx hb hK hg rfl 3 (by omega) (by decide) (v := nI (sM z j)) s3 dX2_isShut_75 ?_
                refine r_geN hx hb (by omega) (by omega) dX2_isShut_76 (tgt := 81) (by decide) (fun c6 => ?_) (fun c6 => ?_)
                · refine lv_iinc (v := nI (j + 1)) (lv' := [(4, .int (nI (j + 1))), (7, .int (nI (y - (sL z j)))), (6, .int (nI 1)), (5, .ref (o + 8 + j)), (0, .ref o), (1, .int (nI u)), (2, .int ch), (3, .int (nI y))]) hx hb dX2_isShut_81 hl (k := 7) rfl (nI_1 _) (by decide) rfl (fun ls hl => ?_)
                  refine lv_goto (tgt := 3) hx hb dX2_isShut_84 (by decide) ?_
                  exact ih3 (j + 1) c1 (shB_no hd (sh_no hsf (fun q => by obtain ⟨q1, q2, q3, q4⟩ := q; first | exact c2 q1 | (rcases q2 with q2 | q2; exact c3 q2; exact c4 q2) | omega))) (by omega) ls (lv_sub hl [4, 5, 6, 7, 0] rfl)
                · refine lv_iconst (v := nI 1) hx hb dX2_isShut_79 (by decide) ?_
                  exact r_retZ (v := nI 1) hx hb hr hlocks true rfl (by rw [shB_mono (j := j + 1) (shB_yes (sh_yes hsf ⟨c2, by first | exact Or.inl c3 | exact Or.inr (c4), hw, by omega⟩)) c1]; rfl) dX2_isShut_80
  exact loop3 _ 0 (Nat.zero_le _) rfl (Nat.lt_succ_self _) ls (lv_sub hl [1, 2, 3, 4, 0] rfl)

set_option maxRecDepth 20000 in
theorem iiX2_place_2 : ∀ w ∈ wsX20, w ∈ wsX2_place := by decide +kernel
set_option maxHeartbeats 4000000 in
set_option maxRecDepth 100000 in
/-- where a user is at a slot -/
theorem c_X2_place (l : Launch) (G : va_G) (t : gT) (o : Nat) (z : Nat → Int32) (hz : WF z) (u y : Nat) (hu : u < cu z) (hy : y ≤ 5000) : Met l yX2_place wsX2_place ({ frames := 4, cells := 0, slots := 0, locals := 97 } : Room) (pc_ [.ref o, .int (nI u), .int (nI y)] (fun U H => KK G t U ∧ Sc G t o z H)) (vp_Si (fun r => r = plC z u y)) 0 0 (fun _ => False) := by
  refine Met.ofW (cc := cX2_place) (maxL := 5) (ret := (some .int)) (by decide) rfl ?_
  intro p e s m args below meth c s₁ B hml hv
  obtain ⟨rfl, hB⟩ := hv
  have hx := B.exec
  have hb := B.bytes
  have hr := B.returns
  have hts := atoms_spec (ws := wsX2_place) B.pre
  have hown : s.vm.findClass RX2 = some m.cls := findClass_of_methodNamed B.named
  have hlocks := B.notSynchronized
  have hK := hB.1
  have hSc := hB.2
  have h0 := Sc_obj hSc
  have h1 := (Sc_rows hSc).1
  have h3 := (Sc_rows hSc).2
  have hn := hz.n
  have hu5 := hz.u5
  have hs8 := hz.s8
  have hp := prN_in (cn z)
  have b1 := (hz.us hu).2.2.2.1.2
  have hl := lv_entry ([.ref o, .int (nI u), .int (nI y)]) (n := 5) (Nat.le_of_ble_eq_true rfl)
  rw [lg_entry_eq]
  generalize (lg_sl ([.ref o, .int (nI u), .int (nI y)]) ++ List.replicate (5 - (lg_sl ([.ref o, .int (nI u), .int (nI y)])).length) Slot.unset).toArray = ls at hl ⊢
  have hl : lv_has ls 5 [(0, .ref o), (1, .int (nI u)), (2, .int (nI y))] := hl
  refine lv_aload_n hx hb dX2_place_0 rfl (lv_at hl 0 rfl) ?_
  refine lv_iload_n hx hb dX2_place_1 rfl (lv_at hl 1 rfl) ?_
  refine lv_iload_n hx hb dX2_place_2 rfl (lv_at hl 2 rfl) ?_
  refine r_cV (av := [.int (nI u), .int (nI y)]) (c_X2_clockOf l G t o z hz u y hu) ⟨hx, hb, hml, hown, hts⟩ (cwV 2 hts gX2_place_X2_clockOf rfl rfl rfl (by decide +kernel) ⟨Nat.le_of_ble_eq_true rfl, Nat.le_of_ble_eq_true rfl⟩) mv_K hB (at_recv hK h0 rfl) rfl hl (Nat.le_of_ble_eq_true rfl) ⟨Nat.le_of_ble_eq_true rfl, Nat.le_of_ble_eq_true rfl⟩ rfl dX2_place_3 (fun r1 hr1 => ?_)
  subst hr1
  rcases Nat.lt_or_ge y (uW z u) with hw | hw
  · refine lv_istore_n (lv' := [(3, .int (nI y - nI (uW z u))), (0, .ref o), (1, .int (nI u)), (2, .int (nI y))]) hx hb dX2_place_6 rfl hl (by decide) rfl (fun ls hl => ?_)
    refine lv_iload_n hx hb dX2_place_7 rfl (lv_at hl 0 rfl) ?_
    refine lv_if_ge (tgt := 13) hx hb dX2_place_8 (by decide) (fun c1 => ?_) (fun c1 => ?_)
    · exact (i_neg_ge (pk_sneg (by omega) hw) c1).elim
    · refine lv_iconst (v := (-1)) hx hb dX2_place_11 (by decide) ?_
      exact r_retS (v := (-1)) hx hb hr hlocks (plC_w hw).symm dX2_place_12
  · refine r_top (y := nI (y - uW z u)) (pk_sub hw) ?_
    refine lv_istore_n (lv' := [(3, .int (nI (y - uW z u))), (0, .ref o), (1, .int (nI u)), (2, .int (nI y))]) hx hb dX2_place_6 rfl hl (by decide) rfl (fun ls hl => ?_)
    refine lv_iload_n hx hb dX2_place_7 rfl (lv_at hl 0 rfl) ?_
    refine lv_if_ge (tgt := 13) hx hb dX2_place_8 (by decide) (fun _ => ?_) (fun c1 => absurd (nI_pos' (by omega)) c1)
    refine lv_aload_n hx hb dX2_place_13 rfl (lv_at hl 1 rfl) ?_
    refine lv_iload_n hx hb dX2_place_14 rfl (lv_at hl 2 rfl) ?_
    refine lv_iload_n hx hb dX2_place_15 rfl (lv_at hl 0 rfl) ?_
    refine r_cV (av := [.int (nI u), .int (nI (y - uW z u))]) (c_X2_placeByClock l G t o z hz u (y - uW z u) hu (by omega)) ⟨hx, hb, hml, hown, hts⟩ (cwV 2 hts gX2_place_X2_placeByClock rfl rfl rfl (by decide +kernel) ⟨Nat.le_of_ble_eq_true rfl, Nat.le_of_ble_eq_true rfl⟩) mv_K hB (at_recv hK h0 rfl) rfl hl (Nat.le_of_ble_eq_true rfl) ⟨Nat.le_of_ble_eq_true rfl, Nat.le_of_ble_eq_true rfl⟩ rfl dX2_place_16 (fun r2 hr2 => ?_)
    subst hr2
    refine lv_istore (lv' := [(4, .int (plN z u (y - uW z u))), (3, .int (nI (y - uW z u))), (0, .ref o), (1, .int (nI u)), (2, .int (nI y))]) hx hb dX2_place_19 hl (by decide) rfl (fun ls hl => ?_)
    refine lv_aload_n hx hb dX2_place_21 rfl (lv_at hl 2 rfl) ?_
    refine lv_iload_n hx hb dX2_place_22 rfl (lv_at hl 3 rfl) ?_
    refine lv_iload hx hb dX2_place_23 (lv_at hl 0 rfl) ?_
    refine lv_iload_n hx hb dX2_place_25 rfl (lv_at hl 4 rfl) ?_
    refine r_cV (av := [.int (nI u), .int (plN z u (y - uW z u)), .int (nI y)]) (c_X2_isShut l G t o z hz u y (plN z u (y - uW z u)) hu hy) ⟨hx, hb, hml, hown, hts⟩ (cwV 3 hts gX2_place_X2_isShut rfl rfl rfl (by decide +kernel) ⟨Nat.le_of_ble_eq_true rfl, Nat.le_of_ble_eq_true rfl⟩) mv_K hB (at_recv hK h0 rfl) rfl hl (Nat.le_of_ble_eq_true rfl) ⟨Nat.le_of_ble_eq_true rfl, Nat.le_of_ble_eq_true rfl⟩ rfl dX2_place_26 (fun r3 hr3 => ?_)
    subst hr3
    refine r_ifeqB hx hb dX2_place_29 (tgt := 36) (by decide) (fun c2 => ?_) (fun c2 => ?_)
    · refine lv_iload hx hb dX2_place_36 (lv_at hl 0 rfl) ?_
      exact r_retS (v := plN z u (y - uW z u)) hx hb hr hlocks (plC_2 hw c2).symm dX2_place_38
    · refine lv_iconst (v := (-1)) hx hb dX2_place_32 (by decide) ?_
      refine lv_goto (tgt := 38) hx hb dX2_place_33 (by decide) ?_
      exact r_retS (v := (-1)) hx hb hr hlocks (plC_1 hw c2).symm dX2_place_38

set_option maxRecDepth 20000 in
theorem iiX2_whyNowhere_2 : ∀ w ∈ wsX20, w ∈ wsX2_whyNowhere := by decide +kernel
set_option maxHeartbeats 4000000 in
set_option maxRecDepth 100000 in
/-- why a user is nowhere -/
theorem c_X2_whyNowhere (l : Launch) (G : va_G) (t : gT) (o : Nat) (z : Nat → Int32) (hz : WF z) (u y : Nat) (hu : u < cu z) (hy : y ≤ 5000) : Met l yX2_whyNowhere wsX2_whyNowhere ({ frames := 4, cells := 0, slots := 0, locals := 97 } : Room) (pc_ [.ref o, .int (nI u), .int (nI y)] (fun U H => KK G t U ∧ Sc G t o z H)) (vp_Si (fun r => r = whC z u y)) 0 0 (fun _ => False) := by
  refine Met.ofW (cc := cX2_whyNowhere) (maxL := 5) (ret := (some .int)) (by decide) rfl ?_
  intro p e s m args below meth c s₁ B hml hv
  obtain ⟨rfl, hB⟩ := hv
  have hx := B.exec
  have hb := B.bytes
  have hr := B.returns
  have hts := atoms_spec (ws := wsX2_whyNowhere) B.pre
  have hown : s.vm.findClass RX2 = some m.cls := findClass_of_methodNamed B.named
  have hlocks := B.notSynchronized
  have hK := hB.1
  have hSc := hB.2
  have h0 := Sc_obj hSc
  have h1 := (Sc_rows hSc).1
  have h3 := (Sc_rows hSc).2
  have hn := hz.n
  have hu5 := hz.u5
  have hs8 := hz.s8
  have hp := prN_in (cn z)
  have b1 := (hz.us hu).2.2.2.1.2
  have hl := lv_entry ([.ref o, .int (nI u), .int (nI y)]) (n := 5) (Nat.le_of_ble_eq_true rfl)
  rw [lg_entry_eq]
  generalize (lg_sl ([.ref o, .int (nI u), .int (nI y)]) ++ List.replicate (5 - (lg_sl ([.ref o, .int (nI u), .int (nI y)])).length) Slot.unset).toArray = ls at hl ⊢
  have hl : lv_has ls 5 [(0, .ref o), (1, .int (nI u)), (2, .int (nI y))] := hl
  refine lv_aload_n hx hb dX2_whyNowhere_0 rfl (lv_at hl 0 rfl) ?_
  refine lv_iload_n hx hb dX2_whyNowhere_1 rfl (lv_at hl 1 rfl) ?_
  refine lv_iload_n hx hb dX2_whyNowhere_2 rfl (lv_at hl 2 rfl) ?_
  refine r_cV (av := [.int (nI u), .int (nI y)]) (c_X2_clockOf l G t o z hz u y hu) ⟨hx, hb, hml, hown, hts⟩ (cwV 2 hts gX2_whyNowhere_X2_clockOf rfl rfl rfl (by decide +kernel) ⟨Nat.le_of_ble_eq_true rfl, Nat.le_of_ble_eq_true rfl⟩) mv_K hB (at_recv hK h0 rfl) rfl hl (Nat.le_of_ble_eq_true rfl) ⟨Nat.le_of_ble_eq_true rfl, Nat.le_of_ble_eq_true rfl⟩ rfl dX2_whyNowhere_3 (fun r1 hr1 => ?_)
  subst hr1
  rcases Nat.lt_or_ge y (uW z u) with hw | hw
  · refine lv_istore_n (lv' := [(3, .int (nI y - nI (uW z u))), (0, .ref o), (1, .int (nI u)), (2, .int (nI y))]) hx hb dX2_whyNowhere_6 rfl hl (by decide) rfl (fun ls hl => ?_)
    refine lv_iload_n hx hb dX2_whyNowhere_7 rfl (lv_at hl 0 rfl) ?_
    refine lv_if_ge (tgt := 13) hx hb dX2_whyNowhere_8 (by decide) (fun c1 => ?_) (fun c1 => ?_)
    · exact (i_neg_ge (pk_sneg (by omega) hw) c1).elim
    · refine lv_iconst (v := nI 1) hx hb dX2_whyNowhere_11 (by decide) ?_
      exact r_retS (v := nI 1) hx hb hr hlocks (whC_w hw).symm dX2_whyNowhere_12
  · refine r_top (y := nI (y - uW z u)) (pk_sub hw) ?_
    refine lv_istore_n (lv' := [(3, .int (nI (y - uW z u))), (0, .ref o), (1, .int (nI u)), (2, .int (nI y))]) hx hb dX2_whyNowhere_6 rfl hl (by decide) rfl (fun ls hl => ?_)
    refine lv_iload_n hx hb dX2_whyNowhere_7 rfl (lv_at hl 0 rfl) ?_
    refine lv_if_ge (tgt := 13) hx hb dX2_whyNowhere_8 (by decide) (fun _ => ?_) (fun c1 => absurd (nI_pos' (by omega)) c1)
    refine lv_aload_n hx hb dX2_whyNowhere_13 rfl (lv_at hl 1 rfl) ?_
    refine lv_iload_n hx hb dX2_whyNowhere_14 rfl (lv_at hl 2 rfl) ?_
    refine lv_iload_n hx hb dX2_whyNowhere_15 rfl (lv_at hl 0 rfl) ?_
    refine r_cV (av := [.int (nI u), .int (nI (y - uW z u))]) (c_X2_placeByClock l G t o z hz u (y - uW z u) hu (by omega)) ⟨hx, hb, hml, hown, hts⟩ (cwV 2 hts gX2_whyNowhere_X2_placeByClock rfl rfl rfl (by decide +kernel) ⟨Nat.le_of_ble_eq_true rfl, Nat.le_of_ble_eq_true rfl⟩) mv_K hB (at_recv hK h0 rfl) rfl hl (Nat.le_of_ble_eq_true rfl) ⟨Nat.le_of_ble_eq_true rfl, Nat.le_of_ble_eq_true rfl⟩ rfl dX2_whyNowhere_16 (fun r2 hr2 => ?_)
    subst hr2
    refine lv_istore (lv' := [(4, .int (plN z u (y - uW z u))), (3, .int (nI (y - uW z u))), (0, .ref o), (1, .int (nI u)), (2, .int (nI y))]) hx hb dX2_whyNowhere_19 hl (by decide) rfl (fun ls hl => ?_)
    refine lv_iload hx hb dX2_whyNowhere_21 (lv_at hl 0 rfl) ?_
    refine lv_iconst (v := (-1)) hx hb dX2_whyNowhere_23 (by decide) ?_
    refine lv_icmp_ne (tgt := 29) hx hb dX2_whyNowhere_24 (by decide) (fun c3 => ?_) (fun c3 => ?_)
    · refine lv_aload_n hx hb dX2_whyNowhere_29 rfl (lv_at hl 2 rfl) ?_
      refine lv_iload_n hx hb dX2_whyNowhere_30 rfl (lv_at hl 3 rfl) ?_
      refine lv_iload hx hb dX2_whyNowhere_31 (lv_at hl 0 rfl) ?_
      refine lv_iload_n hx hb dX2_whyNowhere_33 rfl (lv_at hl 4 rfl) ?_
      refine r_cV (av := [.int (nI u), .int (plN z u (y - uW z u)), .int (nI y)]) (c_X2_isShut l G t o z hz u y (plN z u (y - uW z u)) hu hy) ⟨hx, hb, hml, hown, hts⟩ (cwV 3 hts gX2_whyNowhere_X2_isShut rfl rfl rfl (by decide +kernel) ⟨Nat.le_of_ble_eq_true rfl, Nat.le_of_ble_eq_true rfl⟩) mv_K hB (at_recv hK h0 rfl) rfl hl (Nat.le_of_ble_eq_true rfl) ⟨Nat.le_of_ble_eq_true rfl, Nat.le_of_ble_eq_true rfl⟩ rfl dX2_whyNowhere_34 (fun r3 hr3 => ?_)
      subst hr3
      refine r_ifeqB hx hb dX2_whyNowhere_37 (tgt := 44) (by decide) (fun c2 => ?_) (fun c2 => ?_)
      · refine lv_iconst (v := nI 0) hx hb dX2_whyNowhere_44 (by decide) ?_
        exact r_retS (v := nI 0) hx hb hr hlocks (whC_2 hw (fun q => c3 ((plN_m1 hz hu).mpr q)) c2).symm dX2_whyNowhere_45
      · refine lv_iconst (v := nI 3) hx hb dX2_whyNowhere_40 (by decide) ?_
        refine lv_goto (tgt := 45) hx hb dX2_whyNowhere_41 (by decide) ?_
        exact r_retS (v := nI 3) hx hb hr hlocks (whC_1 hw (fun q => c3 ((plN_m1 hz hu).mpr q)) c2).symm dX2_whyNowhere_45
    · refine lv_iconst (v := nI 2) hx hb dX2_whyNowhere_27 (by decide) ?_
      exact r_retS (v := nI 2) hx hb hr hlocks (whC_0 hw ((plN_m1 hz hu).mp (c3))).symm dX2_whyNowhere_28

set_option maxRecDepth 20000 in
theorem iiX2_meet_2 : ∀ w ∈ wsX20, w ∈ wsX2_meet := by decide +kernel
set_option maxHeartbeats 4000000 in
set_option maxRecDepth 100000 in
/-- whether two meet in a slot -/
theorem c_X2_meet (l : Launch) (G : va_G) (t : gT) (o : Nat) (z : Nat → Int32) (hz : WF z) (u v y : Nat) (hu : u < cu z) (hv0 : v < cu z) (hy : y ≤ 5000) : Met l yX2_meet wsX2_meet ({ frames := 5, cells := 0, slots := 0, locals := 121 } : Room) (pc_ [.ref o, .int (nI u), .int (nI v), .int (nI y)] (fun U H => KK G t U ∧ Sc G t o z H)) (vp_Si (fun r => r = bI (meB z u v y))) 0 0 (fun _ => False) := by
  refine Met.ofW (cc := cX2_meet) (maxL := 5) (ret := (some .boolean)) (by decide) rfl ?_
  intro p e s m args below meth c s₁ B hml hv
  obtain ⟨rfl, hB⟩ := hv
  have hx := B.exec
  have hb := B.bytes
  have hr := B.returns
  have hts := atoms_spec (ws := wsX2_meet) B.pre
  have hown : s.vm.findClass RX2 = some m.cls := findClass_of_methodNamed B.named
  have hlocks := B.notSynchronized
  have hK := hB.1
  have hSc := hB.2
  have h0 := Sc_obj hSc
  have h1 := (Sc_rows hSc).1
  have h3 := (Sc_rows hSc).2
  have hn := hz.n
  have hu5 := hz.u5
  have hs8 := hz.s8
  have hp := prN_in (cn z)
  have hl := lv_entry ([.ref o, .int (nI u), .int (nI v), .int (nI y)]) (n := 5) (Nat.le_of_ble_eq_true rfl)
  rw [lg_entry_eq]
  generalize (lg_sl ([.ref o, .int (nI u), .int (nI v), .int (nI y)]) ++ List.replicate (5 - (lg_sl ([.ref o, .int (nI u), .int (nI v), .int (nI y)])).length) Slot.unset).toArray = ls at hl ⊢
  have hl : lv_has ls 5 [(0, .ref o), (1, .int (nI u)), (2, .int (nI v)), (3, .int (nI y))] := hl
  refine lv_aload_n hx hb dX2_meet_0 rfl (lv_at hl 0 rfl) ?_
  refine lv_iload_n hx hb dX2_meet_1 rfl (lv_at hl 1 rfl) ?_
  refine lv_iload_n hx hb dX2_meet_2 rfl (lv_at hl 3 rfl) ?_
  refine r_cV (av := [.int (nI u), .int (nI y)]) (c_X2_place l G t o z hz u y hu hy) ⟨hx, hb, hml, hown, hts⟩ (cwV 2 hts gX2_meet_X2_place rfl rfl rfl (by decide +kernel) ⟨Nat.le_of_ble_eq_true rfl, Nat.le_of_ble_eq_true rfl⟩) mv_K hB (at_recv hK h0 rfl) rfl hl (Nat.le_of_ble_eq_true rfl) ⟨Nat.le_of_ble_eq_true rfl, Nat.le_of_ble_eq_true rfl⟩ rfl dX2_meet_3 (fun r1 hr1 => ?_)
  subst hr1
  refine lv_istore (lv' := [(4, .int (plC z u y)), (0, .ref o), (1, .int (nI u)), (2, .int (nI v)), (3, .int (nI y))]) hx hb dX2_meet_6 hl (by decide) rfl (fun ls hl => ?_)
  refine lv_iload hx hb dX2_meet_8 (lv_at hl 0 rfl) ?_
  refine lv_iconst (v := (-1)) hx hb dX2_meet_10 (by decide) ?_
  refine lv_icmp_eq (tgt := 29) hx hb dX2_meet_11 (by decide) (fun c1 => ?_) (fun c1 => ?_)
  · refine lv_iconst (v := nI 0) hx hb dX2_meet_29 (by decide) ?_
    exact r_retZ (v := nI 0) hx hb hr hlocks false rfl (by rw [show meB z u v y = false from decide_eq_false (fun q => by first | exact q.1 c1 | exact c2 q.2)]; rfl) dX2_meet_30
  · refine lv_iload hx hb dX2_meet_14 (lv_at hl 0 rfl) ?_
    refine lv_aload_n hx hb dX2_meet_16 rfl (lv_at hl 1 rfl) ?_
    refine lv_iload_n hx hb dX2_meet_17 rfl (lv_at hl 3 rfl) ?_
    refine lv_iload_n hx hb dX2_meet_18 rfl (lv_at hl 4 rfl) ?_
    refine r_cV (av := [.int (nI v), .int (nI y)]) (c_X2_place l G t o z hz v y hv0 hy) ⟨hx, hb, hml, hown, hts⟩ (cwV 2 hts gX2_meet_X2_place rfl rfl rfl (by decide +kernel) ⟨Nat.le_of_ble_eq_true rfl, Nat.le_of_ble_eq_true rfl⟩) mv_K hB (at_recv hK h0 rfl) rfl hl (Nat.le_of_ble_eq_true rfl) ⟨Nat.le_of_ble_eq_true rfl, Nat.le_of_ble_eq_true rfl⟩ rfl dX2_meet_19 (fun r2 hr2 => ?_)
    subst hr2
    refine lv_icmp_ne (tgt := 29) hx hb dX2_meet_22 (by decide) (fun c2 => ?_) (fun c2 => ?_)
    · refine lv_iconst (v := nI 0) hx hb dX2_meet_29 (by decide) ?_
      exact r_retZ (v := nI 0) hx hb hr hlocks false rfl (by rw [show meB z u v y = false from decide_eq_false (fun q => by first | exact q.1 c1 | exact c2 q.2)]; rfl) dX2_meet_30
    · refine lv_iconst (v := nI 1) hx hb dX2_meet_25 (by decide) ?_
      refine lv_goto (tgt := 30) hx hb dX2_meet_26 (by decide) ?_
      exact r_retZ (v := nI 1) hx hb hr hlocks true rfl (by rw [show meB z u v y = true from decide_eq_true ⟨c1, c2⟩]; rfl) dX2_meet_30

set_option maxHeartbeats 4000000 in
set_option maxRecDepth 100000 in
/-- the next lot -/
theorem c_X2_nextLot (l : Launch) (G : va_G) (t : gT) (x : Nat) (hx0 : x < 2147483647) : Met l yX2_nextLot wsX2_nextLot ({ frames := 0, cells := 0, slots := 0, locals := 0 } : Room) (pc_ [.long (lN x)] (fun _ _ => True)) (vp_Sl (fun r => r = lN (x * 16807 % 2147483647))) 0 0 (fun _ => False) := by
  refine Met.ofW (cc := cX2_nextLot) (maxL := 2) (ret := (some .long)) (by decide) rfl ?_
  intro p e s m args below meth c s₁ B hml hv
  obtain ⟨rfl, hB⟩ := hv
  have hx := B.exec
  have hb := B.bytes
  have hr := B.returns
  have hts := atoms_spec (ws := wsX2_nextLot) B.pre
  have hown : s.vm.findClass RX2 = some m.cls := findClass_of_methodNamed B.named
  have hlocks := B.notSynchronized
  have hl := lv_entry ([.long (lN x)]) (n := 2) (Nat.le_of_ble_eq_true rfl)
  rw [lg_entry_eq]
  generalize (lg_sl ([.long (lN x)]) ++ List.replicate (2 - (lg_sl ([.long (lN x)])).length) Slot.unset).toArray = ls at hl ⊢
  have hl : lv_has ls 2 [(0, .long (lN x))] := hl
  refine lv_lload_n hx hb dX2_nextLot_0 rfl (lv_at hl 0 rfl) ?_
  refine lv_ldc2 (v := 16807) hx hb hown (hts (.constantLong RX2 97 (16807)) (List.mem_of_getElem? (i := 1) rfl)) dX2_nextLot_1 ?_
  refine r_topL (y := lN 16807) rfl ?_
  refine lv_lmul hx hb dX2_nextLot_4 ?_
  refine r_topL (y := lN (x * 16807)) (lN_mul x 16807) ?_
  refine lv_ldc2 (v := 2147483647) hx hb hown (hts (.constantLong RX2 99 (2147483647)) (List.mem_of_getElem? (i := 2) rfl)) dX2_nextLot_5 ?_
  refine r_topL (y := lN 2147483647) rfl ?_
  refine lv_lrem hx hb dX2_nextLot_8 (by decide) ?_
  refine r_topL (y := lN (x * 16807 % 2147483647)) (pk_lRem (by omega) (by decide) (by decide)) ?_
  exact r_retL (v := lN (x * 16807 % 2147483647)) hx hb hr hlocks rfl dX2_nextLot_9

set_option maxRecDepth 20000 in
theorem iiX2_commonChannels_2 : ∀ w ∈ wsX20, w ∈ wsX2_commonChannels := by decide +kernel
set_option maxHeartbeats 4000000 in
set_option maxRecDepth 100000 in
/-- the channels that are open to all -/
theorem c_X2_commonChannels (l : Launch) (G : va_G) (t : gT) (o : Nat) (z : Nat → Int32) (hz : WF z) : Met l yX2_commonChannels wsX2_commonChannels ({ frames := 1, cells := 0, slots := 0, locals := 20 } : Room) (pc_ [.ref o] (fun U H => KK G t U ∧ Sc G t o z H)) (vp_Si (fun r => r = nI (comN z (cu z)))) 0 0 (fun _ => False) := by
  refine Met.ofW (cc := cX2_commonChannels) (maxL := 3) (ret := (some .int)) (by decide) rfl ?_
  intro p e s m args below meth c s₁ B hml hv
  obtain ⟨rfl, hB⟩ := hv
  have hx := B.exec
  have hb := B.bytes
  have hr := B.returns
  have hts := atoms_spec (ws := wsX2_commonChannels) B.pre
  have hown : s.vm.findClass RX2 = some m.cls := findClass_of_methodNamed B.named
  have hlocks := B.notSynchronized
  have hK := hB.1
  have hSc := hB.2
  have h0 := Sc_obj hSc
  have h1 := (Sc_rows hSc).1
  have h3 := (Sc_rows hSc).2
  have hn := hz.n
  have hu5 := hz.u5
  have hs8 := hz.s8
  have hp := prN_in (cn z)
  have hl := lv_entry ([.ref o]) (n := 3) (Nat.le_of_ble_eq_true rfl)
  rw [lg_entry_eq]
  generalize (lg_sl ([.ref o]) ++ List.replicate (3 - (lg_sl ([.ref o])).length) Slot.unset).toArray = ls at hl ⊢
  have hl : lv_has ls 3 [(0, .ref o)] := hl
  refine lv_aload_n hx hb dX2_commonChannels_0 rfl (lv_at hl 0 rfl) ?_
  refine r_cV (av := []) (c_X2_allChannels l G t o z hz) ⟨hx, hb, hml, hown, hts⟩ (cwV 0 hts gX2_commonChannels_X2_allChannels rfl rfl rfl (by decide +kernel) ⟨Nat.le_of_ble_eq_true rfl, Nat.le_of_ble_eq_true rfl⟩) mv_K hB (at_recv hK h0 rfl) rfl hl (Nat.le_of_ble_eq_true rfl) ⟨Nat.le_of_ble_eq_true rfl, Nat.le_of_ble_eq_true rfl⟩ rfl dX2_commonChannels_1 (fun r1 hr1 => ?_)
  subst hr1
  refine lv_istore_n (lv' := [(1, .int (nI (2 ^ cn z - 1))), (0, .ref o)]) hx hb dX2_commonChannels_4 rfl hl (by decide) rfl (fun ls hl => ?_)
  refine lv_iconst (v := nI 0) hx hb dX2_commonChannels_5 (by decide) ?_
  refine lv_istore_n (lv' := [(2, .int (nI 0)), (1, .int (nI (2 ^ cn z - 1))), (0, .ref o)]) hx hb dX2_commonChannels_6 rfl hl (by decide) rfl (fun ls hl => ?_)
  have loop7 : ∀ (fu : Nat) (j : Nat) (hj : j ≤ cu z) (hfu : cu z - j < fu) (ls : Array Slot) (hl : lv_has ls 3 [(0, .ref o), (1, .int (nI (comN z j))), (2, .int (nI j))]), W p l e (headSpec wsX2_commonChannels ({ frames := 1, cells := 0, slots := 0, locals := 20 } : Room)).room s m ([.ref o] : List Value).toArray below meth c s.heap [] 0 0 (MQ below (vp_Si (fun r => r = nI (comN z (cu z)))) ([.ref o] : List Value).toArray s 0 0 (fun _ => False)) (F0 m 7 ls []) := by
    intro fu
    induction fu with
    | zero => intro j hj hfu; exact absurd hfu (Nat.not_lt_zero _)
    | succ fu7 ih7 =>
      intro j hj hfu ls hl
      refine lv_iload_n hx hb dX2_commonChannels_7 rfl (lv_at hl 2 rfl) ?_
      refine lv_aload_n hx hb dX2_commonChannels_8 rfl (lv_at hl 0 rfl) ?_
      refine r_get (C := RX2) (T := TX2) (N := 6) hx hb hts iiX2_commonChannels_2 hown hK h0 rfl 2 (by decide) (hts (.fieldLink RX2 34 "HopMeet$Scene" "userCount" "I") (List.mem_of_getElem? (i := 1) rfl)) rfl dX2_commonChannels_9 ?_
      refine r_geN hx hb (by omega) (by omega) dX2_commonChannels_12 (tgt := 32) (by decide) (fun c1 => ?_) (fun c1 => ?_)
      · refine lv_iload_n hx hb dX2_commonChannels_32 rfl (lv_at hl 1 rfl) ?_
        exact r_retS (v := nI (comN z j)) hx hb hr hlocks (by rw [show cu z = j by omega]) dX2_commonChannels_33
      · obtain ⟨fu, hf, e0, e1, e2, e3, e4⟩ := Sc_user hSc hz c1
        refine lv_iload_n hx hb dX2_commonChannels_15 rfl (lv_at hl 1 rfl) ?_
        refine lv_aload_n hx hb dX2_commonChannels_16 rfl (lv_at hl 0 rfl) ?_
        refine r_get (C := RX2) (T := TX2) (N := 6) hx hb hts iiX2_commonChannels_2 hown hK h0 rfl 4 (by decide) (hts (.fieldLink RX2 11 "HopMeet$Scene" "users" "[[I") (List.mem_of_getElem? (i := 2) rfl)) rfl dX2_commonChannels_17 ?_
        refine lv_iload_n hx hb dX2_commonChannels_20 rfl (lv_at hl 2 rfl) ?_
        refine r_rald hx hb hK h1 1 rfl rfl j (by omega) (by decide) (b := o + 2 + j) (rowsF_at (by omega)) dX2_commonChannels_21 ?_
        refine lv_iconst (v := nI 4) hx hb dX2_commonChannels_22 (by decide) ?_
        refine r_iald hx hb hK hf rfl 4 (by omega) (by decide) (v := nI (uO z j)) e4 dX2_commonChannels_23 ?_
        refine r_iandN hx hb dX2_commonChannels_24 ?_
        refine lv_istore_n (lv' := [(1, .int (nI ((comN z j) &&& (uO z j)))), (0, .ref o), (2, .int (nI j))]) hx hb dX2_commonChannels_25 rfl hl (by decide) rfl (fun ls hl => ?_)
        refine lv_iinc (v := nI (j + 1)) (lv' := [(2, .int (nI (j + 1))), (1, .int (nI ((comN z j) &&& (uO z j)))), (0, .ref o)]) hx hb dX2_commonChannels_26 hl (k := 2) rfl (nI_1 _) (by decide) rfl (fun ls hl => ?_)
        refine lv_goto (tgt := 7) hx hb dX2_commonChannels_29 (by decide) ?_
        exact ih7 (j + 1) c1 (by omega) ls (lv_sub hl [2, 1, 0] rfl)
  exact loop7 _ 0 (Nat.zero_le _) (Nat.lt_succ_self _) ls (lv_sub hl [2, 1, 0] rfl)
