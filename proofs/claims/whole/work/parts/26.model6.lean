/-! the reference: runs, counts, images (printed by wip/whole/m12.py) -/
set_option maxRecDepth 20000 in
theorem iiX4_even_4 : ∀ w ∈ wsX40, w ∈ wsX4_even := by decide +kernel
set_option maxHeartbeats 4000000 in
set_option maxRecDepth 100000 in
/-- how evenly a row goes -/
theorem c_X4_even (l : Launch) (G : va_G) (t : gT) (d : Nat) (z : Nat → Int32) (gr : Nat → Nat) (sl bc : Nat) (bk : Nat → Nat → Int32) (kp : Nat → Bool) (im : Nat → Nat → Int32) (hz : WF z) (u n : Int32) : Met l yX4_even wsX4_even ({ frames := 3, cells := 0, slots := 0, locals := 77 } : Room) (pc_ [.ref d, .int u, .int n] (fun U H => KK G t U ∧ PM G t d (z, gr, sl, bc, bk, kp, im) H)) (qi_ (fun r H => r = rEven u n z ∧ PM G t d (z, gr, sl, bc, bk, kp, im) H) (iv d (d + 7))) 0 0 (iv d (d + 7)) := by
  refine Met.ofW (cc := cX4_even) (maxL := 8) (ret := (some .int)) (by decide) rfl ?_
  intro p e s m args below meth c s₁ B hml hv
  obtain ⟨rfl, hB⟩ := hv
  have hx := B.exec
  have hb := B.bytes
  have hr := B.returns
  have hts := atoms_spec (ws := wsX4_even) B.pre
  have hown : s.vm.findClass RX4 = some m.cls := findClass_of_methodNamed B.named
  have hlocks := B.notSynchronized
  have hK := hB.1
  obtain ⟨lo, fB, fI, fG, fM, h0, h1, h2, h3, h4, h5, h6, e1, e2, e3⟩ := hB.2
  have hn := hz.n
  have hu5 := hz.u5
  have hs8 := hz.s8
  have hS : va_S (iv d (d + 7)) s.heap s.heap [] := va_S.rf
  have hl := lv_entry ([.ref d, .int u, .int n]) (n := 8) (Nat.le_of_ble_eq_true rfl)
  rw [lg_entry_eq]
  generalize (lg_sl ([.ref d, .int u, .int n]) ++ List.replicate (8 - (lg_sl ([.ref d, .int u, .int n])).length) Slot.unset).toArray = ls at hl ⊢
  have hl : lv_has ls 8 [(0, .ref d), (1, .int u), (2, .int n)] := hl
  refine lv_aload_n hx hb dX4_even_0 rfl (lv_at hl 0 rfl) ?_
  refine lv_iload_n hx hb dX4_even_1 rfl (lv_at hl 1 rfl) ?_
  refine r_cV (av := [.int u]) (c_X4_isUser l G t d z hz u) ⟨hx, hb, hml, hown, hts⟩ (cwV 1 hts gX4_even_X4_isUser rfl rfl rfl (by decide +kernel) ⟨Nat.le_of_ble_eq_true rfl, Nat.le_of_ble_eq_true rfl⟩) mv_K ⟨hK, ⟨_, _, _, h0, h1⟩⟩ (at_recv hK h0 rfl) rfl hl (Nat.le_of_ble_eq_true rfl) ⟨Nat.le_of_ble_eq_true rfl, Nat.le_of_ble_eq_true rfl⟩ rfl dX4_even_2 (fun r1 hr1 => ?_)
  subst hr1
  refine r_ifneB hx hb dX4_even_5 (tgt := 11) (by decide) (fun c1 => ?_) (fun c1 => ?_)
  · obtain ⟨k, hk, ek⟩ := usB_t hz c1
    have ekc : cl u = k := by rw [ek]; exact cl_N (by omega)
    have huf := hz.us hk
    have hwb := huf.2.2.2.1.2
    refine lv_iload_n hx hb dX4_even_11 rfl (lv_at hl 2 rfl) ?_
    refine lv_iconst (v := nI 1) hx hb dX4_even_12 (by decide) ?_
    refine lv_sipush (v := nI 1500) hx hb dX4_even_13 (by decide) ?_
    refine r_cS (av := [.int n, .int (nI 1), .int (nI 1500)]) (c_X4_in l G t n (nI 1) (nI 1500)) ⟨hx, hb, hml, hown, hts⟩ (va_cwS 3 hts gX4_even_X4_in rfl rfl rfl (by decide +kernel) ⟨Nat.le_of_ble_eq_true rfl, Nat.le_of_ble_eq_true rfl⟩) mv_T trivial rfl hl (Nat.le_of_ble_eq_true rfl) ⟨Nat.le_of_ble_eq_true rfl, Nat.le_of_ble_eq_true rfl⟩ rfl dX4_even_16 (fun r2 hr2 => ?_)
    subst hr2
    refine r_ifneB hx hb dX4_even_19 (tgt := 25) (by decide) (fun c2 => ?_) (fun c2 => ?_)
    · obtain ⟨j, ja, jb, ej⟩ := in_of (by decide) (by decide) c2
      have ejc : cl n = j := by rw [ej]; exact cl_N (by omega)
      have ho := hz.o hk
      refine lv_aload_n hx hb dX4_even_25 rfl (lv_at hl 0 rfl) ?_
      refine lv_iload_n hx hb dX4_even_26 rfl (lv_at hl 1 rfl) ?_
      refine r_top (y := nI k) ek ?_
      refine lv_iconst (v := nI 4) hx hb dX4_even_27 (by decide) ?_
      refine r_cV (av := [.int (nI k), .int (nI 4)]) (c_X4_of l G t d z hz k 4 (by omega) (by decide)) ⟨hx, hb, hml, hown, hts⟩ (cwV 2 hts gX4_even_X4_of rfl rfl rfl (by decide +kernel) ⟨Nat.le_of_ble_eq_true rfl, Nat.le_of_ble_eq_true rfl⟩) mv_K ⟨hK, ⟨_, _, _, h0, h1⟩⟩ (at_recv hK h0 rfl) rfl hl (Nat.le_of_ble_eq_true rfl) ⟨Nat.le_of_ble_eq_true rfl, Nat.le_of_ble_eq_true rfl⟩ rfl dX4_even_28 (fun r3 hr3 => ?_)
      subst hr3
      refine r_top (y := nI (uO z k)) huf.2.2.2.2.1 ?_
      refine lv_istore_n (lv' := [(3, .int (nI (uO z k))), (0, .ref d), (1, .int u), (2, .int n)]) hx hb dX4_even_31 rfl hl (by decide) rfl (fun ls hl => ?_)
      refine lv_iconst (v := nI 0) hx hb dX4_even_32 (by decide) ?_
      refine lv_istore (lv' := [(4, .int (nI 0)), (3, .int (nI (uO z k))), (0, .ref d), (1, .int u), (2, .int n)]) hx hb dX4_even_33 hl (by decide) rfl (fun ls hl => ?_)
      have loop35 : ∀ (fu : Nat) (i : Nat) (f : Nat → Int32) (hi : i ≤ 10) (hf : ∀ y, y < i → f y = nI 0) (hfu : 10 - i < fu) (H : Heap) (locs : List Loc) (h0 : at_ G d (.inr (4, [.ref (d + 1), .int (nI bc), .ref (d + 2), .ref (d + 3), .ref (d + 4), .int (nI sl), .int (nI (prN (cn z))), .ref (d + 5), .ref (d + 6), .long lo])) H) (h1 : at_ G (d + 1) (aI t 60 z) H) (h2 : at_ G (d + 2) (aI t 720 fB) H) (h3 : at_ G (d + 3) (aI t 120 fI) H) (h4 : at_ G (d + 4) (aZ t 2 (fun i => bI (kp i))) H) (h5 : at_ G (d + 5) (aI t 5 fG) H) (h6 : at_ G (d + 6) (aI t 10 f) H)  (hS : va_S (iv d (d + 7)) s.heap H locs) (ls : Array Slot) (hl : lv_has ls 8 [(0, .ref d), (1, .int u), (2, .int n), (3, .int (nI (uO z k))), (4, .int (nI i))]), W p l e (headSpec wsX4_even ({ frames := 3, cells := 0, slots := 0, locals := 77 } : Room)).room s m ([.ref d, .int u, .int n] : List Value).toArray below meth c H locs 0 0 (MQ below (qi_ (fun r H => r = rEven u n z ∧ PM G t d (z, gr, sl, bc, bk, kp, im) H) (iv d (d + 7))) ([.ref d, .int u, .int n] : List Value).toArray s 0 0 (iv d (d + 7))) (F0 m 35 ls []) := by
        intro fu
        induction fu with
        | zero => intro i f hi hf hfu; exact absurd hfu (Nat.not_lt_zero _)
        | succ fu35 ih35 =>
          intro i f hi hf hfu H locs h0 h1 h2 h3 h4 h5 h6 hS ls hl
          refine lv_iload hx hb dX4_even_35 (lv_at hl 4 rfl) ?_
          refine lv_bipush (v := nI 10) hx hb dX4_even_37 (by decide) ?_
          refine r_geN hx hb (by omega) (by omega) dX4_even_39 (tgt := 56) (by decide) (fun c3 => ?_) (fun c3 => ?_)
          · refine lv_iconst (v := nI 0) hx hb dX4_even_56 (by decide) ?_
            refine lv_istore (lv' := [(4, .int (nI 0)), (0, .ref d), (1, .int u), (2, .int n), (3, .int (nI (uO z k)))]) hx hb dX4_even_57 hl (by decide) rfl (fun ls hl => ?_)
            have loop59 : ∀ (fu : Nat) (i : Nat) (f : Nat → Int32) (hi : i ≤ j) (hf : ∀ q, q < 10 → f q = nI (tmN z k i q)) (hfu : j - i < fu) (H : Heap) (locs : List Loc) (h0 : at_ G d (.inr (4, [.ref (d + 1), .int (nI bc), .ref (d + 2), .ref (d + 3), .ref (d + 4), .int (nI sl), .int (nI (prN (cn z))), .ref (d + 5), .ref (d + 6), .long lo])) H) (h1 : at_ G (d + 1) (aI t 60 z) H) (h2 : at_ G (d + 2) (aI t 720 fB) H) (h3 : at_ G (d + 3) (aI t 120 fI) H) (h4 : at_ G (d + 4) (aZ t 2 (fun i => bI (kp i))) H) (h5 : at_ G (d + 5) (aI t 5 fG) H) (h6 : at_ G (d + 6) (aI t 10 f) H)  (hS : va_S (iv d (d + 7)) s.heap H locs) (ls : Array Slot) (hl : lv_has ls 8 [(0, .ref d), (1, .int u), (2, .int n), (3, .int (nI (uO z k))), (4, .int (nI i))]), W p l e (headSpec wsX4_even ({ frames := 3, cells := 0, slots := 0, locals := 77 } : Room)).room s m ([.ref d, .int u, .int n] : List Value).toArray below meth c H locs 0 0 (MQ below (qi_ (fun r H => r = rEven u n z ∧ PM G t d (z, gr, sl, bc, bk, kp, im) H) (iv d (d + 7))) ([.ref d, .int u, .int n] : List Value).toArray s 0 0 (iv d (d + 7))) (F0 m 59 ls []) := by
              intro fu
              induction fu with
              | zero => intro i f hi hf hfu; exact absurd hfu (Nat.not_lt_zero _)
              | succ fu59 ih59 =>
                intro i f hi hf hfu H locs h0 h1 h2 h3 h4 h5 h6 hS ls hl
                refine lv_iload hx hb dX4_even_59 (lv_at hl 4 rfl) ?_
                refine lv_iload_n hx hb dX4_even_61 rfl (lv_at hl 2 rfl) ?_
                refine r_top (y := nI j) ej ?_
                refine r_geN hx hb (by omega) (by omega) dX4_even_62 (tgt := 91) (by decide) (fun c4 => ?_) (fun c4 => ?_)
                · have hf8 : ∀ q, q < 10 → f q = nI (tmN z k j q) := fun q hq => by rw [hf q hq, show i = j by omega]
                  refine lv_iconst (v := nI 0) hx hb dX4_even_91 (by decide) ?_
                  refine lv_istore (lv' := [(4, .int (nI 0)), (0, .ref d), (1, .int u), (2, .int n), (3, .int (nI (uO z k)))]) hx hb dX4_even_92 hl (by decide) rfl (fun ls hl => ?_)
                  refine lv_iload_n hx hb dX4_even_94 rfl (lv_at hl 3 rfl) ?_
                  refine r_top (y := nI j) ej ?_
                  refine lv_istore (lv' := [(5, .int (nI j)), (4, .int (nI 0)), (0, .ref d), (1, .int u), (2, .int n), (3, .int (nI (uO z k)))]) hx hb dX4_even_95 hl (by decide) rfl (fun ls hl => ?_)
                  refine lv_iconst (v := nI 0) hx hb dX4_even_97 (by decide) ?_
                  refine lv_istore (lv' := [(6, .int (nI 0)), (5, .int (nI j)), (4, .int (nI 0)), (0, .ref d), (1, .int u), (2, .int n), (3, .int (nI (uO z k)))]) hx hb dX4_even_98 hl (by decide) rfl (fun ls hl => ?_)
                  have loop100 : ∀ (fu : Nat) (i : Nat) (mo : Nat) (le : Nat) (hi : i ≤ cn z) (hmo : mo = moN z k j i) (hle : le = leN z k j i) (hfu : cn z - i < fu) (ls : Array Slot) (hl : lv_has ls 8 [(0, .ref d), (1, .int u), (2, .int n), (3, .int (nI (uO z k))), (4, .int (nI mo)), (5, .int (nI le)), (6, .int (nI i))]), W p l e (headSpec wsX4_even ({ frames := 3, cells := 0, slots := 0, locals := 77 } : Room)).room s m ([.ref d, .int u, .int n] : List Value).toArray below meth c H locs 0 0 (MQ below (qi_ (fun r H => r = rEven u n z ∧ PM G t d (z, gr, sl, bc, bk, kp, im) H) (iv d (d + 7))) ([.ref d, .int u, .int n] : List Value).toArray s 0 0 (iv d (d + 7))) (F0 m 100 ls []) := by
                    intro fu
                    induction fu with
                    | zero => intro i mo le hi hmo hle hfu; exact absurd hfu (Nat.not_lt_zero _)
                    | succ fu100 ih100 =>
                      intro i mo le hi hmo hle hfu ls hl
                      have hb1 := mo_le z k j i
                      have hb2 := le_le z k j i
                      have hb3 := tm_le z k j i
                      refine lv_iload hx hb dX4_even_100 (lv_at hl 6 rfl) ?_
                      refine lv_aload_n hx hb dX4_even_102 rfl (lv_at hl 0 rfl) ?_
                      refine r_get (C := RX4) (T := TX4) (N := 10) hx hb hts iiX4_even_4 hown hK h0 rfl 0 (by decide) (hts (.fieldLink RX4 7 "HopMeetModel" "now" "[I") (List.mem_of_getElem? (i := 4) rfl)) rfl dX4_even_103 ?_
                      refine lv_iconst (v := nI 0) hx hb dX4_even_106 (by decide) ?_
                      refine r_iald hx hb hK h1 rfl 0 (by omega) (by decide) (v := nI (cn z)) hz.1.1 dX4_even_107 ?_
                      refine r_geN hx hb (by omega) (by omega) dX4_even_108 (tgt := 196) (by decide) (fun c7 => ?_) (fun c7 => ?_)
                      · refine lv_iload_n hx hb dX4_even_196 rfl (lv_at hl 3 rfl) ?_
                        refine r_ifneN hx hb (by omega) dX4_even_197 (tgt := 204) (by decide) (fun c11 => ?_) (fun c11 => ?_)
                        · refine lv_iload hx hb dX4_even_204 (lv_at hl 4 rfl) ?_
                          refine lv_iload hx hb dX4_even_206 (lv_at hl 5 rfl) ?_
                          refine lv_isub hx hb dX4_even_208 ?_
                          exact r_retI (v := (nI mo) - (nI le)) hx hb hr hlocks hS ⟨by unfold rEven; rw [c1, c2, ekc, ejc, hmo, hle, show i = cn z by omega]; exact (if_neg c11).symm, PM_mk h0 h1 h2 h3 h4 h5 h6 e1 e2 e3⟩ dX4_even_209
                        · refine lv_iconst (v := nI 0) hx hb dX4_even_200 (by decide) ?_
                          refine lv_goto (tgt := 209) hx hb dX4_even_201 (by decide) ?_
                          exact r_retI (v := nI 0) hx hb hr hlocks hS ⟨by unfold rEven; rw [c1, c2, ekc, ejc]; exact (if_pos c11).symm, PM_mk h0 h1 h2 h3 h4 h5 h6 e1 e2 e3⟩ dX4_even_209
                      · refine lv_iload_n hx hb dX4_even_111 rfl (lv_at hl 3 rfl) ?_
                        refine lv_iload hx hb dX4_even_112 (lv_at hl 6 rfl) ?_
                        refine lv_ishr hx hb dX4_even_114 ?_
                        refine r_top (y := nI (uO z k / 2 ^ i)) (i_shr (by omega) (by omega)) ?_
                        refine lv_iconst (v := nI 1) hx hb dX4_even_115 (by decide) ?_
                        refine r_iandN hx hb dX4_even_116 ?_
                        refine r_top (y := nI (bt0 (uO z k) i)) (congrArg nI (i_and1 _)) ?_
                        refine lv_iconst (v := nI 1) hx hb dX4_even_117 (by decide) ?_
                        refine r_neN hx hb (Nat.lt_trans (bt0_lt _ _) (by decide)) (by decide) dX4_even_118 (tgt := 125) (by decide) (fun c8 => ?_) (fun c8 => ?_)
                        · have hb0 : btB (uO z k) i = false := decide_eq_false c8
                          refine lv_iconst (v := nI 0) hx hb dX4_even_125 (by decide) ?_
                          refine lv_istore (lv' := [(7, .int (nI 0)), (0, .ref d), (1, .int u), (2, .int n), (3, .int (nI (uO z k))), (4, .int (nI mo)), (5, .int (nI le)), (6, .int (nI i))]) hx hb dX4_even_126 hl (by decide) rfl (fun ls hl => ?_)
                          refine lv_iload hx hb dX4_even_128 (lv_at hl 0 rfl) ?_
                          refine r_ifeqN hx hb (by omega) dX4_even_130 (tgt := 155) (by decide) (fun _ => ?_) (fun c4 => absurd c4 (by decide))
                          refine lv_iload hx hb dX4_even_155 (lv_at hl 5 rfl) ?_
                          refine lv_istore (lv' := [(4, .int (nI mo)), (7, .int (nI 0)), (0, .ref d), (1, .int u), (2, .int n), (3, .int (nI (uO z k))), (5, .int (nI le)), (6, .int (nI i))]) hx hb dX4_even_157 hl (by decide) rfl (fun ls hl => ?_)
                          refine lv_iload hx hb dX4_even_159 (lv_at hl 1 rfl) ?_
                          refine r_ifeqN hx hb (by omega) dX4_even_161 (tgt := 186) (by decide) (fun _ => ?_) (fun c5 => absurd c5 (by decide))
                          refine lv_iload hx hb dX4_even_186 (lv_at hl 6 rfl) ?_
                          refine lv_istore (lv' := [(5, .int (nI le)), (4, .int (nI mo)), (7, .int (nI 0)), (0, .ref d), (1, .int u), (2, .int n), (3, .int (nI (uO z k))), (6, .int (nI i))]) hx hb dX4_even_188 hl (by decide) rfl (fun ls hl => ?_)
                          refine lv_iinc (v := nI (i + 1)) (lv' := [(6, .int (nI (i + 1))), (5, .int (nI le)), (4, .int (nI mo)), (7, .int (nI 0)), (0, .ref d), (1, .int u), (2, .int n), (3, .int (nI (uO z k)))]) hx hb dX4_even_190 hl (k := 7) rfl (nI_1 _) (by decide) rfl (fun ls hl => ?_)
                          refine lv_goto (tgt := 100) hx hb dX4_even_193 (by decide) ?_
                          exact ih100 (i + 1) mo le (by omega) (mo_n hmo hb0) (le_n hle hb0) (by omega) ls (lv_sub hl [4, 5, 6, 7, 2, 1, 0] rfl)
                        · have hb0 : btB (uO z k) i = true := decide_eq_true c8
                          refine lv_iconst (v := nI 1) hx hb dX4_even_121 (by decide) ?_
                          refine lv_goto (tgt := 126) hx hb dX4_even_122 (by decide) ?_
                          refine lv_istore (lv' := [(7, .int (nI 1)), (0, .ref d), (1, .int u), (2, .int n), (3, .int (nI (uO z k))), (4, .int (nI mo)), (5, .int (nI le)), (6, .int (nI i))]) hx hb dX4_even_126 hl (by decide) rfl (fun ls hl => ?_)
                          refine lv_iload hx hb dX4_even_128 (lv_at hl 0 rfl) ?_
                          refine r_ifeqN hx hb (by omega) dX4_even_130 (tgt := 155) (by decide) (fun c6 => absurd c6 (by decide)) (fun _ => ?_)
                          refine lv_aload_n hx hb dX4_even_133 rfl (lv_at hl 1 rfl) ?_
                          refine r_get (C := RX4) (T := TX4) (N := 10) hx hb hts iiX4_even_4 hown hK h0 rfl 8 (by decide) (hts (.fieldLink RX4 26 "HopMeetModel" "many" "[I") (List.mem_of_getElem? (i := 3) rfl)) rfl dX4_even_134 ?_
                          refine lv_iload hx hb dX4_even_137 (lv_at hl 7 rfl) ?_
                          refine r_iald hx hb hK h6 rfl i (by omega) (by decide) (v := nI (tmN z k j i)) (hf8 i (by omega)) dX4_even_139 ?_
                          refine lv_iload hx hb dX4_even_140 (lv_at hl 5 rfl) ?_
                          refine r_leN hx hb (by omega) (by omega) dX4_even_142 (tgt := 155) (by decide) (fun c9 => ?_) (fun c9 => ?_)
                          · refine lv_iload hx hb dX4_even_155 (lv_at hl 5 rfl) ?_
                            refine lv_istore (lv' := [(4, .int (nI mo)), (7, .int (nI 1)), (0, .ref d), (1, .int u), (2, .int n), (3, .int (nI (uO z k))), (5, .int (nI le)), (6, .int (nI i))]) hx hb dX4_even_157 hl (by decide) rfl (fun ls hl => ?_)
                            refine lv_iload hx hb dX4_even_159 (lv_at hl 1 rfl) ?_
                            refine r_ifeqN hx hb (by omega) dX4_even_161 (tgt := 186) (by decide) (fun c7 => absurd c7 (by decide)) (fun _ => ?_)
                            refine lv_aload_n hx hb dX4_even_164 rfl (lv_at hl 2 rfl) ?_
                            refine r_get (C := RX4) (T := TX4) (N := 10) hx hb hts iiX4_even_4 hown hK h0 rfl 8 (by decide) (hts (.fieldLink RX4 26 "HopMeetModel" "many" "[I") (List.mem_of_getElem? (i := 3) rfl)) rfl dX4_even_165 ?_
                            refine lv_iload hx hb dX4_even_168 (lv_at hl 7 rfl) ?_
                            refine r_iald hx hb hK h6 rfl i (by omega) (by decide) (v := nI (tmN z k j i)) (hf8 i (by omega)) dX4_even_170 ?_
                            refine lv_iload hx hb dX4_even_171 (lv_at hl 6 rfl) ?_
                            refine r_geN hx hb (by omega) (by omega) dX4_even_173 (tgt := 186) (by decide) (fun c10 => ?_) (fun c10 => ?_)
                            · refine lv_iload hx hb dX4_even_186 (lv_at hl 6 rfl) ?_
                              refine lv_istore (lv' := [(5, .int (nI le)), (4, .int (nI mo)), (7, .int (nI 1)), (0, .ref d), (1, .int u), (2, .int n), (3, .int (nI (uO z k))), (6, .int (nI i))]) hx hb dX4_even_188 hl (by decide) rfl (fun ls hl => ?_)
                              refine lv_iinc (v := nI (i + 1)) (lv' := [(6, .int (nI (i + 1))), (5, .int (nI le)), (4, .int (nI mo)), (7, .int (nI 1)), (0, .ref d), (1, .int u), (2, .int n), (3, .int (nI (uO z k)))]) hx hb dX4_even_190 hl (k := 7) rfl (nI_1 _) (by decide) rfl (fun ls hl => ?_)
                              refine lv_goto (tgt := 100) hx hb dX4_even_193 (by decide) ?_
                              exact ih100 (i + 1) mo le (by omega) ((if_neg (by omega)).symm.trans (mo_y hmo hb0)) ((if_neg (by omega)).symm.trans (le_y hle hb0)) (by omega) ls (lv_sub hl [4, 5, 6, 7, 2, 1, 0] rfl)
                            · refine lv_aload_n hx hb dX4_even_176 rfl (lv_at hl 2 rfl) ?_
                              refine r_get (C := RX4) (T := TX4) (N := 10) hx hb hts iiX4_even_4 hown hK h0 rfl 8 (by decide) (hts (.fieldLink RX4 26 "HopMeetModel" "many" "[I") (List.mem_of_getElem? (i := 3) rfl)) rfl dX4_even_177 ?_
                              refine lv_iload hx hb dX4_even_180 (lv_at hl 7 rfl) ?_
                              refine r_iald hx hb hK h6 rfl i (by omega) (by decide) (v := nI (tmN z k j i)) (hf8 i (by omega)) dX4_even_182 ?_
                              refine lv_goto (tgt := 188) hx hb dX4_even_183 (by decide) ?_
                              refine lv_istore (lv' := [(5, .int (nI (tmN z k j i))), (4, .int (nI mo)), (7, .int (nI 1)), (0, .ref d), (1, .int u), (2, .int n), (3, .int (nI (uO z k))), (6, .int (nI i))]) hx hb dX4_even_188 hl (by decide) rfl (fun ls hl => ?_)
                              refine lv_iinc (v := nI (i + 1)) (lv' := [(6, .int (nI (i + 1))), (5, .int (nI (tmN z k j i))), (4, .int (nI mo)), (7, .int (nI 1)), (0, .ref d), (1, .int u), (2, .int n), (3, .int (nI (uO z k)))]) hx hb dX4_even_190 hl (k := 7) rfl (nI_1 _) (by decide) rfl (fun ls hl => ?_)
                              refine lv_goto (tgt := 100) hx hb dX4_even_193 (by decide) ?_
                              exact ih100 (i + 1) mo (tmN z k j i) (by omega) ((if_neg (by omega)).symm.trans (mo_y hmo hb0)) ((if_pos (by omega)).symm.trans (le_y hle hb0)) (by omega) ls (lv_sub hl [4, 5, 6, 7, 2, 1, 0] rfl)
                          · refine lv_aload_n hx hb dX4_even_145 rfl (lv_at hl 1 rfl) ?_
                            refine r_get (C := RX4) (T := TX4) (N := 10) hx hb hts iiX4_even_4 hown hK h0 rfl 8 (by decide) (hts (.fieldLink RX4 26 "HopMeetModel" "many" "[I") (List.mem_of_getElem? (i := 3) rfl)) rfl dX4_even_146 ?_
                            refine lv_iload hx hb dX4_even_149 (lv_at hl 7 rfl) ?_
                            refine r_iald hx hb hK h6 rfl i (by omega) (by decide) (v := nI (tmN z k j i)) (hf8 i (by omega)) dX4_even_151 ?_
                            refine lv_goto (tgt := 157) hx hb dX4_even_152 (by decide) ?_
                            refine lv_istore (lv' := [(4, .int (nI (tmN z k j i))), (7, .int (nI 1)), (0, .ref d), (1, .int u), (2, .int n), (3, .int (nI (uO z k))), (5, .int (nI le)), (6, .int (nI i))]) hx hb dX4_even_157 hl (by decide) rfl (fun ls hl => ?_)
                            refine lv_iload hx hb dX4_even_159 (lv_at hl 1 rfl) ?_
                            refine r_ifeqN hx hb (by omega) dX4_even_161 (tgt := 186) (by decide) (fun c8 => absurd c8 (by decide)) (fun _ => ?_)
                            refine lv_aload_n hx hb dX4_even_164 rfl (lv_at hl 2 rfl) ?_
                            refine r_get (C := RX4) (T := TX4) (N := 10) hx hb hts iiX4_even_4 hown hK h0 rfl 8 (by decide) (hts (.fieldLink RX4 26 "HopMeetModel" "many" "[I") (List.mem_of_getElem? (i := 3) rfl)) rfl dX4_even_165 ?_
                            refine lv_iload hx hb dX4_even_168 (lv_at hl 7 rfl) ?_
                            refine r_iald hx hb hK h6 rfl i (by omega) (by decide) (v := nI (tmN z k j i)) (hf8 i (by omega)) dX4_even_170 ?_
                            refine lv_iload hx hb dX4_even_171 (lv_at hl 6 rfl) ?_
                            refine r_geN hx hb (by omega) (by omega) dX4_even_173 (tgt := 186) (by decide) (fun c10 => ?_) (fun c10 => ?_)
                            · refine lv_iload hx hb dX4_even_186 (lv_at hl 6 rfl) ?_
                              refine lv_istore (lv' := [(5, .int (nI le)), (4, .int (nI (tmN z k j i))), (7, .int (nI 1)), (0, .ref d), (1, .int u), (2, .int n), (3, .int (nI (uO z k))), (6, .int (nI i))]) hx hb dX4_even_188 hl (by decide) rfl (fun ls hl => ?_)
                              refine lv_iinc (v := nI (i + 1)) (lv' := [(6, .int (nI (i + 1))), (5, .int (nI le)), (4, .int (nI (tmN z k j i))), (7, .int (nI 1)), (0, .ref d), (1, .int u), (2, .int n), (3, .int (nI (uO z k)))]) hx hb dX4_even_190 hl (k := 7) rfl (nI_1 _) (by decide) rfl (fun ls hl => ?_)
                              refine lv_goto (tgt := 100) hx hb dX4_even_193 (by decide) ?_
                              exact ih100 (i + 1) (tmN z k j i) le (by omega) ((if_pos (by omega)).symm.trans (mo_y hmo hb0)) ((if_neg (by omega)).symm.trans (le_y hle hb0)) (by omega) ls (lv_sub hl [4, 5, 6, 7, 2, 1, 0] rfl)
                            · refine lv_aload_n hx hb dX4_even_176 rfl (lv_at hl 2 rfl) ?_
                              refine r_get (C := RX4) (T := TX4) (N := 10) hx hb hts iiX4_even_4 hown hK h0 rfl 8 (by decide) (hts (.fieldLink RX4 26 "HopMeetModel" "many" "[I") (List.mem_of_getElem? (i := 3) rfl)) rfl dX4_even_177 ?_
                              refine lv_iload hx hb dX4_even_180 (lv_at hl 7 rfl) ?_
                              refine r_iald hx hb hK h6 rfl i (by omega) (by decide) (v := nI (tmN z k j i)) (hf8 i (by omega)) dX4_even_182 ?_
                              refine lv_goto (tgt := 188) hx hb dX4_even_183 (by decide) ?_
                              refine lv_istore (lv' := [(5, .int (nI (tmN z k j i))), (4, .int (nI (tmN z k j i))), (7, .int (nI 1)), (0, .ref d), (1, .int u), (2, .int n), (3, .int (nI (uO z k))), (6, .int (nI i))]) hx hb dX4_even_188 hl (by decide) rfl (fun ls hl => ?_)
                              refine lv_iinc (v := nI (i + 1)) (lv' := [(6, .int (nI (i + 1))), (5, .int (nI (tmN z k j i))), (4, .int (nI (tmN z k j i))), (7, .int (nI 1)), (0, .ref d), (1, .int u), (2, .int n), (3, .int (nI (uO z k)))]) hx hb dX4_even_190 hl (k := 7) rfl (nI_1 _) (by decide) rfl (fun ls hl => ?_)
                              refine lv_goto (tgt := 100) hx hb dX4_even_193 (by decide) ?_
                              exact ih100 (i + 1) (tmN z k j i) (tmN z k j i) (by omega) ((if_pos (by omega)).symm.trans (mo_y hmo hb0)) ((if_pos (by omega)).symm.trans (le_y hle hb0)) (by omega) ls (lv_sub hl [4, 5, 6, 7, 2, 1, 0] rfl)
                  exact loop100 _ 0 0 j (Nat.zero_le _) rfl rfl (Nat.lt_succ_self _) ls (lv_sub hl [3, 4, 5, 6, 2, 1, 0] rfl)
                · refine lv_iload_n hx hb dX4_even_65 rfl (lv_at hl 3 rfl) ?_
                  refine r_ifeqN hx hb (by omega) dX4_even_66 (tgt := 91) (by decide) (fun c5 => ?_) (fun c5 => ?_)
                  · have hf8 : ∀ q, q < 10 → f q = nI (tmN z k j q) := fun q hq => by rw [hf q hq, tm_0 c5 hq, tm_0 c5 hq]
                    refine lv_iconst (v := nI 0) hx hb dX4_even_91 (by decide) ?_
                    refine lv_istore (lv' := [(4, .int (nI 0)), (0, .ref d), (1, .int u), (2, .int n), (3, .int (nI (uO z k)))]) hx hb dX4_even_92 hl (by decide) rfl (fun ls hl => ?_)
                    refine lv_iload_n hx hb dX4_even_94 rfl (lv_at hl 3 rfl) ?_
                    refine r_top (y := nI j) ej ?_
                    refine lv_istore (lv' := [(5, .int (nI j)), (4, .int (nI 0)), (0, .ref d), (1, .int u), (2, .int n), (3, .int (nI (uO z k)))]) hx hb dX4_even_95 hl (by decide) rfl (fun ls hl => ?_)
                    refine lv_iconst (v := nI 0) hx hb dX4_even_97 (by decide) ?_
                    refine lv_istore (lv' := [(6, .int (nI 0)), (5, .int (nI j)), (4, .int (nI 0)), (0, .ref d), (1, .int u), (2, .int n), (3, .int (nI (uO z k)))]) hx hb dX4_even_98 hl (by decide) rfl (fun ls hl => ?_)
                    have loop100 : ∀ (fu : Nat) (i : Nat) (mo : Nat) (le : Nat) (hi : i ≤ cn z) (hmo : mo = moN z k j i) (hle : le = leN z k j i) (hfu : cn z - i < fu) (ls : Array Slot) (hl : lv_has ls 8 [(0, .ref d), (1, .int u), (2, .int n), (3, .int (nI (uO z k))), (4, .int (nI mo)), (5, .int (nI le)), (6, .int (nI i))]), W p l e (headSpec wsX4_even ({ frames := 3, cells := 0, slots := 0, locals := 77 } : Room)).room s m ([.ref d, .int u, .int n] : List Value).toArray below meth c H locs 0 0 (MQ below (qi_ (fun r H => r = rEven u n z ∧ PM G t d (z, gr, sl, bc, bk, kp, im) H) (iv d (d + 7))) ([.ref d, .int u, .int n] : List Value).toArray s 0 0 (iv d (d + 7))) (F0 m 100 ls []) := by
                      intro fu
                      induction fu with
                      | zero => intro i mo le hi hmo hle hfu; exact absurd hfu (Nat.not_lt_zero _)
                      | succ fu100 ih100 =>
                        intro i mo le hi hmo hle hfu ls hl
                        have hb1 := mo_le z k j i
                        have hb2 := le_le z k j i
                        have hb3 := tm_le z k j i
                        refine lv_iload hx hb dX4_even_100 (lv_at hl 6 rfl) ?_
                        refine lv_aload_n hx hb dX4_even_102 rfl (lv_at hl 0 rfl) ?_
                        refine r_get (C := RX4) (T := TX4) (N := 10) hx hb hts iiX4_even_4 hown hK h0 rfl 0 (by decide) (hts (.fieldLink RX4 7 "HopMeetModel" "now" "[I") (List.mem_of_getElem? (i := 4) rfl)) rfl dX4_even_103 ?_
                        refine lv_iconst (v := nI 0) hx hb dX4_even_106 (by decide) ?_
                        refine r_iald hx hb hK h1 rfl 0 (by omega) (by decide) (v := nI (cn z)) hz.1.1 dX4_even_107 ?_
                        refine r_geN hx hb (by omega) (by omega) dX4_even_108 (tgt := 196) (by decide) (fun c7 => ?_) (fun c7 => ?_)
                        · refine lv_iload_n hx hb dX4_even_196 rfl (lv_at hl 3 rfl) ?_
                          refine r_ifneN hx hb (by omega) dX4_even_197 (tgt := 204) (by decide) (fun c11 => ?_) (fun c11 => ?_)
                          · refine lv_iload hx hb dX4_even_204 (lv_at hl 4 rfl) ?_
                            refine lv_iload hx hb dX4_even_206 (lv_at hl 5 rfl) ?_
                            refine lv_isub hx hb dX4_even_208 ?_
                            exact r_retI (v := (nI mo) - (nI le)) hx hb hr hlocks hS ⟨by unfold rEven; rw [c1, c2, ekc, ejc, hmo, hle, show i = cn z by omega]; exact (if_neg c11).symm, PM_mk h0 h1 h2 h3 h4 h5 h6 e1 e2 e3⟩ dX4_even_209
                          · refine lv_iconst (v := nI 0) hx hb dX4_even_200 (by decide) ?_
                            refine lv_goto (tgt := 209) hx hb dX4_even_201 (by decide) ?_
                            exact r_retI (v := nI 0) hx hb hr hlocks hS ⟨by unfold rEven; rw [c1, c2, ekc, ejc]; exact (if_pos c11).symm, PM_mk h0 h1 h2 h3 h4 h5 h6 e1 e2 e3⟩ dX4_even_209
                        · refine lv_iload_n hx hb dX4_even_111 rfl (lv_at hl 3 rfl) ?_
                          refine lv_iload hx hb dX4_even_112 (lv_at hl 6 rfl) ?_
                          refine lv_ishr hx hb dX4_even_114 ?_
                          refine r_top (y := nI (uO z k / 2 ^ i)) (i_shr (by omega) (by omega)) ?_
                          refine lv_iconst (v := nI 1) hx hb dX4_even_115 (by decide) ?_
                          refine r_iandN hx hb dX4_even_116 ?_
                          refine r_top (y := nI (bt0 (uO z k) i)) (congrArg nI (i_and1 _)) ?_
                          refine lv_iconst (v := nI 1) hx hb dX4_even_117 (by decide) ?_
                          refine r_neN hx hb (Nat.lt_trans (bt0_lt _ _) (by decide)) (by decide) dX4_even_118 (tgt := 125) (by decide) (fun c8 => ?_) (fun c8 => ?_)
                          · have hb0 : btB (uO z k) i = false := decide_eq_false c8
                            refine lv_iconst (v := nI 0) hx hb dX4_even_125 (by decide) ?_
                            refine lv_istore (lv' := [(7, .int (nI 0)), (0, .ref d), (1, .int u), (2, .int n), (3, .int (nI (uO z k))), (4, .int (nI mo)), (5, .int (nI le)), (6, .int (nI i))]) hx hb dX4_even_126 hl (by decide) rfl (fun ls hl => ?_)
                            refine lv_iload hx hb dX4_even_128 (lv_at hl 0 rfl) ?_
                            refine r_ifeqN hx hb (by omega) dX4_even_130 (tgt := 155) (by decide) (fun _ => ?_) (fun c9 => absurd c9 (by decide))
                            refine lv_iload hx hb dX4_even_155 (lv_at hl 5 rfl) ?_
                            refine lv_istore (lv' := [(4, .int (nI mo)), (7, .int (nI 0)), (0, .ref d), (1, .int u), (2, .int n), (3, .int (nI (uO z k))), (5, .int (nI le)), (6, .int (nI i))]) hx hb dX4_even_157 hl (by decide) rfl (fun ls hl => ?_)
                            refine lv_iload hx hb dX4_even_159 (lv_at hl 1 rfl) ?_
                            refine r_ifeqN hx hb (by omega) dX4_even_161 (tgt := 186) (by decide) (fun _ => ?_) (fun c10 => absurd c10 (by decide))
                            refine lv_iload hx hb dX4_even_186 (lv_at hl 6 rfl) ?_
                            refine lv_istore (lv' := [(5, .int (nI le)), (4, .int (nI mo)), (7, .int (nI 0)), (0, .ref d), (1, .int u), (2, .int n), (3, .int (nI (uO z k))), (6, .int (nI i))]) hx hb dX4_even_188 hl (by decide) rfl (fun ls hl => ?_)
                            refine lv_iinc (v := nI (i + 1)) (lv' := [(6, .int (nI (i + 1))), (5, .int (nI le)), (4, .int (nI mo)), (7, .int (nI 0)), (0, .ref d), (1, .int u), (2, .int n), (3, .int (nI (uO z k)))]) hx hb dX4_even_190 hl (k := 7) rfl (nI_1 _) (by decide) rfl (fun ls hl => ?_)
                            refine lv_goto (tgt := 100) hx hb dX4_even_193 (by decide) ?_
                            exact ih100 (i + 1) mo le (by omega) (mo_n hmo hb0) (le_n hle hb0) (by omega) ls (lv_sub hl [4, 5, 6, 7, 2, 1, 0] rfl)
                          · have hb0 : btB (uO z k) i = true := decide_eq_true c8
                            refine lv_iconst (v := nI 1) hx hb dX4_even_121 (by decide) ?_
                            refine lv_goto (tgt := 126) hx hb dX4_even_122 (by decide) ?_
                            refine lv_istore (lv' := [(7, .int (nI 1)), (0, .ref d), (1, .int u), (2, .int n), (3, .int (nI (uO z k))), (4, .int (nI mo)), (5, .int (nI le)), (6, .int (nI i))]) hx hb dX4_even_126 hl (by decide) rfl (fun ls hl => ?_)
                            refine lv_iload hx hb dX4_even_128 (lv_at hl 0 rfl) ?_
                            refine r_ifeqN hx hb (by omega) dX4_even_130 (tgt := 155) (by decide) (fun c11 => absurd c11 (by decide)) (fun _ => ?_)
                            refine lv_aload_n hx hb dX4_even_133 rfl (lv_at hl 1 rfl) ?_
                            refine r_get (C := RX4) (T := TX4) (N := 10) hx hb hts iiX4_even_4 hown hK h0 rfl 8 (by decide) (hts (.fieldLink RX4 26 "HopMeetModel" "many" "[I") (List.mem_of_getElem? (i := 3) rfl)) rfl dX4_even_134 ?_
                            refine lv_iload hx hb dX4_even_137 (lv_at hl 7 rfl) ?_
                            refine r_iald hx hb hK h6 rfl i (by omega) (by decide) (v := nI (tmN z k j i)) (hf8 i (by omega)) dX4_even_139 ?_
                            refine lv_iload hx hb dX4_even_140 (lv_at hl 5 rfl) ?_
                            refine r_leN hx hb (by omega) (by omega) dX4_even_142 (tgt := 155) (by decide) (fun c9 => ?_) (fun c9 => ?_)
                            · refine lv_iload hx hb dX4_even_155 (lv_at hl 5 rfl) ?_
                              refine lv_istore (lv' := [(4, .int (nI mo)), (7, .int (nI 1)), (0, .ref d), (1, .int u), (2, .int n), (3, .int (nI (uO z k))), (5, .int (nI le)), (6, .int (nI i))]) hx hb dX4_even_157 hl (by decide) rfl (fun ls hl => ?_)
                              refine lv_iload hx hb dX4_even_159 (lv_at hl 1 rfl) ?_
                              refine r_ifeqN hx hb (by omega) dX4_even_161 (tgt := 186) (by decide) (fun c12 => absurd c12 (by decide)) (fun _ => ?_)
                              refine lv_aload_n hx hb dX4_even_164 rfl (lv_at hl 2 rfl) ?_
                              refine r_get (C := RX4) (T := TX4) (N := 10) hx hb hts iiX4_even_4 hown hK h0 rfl 8 (by decide) (hts (.fieldLink RX4 26 "HopMeetModel" "many" "[I") (List.mem_of_getElem? (i := 3) rfl)) rfl dX4_even_165 ?_
                              refine lv_iload hx hb dX4_even_168 (lv_at hl 7 rfl) ?_
                              refine r_iald hx hb hK h6 rfl i (by omega) (by decide) (v := nI (tmN z k j i)) (hf8 i (by omega)) dX4_even_170 ?_
                              refine lv_iload hx hb dX4_even_171 (lv_at hl 6 rfl) ?_
                              refine r_geN hx hb (by omega) (by omega) dX4_even_173 (tgt := 186) (by decide) (fun c10 => ?_) (fun c10 => ?_)
                              · refine lv_iload hx hb dX4_even_186 (lv_at hl 6 rfl) ?_
                                refine lv_istore (lv' := [(5, .int (nI le)), (4, .int (nI mo)), (7, .int (nI 1)), (0, .ref d), (1, .int u), (2, .int n), (3, .int (nI (uO z k))), (6, .int (nI i))]) hx hb dX4_even_188 hl (by decide) rfl (fun ls hl => ?_)
                                refine lv_iinc (v := nI (i + 1)) (lv' := [(6, .int (nI (i + 1))), (5, .int (nI le)), (4, .int (nI mo)), (7, .int (nI 1)), (0, .ref d), (1, .int u), (2, .int n), (3, .int (nI (uO z k)))]) hx hb dX4_even_190 hl (k := 7) rfl (nI_1 _) (by decide) rfl (fun ls hl => ?_)
                                refine lv_goto (tgt := 100) hx hb dX4_even_193 (by decide) ?_
                                exact ih100 (i + 1) mo le (by omega) ((if_neg (by omega)).symm.trans (mo_y hmo hb0)) ((if_neg (by omega)).symm.trans (le_y hle hb0)) (by omega) ls (lv_sub hl [4, 5, 6, 7, 2, 1, 0] rfl)
                              · refine lv_aload_n hx hb dX4_even_176 rfl (lv_at hl 2 rfl) ?_
                                refine r_get (C := RX4) (T := TX4) (N := 10) hx hb hts iiX4_even_4 hown hK h0 rfl 8 (by decide) (hts (.fieldLink RX4 26 "HopMeetModel" "many" "[I") (List.mem_of_getElem? (i := 3) rfl)) rfl dX4_even_177 ?_
                                refine lv_iload hx hb dX4_even_180 (lv_at hl 7 rfl) ?_
                                refine r_iald hx hb hK h6 rfl i (by omega) (by decide) (v := nI (tmN z k j i)) (hf8 i (by omega)) dX4_even_182 ?_
                                refine lv_goto (tgt := 188) hx hb dX4_even_183 (by decide) ?_
                                refine lv_istore (lv' := [(5, .int (nI (tmN z k j i))), (4, .int (nI mo)), (7, .int (nI 1)), (0, .ref d), (1, .int u), (2, .int n), (3, .int (nI (uO z k))), (6, .int (nI i))]) hx hb dX4_even_188 hl (by decide) rfl (fun ls hl => ?_)
                                refine lv_iinc (v := nI (i + 1)) (lv' := [(6, .int (nI (i + 1))), (5, .int (nI (tmN z k j i))), (4, .int (nI mo)), (7, .int (nI 1)), (0, .ref d), (1, .int u), (2, .int n), (3, .int (nI (uO z k)))]) hx hb dX4_even_190 hl (k := 7) rfl (nI_1 _) (by decide) rfl (fun ls hl => ?_)
                                refine lv_goto (tgt := 100) hx hb dX4_even_193 (by decide) ?_
                                exact ih100 (i + 1) mo (tmN z k j i) (by omega) ((if_neg (by omega)).symm.trans (mo_y hmo hb0)) ((if_pos (by omega)).symm.trans (le_y hle hb0)) (by omega) ls (lv_sub hl [4, 5, 6, 7, 2, 1, 0] rfl)
                            · refine lv_aload_n hx hb dX4_even_145 rfl (lv_at hl 1 rfl) ?_
                              refine r_get (C := RX4) (T := TX4) (N := 10) hx hb hts iiX4_even_4 hown hK h0 rfl 8 (by decide) (hts (.fieldLink RX4 26 "HopMeetModel" "many" "[I") (List.mem_of_getElem? (i := 3) rfl)) rfl dX4_even_146 ?_
                              refine lv_iload hx hb dX4_even_149 (lv_at hl 7 rfl) ?_
                              refine r_iald hx hb hK h6 rfl i (by omega) (by decide) (v := nI (tmN z k j i)) (hf8 i (by omega)) dX4_even_151 ?_
                              refine lv_goto (tgt := 157) hx hb dX4_even_152 (by decide) ?_
                              refine lv_istore (lv' := [(4, .int (nI (tmN z k j i))), (7, .int (nI 1)), (0, .ref d), (1, .int u), (2, .int n), (3, .int (nI (uO z k))), (5, .int (nI le)), (6, .int (nI i))]) hx hb dX4_even_157 hl (by decide) rfl (fun ls hl => ?_)
                              refine lv_iload hx hb dX4_even_159 (lv_at hl 1 rfl) ?_
                              refine r_ifeqN hx hb (by omega) dX4_even_161 (tgt := 186) (by decide) (fun c13 => absurd c13 (by decide)) (fun _ => ?_)
                              refine lv_aload_n hx hb dX4_even_164 rfl (lv_at hl 2 rfl) ?_
                              refine r_get (C := RX4) (T := TX4) (N := 10) hx hb hts iiX4_even_4 hown hK h0 rfl 8 (by decide) (hts (.fieldLink RX4 26 "HopMeetModel" "many" "[I") (List.mem_of_getElem? (i := 3) rfl)) rfl dX4_even_165 ?_
                              refine lv_iload hx hb dX4_even_168 (lv_at hl 7 rfl) ?_
                              refine r_iald hx hb hK h6 rfl i (by omega) (by decide) (v := nI (tmN z k j i)) (hf8 i (by omega)) dX4_even_170 ?_
                              refine lv_iload hx hb dX4_even_171 (lv_at hl 6 rfl) ?_
                              refine r_geN hx hb (by omega) (by omega) dX4_even_173 (tgt := 186) (by decide) (fun c10 => ?_) (fun c10 => ?_)
                              · refine lv_iload hx hb dX4_even_186 (lv_at hl 6 rfl) ?_
                                refine lv_istore (lv' := [(5, .int (nI le)), (4, .int (nI (tmN z k j i))), (7, .int (nI 1)), (0, .ref d), (1, .int u), (2, .int n), (3, .int (nI (uO z k))), (6, .int (nI i))]) hx hb dX4_even_188 hl (by decide) rfl (fun ls hl => ?_)
                                refine lv_iinc (v := nI (i + 1)) (lv' := [(6, .int (nI (i + 1))), (5, .int (nI le)), (4, .int (nI (tmN z k j i))), (7, .int (nI 1)), (0, .ref d), (1, .int u), (2, .int n), (3, .int (nI (uO z k)))]) hx hb dX4_even_190 hl (k := 7) rfl (nI_1 _) (by decide) rfl (fun ls hl => ?_)
                                refine lv_goto (tgt := 100) hx hb dX4_even_193 (by decide) ?_
                                exact ih100 (i + 1) (tmN z k j i) le (by omega) ((if_pos (by omega)).symm.trans (mo_y hmo hb0)) ((if_neg (by omega)).symm.trans (le_y hle hb0)) (by omega) ls (lv_sub hl [4, 5, 6, 7, 2, 1, 0] rfl)
                              · refine lv_aload_n hx hb dX4_even_176 rfl (lv_at hl 2 rfl) ?_
                                refine r_get (C := RX4) (T := TX4) (N := 10) hx hb hts iiX4_even_4 hown hK h0 rfl 8 (by decide) (hts (.fieldLink RX4 26 "HopMeetModel" "many" "[I") (List.mem_of_getElem? (i := 3) rfl)) rfl dX4_even_177 ?_
                                refine lv_iload hx hb dX4_even_180 (lv_at hl 7 rfl) ?_
                                refine r_iald hx hb hK h6 rfl i (by omega) (by decide) (v := nI (tmN z k j i)) (hf8 i (by omega)) dX4_even_182 ?_
                                refine lv_goto (tgt := 188) hx hb dX4_even_183 (by decide) ?_
                                refine lv_istore (lv' := [(5, .int (nI (tmN z k j i))), (4, .int (nI (tmN z k j i))), (7, .int (nI 1)), (0, .ref d), (1, .int u), (2, .int n), (3, .int (nI (uO z k))), (6, .int (nI i))]) hx hb dX4_even_188 hl (by decide) rfl (fun ls hl => ?_)
                                refine lv_iinc (v := nI (i + 1)) (lv' := [(6, .int (nI (i + 1))), (5, .int (nI (tmN z k j i))), (4, .int (nI (tmN z k j i))), (7, .int (nI 1)), (0, .ref d), (1, .int u), (2, .int n), (3, .int (nI (uO z k)))]) hx hb dX4_even_190 hl (k := 7) rfl (nI_1 _) (by decide) rfl (fun ls hl => ?_)
                                refine lv_goto (tgt := 100) hx hb dX4_even_193 (by decide) ?_
                                exact ih100 (i + 1) (tmN z k j i) (tmN z k j i) (by omega) ((if_pos (by omega)).symm.trans (mo_y hmo hb0)) ((if_pos (by omega)).symm.trans (le_y hle hb0)) (by omega) ls (lv_sub hl [4, 5, 6, 7, 2, 1, 0] rfl)
                    exact loop100 _ 0 0 j (Nat.zero_le _) rfl rfl (Nat.lt_succ_self _) ls (lv_sub hl [3, 4, 5, 6, 2, 1, 0] rfl)
                  · obtain ⟨q, hq8, eq⟩ := (hz.pl hk i).resolve_left (fun h => c5 ((plN_m1 hz hk).mp h))
                    have hq9 : q < 10 := by omega
                    refine lv_aload_n hx hb dX4_even_69 rfl (lv_at hl 0 rfl) ?_
                    refine r_get (C := RX4) (T := TX4) (N := 10) hx hb hts iiX4_even_4 hown hK h0 rfl 8 (by decide) (hts (.fieldLink RX4 26 "HopMeetModel" "many" "[I") (List.mem_of_getElem? (i := 3) rfl)) rfl dX4_even_70 ?_
                    refine lv_aload_n hx hb dX4_even_73 rfl (lv_at hl 0 rfl) ?_
                    refine lv_iload_n hx hb dX4_even_74 rfl (lv_at hl 1 rfl) ?_
                    refine r_top (y := nI k) ek ?_
                    refine lv_iload hx hb dX4_even_75 (lv_at hl 4 rfl) ?_
                    refine r_cV (av := [.int (nI k), .int (nI i)]) (c_X4_lands l G t d z hz k i hk (by omega)) ⟨hx, hb, hml, hown, hts⟩ (cwV 2 hts gX4_even_X4_lands rfl rfl rfl (by decide +kernel) ⟨Nat.le_of_ble_eq_true rfl, Nat.le_of_ble_eq_true rfl⟩) mv_K ⟨hK, ⟨_, _, _, h0, h1⟩⟩ (at_recv hK h0 rfl) rfl hl (Nat.le_of_ble_eq_true rfl) ⟨Nat.le_of_ble_eq_true rfl, Nat.le_of_ble_eq_true rfl⟩ rfl dX4_even_77 (fun r14 hr14 => ?_)
                    subst hr14
                    refine r_top (y := nI q) eq ?_
                    refine lv_dup2_11 hx hb dX4_even_80 rfl rfl ?_
                    refine r_iald hx hb hK h6 rfl q hq9 (by decide) (v := nI (tmN z k i q)) (hf q hq9) dX4_even_81 ?_
                    refine lv_iconst (v := nI 1) hx hb dX4_even_82 (by decide) ?_
                    refine r_iaddN hx hb dX4_even_83 ?_
                    refine r_iast hx hb hK h6 ⟨by omega, by omega⟩ hS rfl q hq9 (by decide) dX4_even_84 (fun H locs h6 hz9 hq hS => ?_)
                    have h0 := at_kept h0 (hq _ (by omega))
                    have h1 := at_kept h1 (hq _ (by omega))
                    have h2 := at_kept h2 (hq _ (by omega))
                    have h3 := at_kept h3 (hq _ (by omega))
                    have h4 := at_kept h4 (hq _ (by omega))
                    have h5 := at_kept h5 (hq _ (by omega))
                    refine lv_iinc (v := nI (i + 1)) (lv' := [(4, .int (nI (i + 1))), (0, .ref d), (1, .int u), (2, .int n), (3, .int (nI (uO z k)))]) hx hb dX4_even_85 hl (k := 4) rfl (nI_1 _) (by decide) rfl (fun ls hl => ?_)
                    refine lv_goto (tgt := 59) hx hb dX4_even_88 (by decide) ?_
                    exact ih59 (i + 1) (upd f q (nI (tmN z k i q + 1))) (by omega) (tm_step hf hq9 eq) (by omega) _ _ h0 h1 h2 h3 h4 h5 h6 hS ls (lv_sub hl [1, 2, 3, 4, 0] rfl)
            exact loop59 _ 0 f (Nat.zero_le _) (fun q hq => hf q (by omega)) (Nat.lt_succ_self _) _ _ h0 h1 h2 h3 h4 h5 h6 hS ls (lv_sub hl [1, 2, 3, 4, 0] rfl)
          · refine lv_aload_n hx hb dX4_even_42 rfl (lv_at hl 0 rfl) ?_
            refine r_get (C := RX4) (T := TX4) (N := 10) hx hb hts iiX4_even_4 hown hK h0 rfl 8 (by decide) (hts (.fieldLink RX4 26 "HopMeetModel" "many" "[I") (List.mem_of_getElem? (i := 3) rfl)) rfl dX4_even_43 ?_
            refine lv_iload hx hb dX4_even_46 (lv_at hl 4 rfl) ?_
            refine lv_iconst (v := nI 0) hx hb dX4_even_48 (by decide) ?_
            refine r_iast hx hb hK h6 ⟨by omega, by omega⟩ hS rfl i (by omega) (by decide) dX4_even_49 (fun H locs h6 hz9 hq hS => ?_)
            have h0 := at_kept h0 (hq _ (by omega))
            have h1 := at_kept h1 (hq _ (by omega))
            have h2 := at_kept h2 (hq _ (by omega))
            have h3 := at_kept h3 (hq _ (by omega))
            have h4 := at_kept h4 (hq _ (by omega))
            have h5 := at_kept h5 (hq _ (by omega))
            refine lv_iinc (v := nI (i + 1)) (lv' := [(4, .int (nI (i + 1))), (0, .ref d), (1, .int u), (2, .int n), (3, .int (nI (uO z k)))]) hx hb dX4_even_50 hl (k := 4) rfl (nI_1 _) (by decide) rfl (fun ls hl => ?_)
            refine lv_goto (tgt := 35) hx hb dX4_even_53 (by decide) ?_
            exact ih35 (i + 1) (upd f i (nI 0)) (by omega) (up_ext (g := fun _ => nI 0) hf rfl) (by omega) _ _ h0 h1 h2 h3 h4 h5 h6 hS ls (lv_sub hl [1, 2, 3, 4, 0] rfl)
      exact loop35 _ 0 fM (Nat.zero_le _) (fun j h => absurd h (Nat.not_lt_zero _)) (Nat.lt_succ_self _) _ _ h0 h1 h2 h3 h4 h5 h6 hS ls (lv_sub hl [2, 3, 4, 1, 0] rfl)
    · refine lv_ldc (v := (-1000000002)) hx hb hown (hts (.constant RX4 83 (-1000000002)) (List.mem_of_getElem? (i := 2) rfl)) dX4_even_22 ?_
      exact r_retI (v := (-1000000002)) hx hb hr hlocks hS ⟨by unfold rEven; rw [c1, c2]; rfl, hB.2⟩ dX4_even_24
  · refine lv_ldc (v := (-1000000001)) hx hb hown (hts (.constant RX4 96 (-1000000001)) (List.mem_of_getElem? (i := 1) rfl)) dX4_even_8 ?_
    exact r_retI (v := (-1000000001)) hx hb hr hlocks hS ⟨by unfold rEven; rw [c1]; rfl, hB.2⟩ dX4_even_10

set_option maxRecDepth 20000 in
theorem iiX4_run_4 : ∀ w ∈ wsX40, w ∈ wsX4_run := by decide +kernel
set_option maxHeartbeats 4000000 in
set_option maxRecDepth 100000 in
/-- slots are run -/
theorem c_X4_run (l : Launch) (G : va_G) (t : gT) (d : Nat) (z : Nat → Int32) (gr : Nat → Nat) (sl bc : Nat) (bk : Nat → Nat → Int32) (kp : Nat → Bool) (im : Nat → Nat → Int32) (hz : WF z) (hsl : sl ≤ 3000) (hg : ∀ u, gr u ≤ u) (hg2 : ∀ u, gr (gr u) = gr u) (n : Int32) : Met l yX4_run wsX4_run ({ frames := 7, cells := 0, slots := 0, locals := 168 } : Room) (pc_ [.ref d, .int n] (fun U H => KK G t U ∧ PM G t d (z, gr, sl, bc, bk, kp, im) H)) (qi_ (fun r H => r = rRun n z gr sl ∧ PM G t d (oRun n z gr sl bc bk kp im) H) (iv d (d + 7))) 0 0 (iv d (d + 7)) := by
  refine Met.ofW (cc := cX4_run) (maxL := 3) (ret := (some .int)) (by decide) rfl ?_
  intro p e s m args below meth c s₁ B hml hv
  obtain ⟨rfl, hB⟩ := hv
  have hx := B.exec
  have hb := B.bytes
  have hr := B.returns
  have hts := atoms_spec (ws := wsX4_run) B.pre
  have hown : s.vm.findClass RX4 = some m.cls := findClass_of_methodNamed B.named
  have hlocks := B.notSynchronized
  have hK := hB.1
  obtain ⟨lo, fB, fI, fG, fM, h0, h1, h2, h3, h4, h5, h6, e1, e2, e3⟩ := hB.2
  have hn := hz.n
  have hu5 := hz.u5
  have hs8 := hz.s8
  have hPM := hB.2
  have hS : va_S (iv d (d + 7)) s.heap s.heap [] := va_S.rf
  have hl := lv_entry ([.ref d, .int n]) (n := 3) (Nat.le_of_ble_eq_true rfl)
  rw [lg_entry_eq]
  generalize (lg_sl ([.ref d, .int n]) ++ List.replicate (3 - (lg_sl ([.ref d, .int n])).length) Slot.unset).toArray = ls at hl ⊢
  have hl : lv_has ls 3 [(0, .ref d), (1, .int n)] := hl
  refine lv_iload_n hx hb dX4_run_0 rfl (lv_at hl 1 rfl) ?_
  refine lv_iconst (v := nI 1) hx hb dX4_run_1 (by decide) ?_
  refine lv_sipush (v := nI 200) hx hb dX4_run_2 (by decide) ?_
  refine r_cS (av := [.int n, .int (nI 1), .int (nI 200)]) (c_X4_in l G t n (nI 1) (nI 200)) ⟨hx, hb, hml, hown, hts⟩ (va_cwS 3 hts gX4_run_X4_in rfl rfl rfl (by decide +kernel) ⟨Nat.le_of_ble_eq_true rfl, Nat.le_of_ble_eq_true rfl⟩) mv_T trivial rfl hl (Nat.le_of_ble_eq_true rfl) ⟨Nat.le_of_ble_eq_true rfl, Nat.le_of_ble_eq_true rfl⟩ rfl dX4_run_5 (fun r1 hr1 => ?_)
  subst hr1
  refine r_ifneB hx hb dX4_run_8 (tgt := 14) (by decide) (fun c3 => ?_) (fun c3 => ?_)
  · obtain ⟨j, ja, jb, ej⟩ := in_of (by decide) (by decide) c3
    have ejc : cl n = j := by rw [ej]; exact cl_N (by omega)
    refine lv_aload_n hx hb dX4_run_14 rfl (lv_at hl 0 rfl) ?_
    refine r_get (C := RX4) (T := TX4) (N := 10) hx hb hts iiX4_run_4 hown hK h0 rfl 0 (by decide) (hts (.fieldLink RX4 7 "HopMeetModel" "now" "[I") (List.mem_of_getElem? (i := 2) rfl)) rfl dX4_run_15 ?_
    refine lv_iconst (v := nI 1) hx hb dX4_run_18 (by decide) ?_
    refine r_iald hx hb hK h1 rfl 1 (by omega) (by decide) (v := nI (cu z)) hz.2.1.1 dX4_run_19 ?_
    refine r_ifneN hx hb (by omega) dX4_run_20 (tgt := 26) (by decide) (fun c4 => ?_) (fun c4 => ?_)
    · refine lv_aload_n hx hb dX4_run_26 rfl (lv_at hl 0 rfl) ?_
      refine r_get (C := RX4) (T := TX4) (N := 10) hx hb hts iiX4_run_4 hown hK h0 rfl 5 (by decide) (hts (.fieldLink RX4 73 "HopMeetModel" "slots" "I") (List.mem_of_getElem? (i := 4) rfl)) rfl dX4_run_27 ?_
      refine lv_sipush (v := nI 3000) hx hb dX4_run_30 (by decide) ?_
      refine r_neN hx hb (by omega) (by omega) dX4_run_33 (tgt := 39) (by decide) (fun c5 => ?_) (fun c5 => ?_)
      · have c55 : sl < 3000 := by omega
        refine lv_iconst (v := nI 0) hx hb dX4_run_39 (by decide) ?_
        refine lv_istore_n (lv' := [(2, .int (nI 0)), (0, .ref d), (1, .int n)]) hx hb dX4_run_40 rfl hl (by decide) rfl (fun ls hl => ?_)
        have loop41 : ∀ (fu : Nat) (i : Nat) (g : Nat → Nat) (q : Nat) (hi : i ≤ j) (hq3 : q ≤ 3000) (hg : ∀ u, g u ≤ u) (hg2 : ∀ u, g (g u) = g u) (hrn : rnS z (j - i) (g, q) = rnS z j (gr, sl)) (hfu : j - i < fu) (H : Heap) (locs : List Loc)  (hPM : PM G t d (z, g, q, bc, bk, kp, im) H) (hS : va_S (iv d (d + 7)) s.heap H locs) (ls : Array Slot) (hl : lv_has ls 3 [(0, .ref d), (1, .int n), (2, .int (nI i))]), W p l e (headSpec wsX4_run ({ frames := 7, cells := 0, slots := 0, locals := 168 } : Room)).room s m ([.ref d, .int n] : List Value).toArray below meth c H locs 0 0 (MQ below (qi_ (fun r H => r = rRun n z gr sl ∧ PM G t d (oRun n z gr sl bc bk kp im) H) (iv d (d + 7))) ([.ref d, .int n] : List Value).toArray s 0 0 (iv d (d + 7))) (F0 m 41 ls []) := by
          intro fu
          induction fu with
          | zero => intro i g q hi hq3 hg hg2 hrn hfu; exact absurd hfu (Nat.not_lt_zero _)
          | succ fu41 ih41 =>
            intro i g q hi hq3 hg hg2 hrn hfu H locs hPM hS ls hl
            obtain ⟨lo, fB, fI, fG, fM, h0, h1, h2, h3, h4, h5, h6, e1, e2, e3⟩ := id hPM
            refine lv_iload_n hx hb dX4_run_41 rfl (lv_at hl 2 rfl) ?_
            refine lv_iload_n hx hb dX4_run_42 rfl (lv_at hl 1 rfl) ?_
            refine r_top (y := nI j) ej ?_
            refine r_geN hx hb (by omega) (by omega) dX4_run_43 (tgt := 66) (by decide) (fun c6 => ?_) (fun c6 => ?_)
            · refine lv_aload_n hx hb dX4_run_66 rfl (lv_at hl 0 rfl) ?_
              refine r_cV (av := []) (c_X4_groups l G t d z g q bc bk kp im hz hg) ⟨hx, hb, hml, hown, hts⟩ (cwV 0 hts gX4_run_X4_groups rfl rfl rfl (by decide +kernel) ⟨Nat.le_of_ble_eq_true rfl, Nat.le_of_ble_eq_true rfl⟩) mv_K ⟨hK, hPM⟩ (at_recv hK h0 rfl) rfl hl (Nat.le_of_ble_eq_true rfl) ⟨Nat.le_of_ble_eq_true rfl, Nat.le_of_ble_eq_true rfl⟩ rfl dX4_run_67 (fun r2 hr2 => ?_)
              subst hr2
              exact r_retI (v := nI (grN g (cu z))) hx hb hr hlocks hS (by have hend : rnS z j (gr, sl) = (g, q) := (by first | (rw [← hrn, show j - i = 0 by omega]; rfl) | (rw [← hrn, rnS_full (by show ¬ q < 3000; omega)])); exact ⟨by unfold rRun; rw [c3, decide_eq_false c4, decide_eq_true c55, ejc, hend]; rfl, by unfold oRun; rw [and_t c3 (and_t (by rw [decide_eq_false c4]; rfl) (decide_eq_true c55)), ejc, hend]; exact hPM⟩) dX4_run_70
            · refine lv_aload_n hx hb dX4_run_46 rfl (lv_at hl 0 rfl) ?_
              refine r_get (C := RX4) (T := TX4) (N := 10) hx hb hts iiX4_run_4 hown hK h0 rfl 5 (by decide) (hts (.fieldLink RX4 73 "HopMeetModel" "slots" "I") (List.mem_of_getElem? (i := 4) rfl)) rfl dX4_run_47 ?_
              refine lv_sipush (v := nI 3000) hx hb dX4_run_50 (by decide) ?_
              refine r_geN hx hb (by omega) (by omega) dX4_run_53 (tgt := 66) (by decide) (fun c7 => ?_) (fun c7 => ?_)
              · refine lv_aload_n hx hb dX4_run_66 rfl (lv_at hl 0 rfl) ?_
                refine r_cV (av := []) (c_X4_groups l G t d z g q bc bk kp im hz hg) ⟨hx, hb, hml, hown, hts⟩ (cwV 0 hts gX4_run_X4_groups rfl rfl rfl (by decide +kernel) ⟨Nat.le_of_ble_eq_true rfl, Nat.le_of_ble_eq_true rfl⟩) mv_K ⟨hK, hPM⟩ (at_recv hK h0 rfl) rfl hl (Nat.le_of_ble_eq_true rfl) ⟨Nat.le_of_ble_eq_true rfl, Nat.le_of_ble_eq_true rfl⟩ rfl dX4_run_67 (fun r3 hr3 => ?_)
                subst hr3
                exact r_retI (v := nI (grN g (cu z))) hx hb hr hlocks hS (by have hend : rnS z j (gr, sl) = (g, q) := (by first | (rw [← hrn, show j - i = 0 by omega]; rfl) | (rw [← hrn, rnS_full (by show ¬ q < 3000; omega)])); exact ⟨by unfold rRun; rw [c3, decide_eq_false c4, decide_eq_true c55, ejc, hend]; rfl, by unfold oRun; rw [and_t c3 (and_t (by rw [decide_eq_false c4]; rfl) (decide_eq_true c55)), ejc, hend]; exact hPM⟩) dX4_run_70
              · refine lv_aload_n hx hb dX4_run_56 rfl (lv_at hl 0 rfl) ?_
                refine r_mV (av := []) (c_X4_slot l G t d z g q bc bk kp im hz hg hg2 hq3) ⟨hx, hb, hml, hown, hts⟩ (cwV 0 hts gX4_run_X4_slot rfl rfl rfl (by decide +kernel) ⟨Nat.le_of_ble_eq_true rfl, Nat.le_of_ble_eq_true rfl⟩) mv_K ⟨hK, hPM⟩ (at_recv hK h0 rfl) rfl hl (Nat.le_of_ble_eq_true rfl) ⟨Nat.le_of_ble_eq_true rfl, Nat.le_of_ble_eq_true rfl⟩ rfl dX4_run_57 hS (fun q h => h) (fun H locs hP hz9 hk hS => ?_)
                have hPM := hP
                refine lv_iinc (v := nI (i + 1)) (lv' := [(2, .int (nI (i + 1))), (0, .ref d), (1, .int n)]) hx hb dX4_run_60 hl (k := 2) rfl (nI_1 _) (by decide) rfl (fun ls hl => ?_)
                refine lv_goto (tgt := 41) hx hb dX4_run_63 (by decide) ?_
                exact ih41 (i + 1) (grS z g q) (q + 1) (by omega) (by omega) (grS_le hg) (grS_idem hg2) (rn_step hrn c6 c7) (by omega) _ _ hPM hS ls (lv_sub hl [1, 2, 0] rfl)
        exact loop41 _ 0 gr sl (Nat.zero_le _) hsl hg hg2 rfl (Nat.lt_succ_self _) _ _ hPM hS ls (lv_sub hl [1, 2, 0] rfl)
      · refine lv_ldc (v := (-1000000004)) hx hb hown (hts (.constant RX4 88 (-1000000004)) (List.mem_of_getElem? (i := 5) rfl)) dX4_run_36 ?_
        exact r_retI (v := (-1000000004)) hx hb hr hlocks hS ⟨by unfold rRun; rw [c3, decide_eq_false c4, decide_eq_false (by omega)]; rfl, by unfold oRun; rw [and_f2 (and_f2 (decide_eq_false (by omega)))]; exact hB.2⟩ dX4_run_38
    · refine lv_ldc (v := (-1000000003)) hx hb hown (hts (.constant RX4 110 (-1000000003)) (List.mem_of_getElem? (i := 3) rfl)) dX4_run_23 ?_
      exact r_retI (v := (-1000000003)) hx hb hr hlocks hS ⟨by unfold rRun; rw [c3, decide_eq_true c4]; rfl, by unfold oRun; rw [and_f2 (and_f1 (by rw [decide_eq_true c4]; rfl))]; exact hB.2⟩ dX4_run_25
  · refine lv_ldc (v := (-1000000002)) hx hb hown (hts (.constant RX4 83 (-1000000002)) (List.mem_of_getElem? (i := 1) rfl)) dX4_run_11 ?_
    exact r_retI (v := (-1000000002)) hx hb hr hlocks hS ⟨by unfold rRun; rw [c3]; rfl, by unfold oRun; rw [and_f1 c3]; exact hB.2⟩ dX4_run_13

set_option maxRecDepth 20000 in
theorem iiX4_merge_4 : ∀ w ∈ wsX40, w ∈ wsX4_merge := by decide +kernel
set_option maxHeartbeats 4000000 in
set_option maxRecDepth 100000 in
/-- run till all are one -/
theorem c_X4_merge (l : Launch) (G : va_G) (t : gT) (d : Nat) (z : Nat → Int32) (gr : Nat → Nat) (sl bc : Nat) (bk : Nat → Nat → Int32) (kp : Nat → Bool) (im : Nat → Nat → Int32) (hz : WF z) (hsl : sl ≤ 3000) (hg : ∀ u, gr u ≤ u) (hg2 : ∀ u, gr (gr u) = gr u) : Met l yX4_merge wsX4_merge ({ frames := 7, cells := 0, slots := 0, locals := 168 } : Room) (pc_ [.ref d] (fun U H => KK G t U ∧ PM G t d (z, gr, sl, bc, bk, kp, im) H)) (qi_ (fun r H => r = rMerge z gr sl ∧ PM G t d (oMerge z gr sl bc bk kp im) H) (iv d (d + 7))) 0 0 (iv d (d + 7)) := by
  refine Met.ofW (cc := cX4_merge) (maxL := 2) (ret := (some .int)) (by decide) rfl ?_
  intro p e s m args below meth c s₁ B hml hv
  obtain ⟨rfl, hB⟩ := hv
  have hx := B.exec
  have hb := B.bytes
  have hr := B.returns
  have hts := atoms_spec (ws := wsX4_merge) B.pre
  have hown : s.vm.findClass RX4 = some m.cls := findClass_of_methodNamed B.named
  have hlocks := B.notSynchronized
  have hK := hB.1
  obtain ⟨lo, fB, fI, fG, fM, h0, h1, h2, h3, h4, h5, h6, e1, e2, e3⟩ := hB.2
  have hn := hz.n
  have hu5 := hz.u5
  have hs8 := hz.s8
  have hPM := hB.2
  have hS : va_S (iv d (d + 7)) s.heap s.heap [] := va_S.rf
  have hl := lv_entry ([.ref d]) (n := 2) (Nat.le_of_ble_eq_true rfl)
  rw [lg_entry_eq]
  generalize (lg_sl ([.ref d]) ++ List.replicate (2 - (lg_sl ([.ref d])).length) Slot.unset).toArray = ls at hl ⊢
  have hl : lv_has ls 2 [(0, .ref d)] := hl
  refine lv_aload_n hx hb dX4_merge_0 rfl (lv_at hl 0 rfl) ?_
  refine r_get (C := RX4) (T := TX4) (N := 10) hx hb hts iiX4_merge_4 hown hK h0 rfl 0 (by decide) (hts (.fieldLink RX4 7 "HopMeetModel" "now" "[I") (List.mem_of_getElem? (i := 1) rfl)) rfl dX4_merge_1 ?_
  refine lv_iconst (v := nI 1) hx hb dX4_merge_4 (by decide) ?_
  refine r_iald hx hb hK h1 rfl 1 (by omega) (by decide) (v := nI (cu z)) hz.2.1.1 dX4_merge_5 ?_
  refine r_ifneN hx hb (by omega) dX4_merge_6 (tgt := 12) (by decide) (fun c4 => ?_) (fun c4 => ?_)
  · refine lv_iconst (v := nI 0) hx hb dX4_merge_12 (by decide) ?_
    refine lv_istore_n (lv' := [(1, .int (nI 0)), (0, .ref d)]) hx hb dX4_merge_13 rfl hl (by decide) rfl (fun ls hl => ?_)
    have loop14 : ∀ (fu : Nat) (i : Nat) (g : Nat → Nat) (q : Nat) (hi : i ≤ 1500) (hq3 : q ≤ 3000) (hg : ∀ u, g u ≤ u) (hg2 : ∀ u, g (g u) = g u) (hrn : mgS z (1500 - i) (g, q) = mgS z 1500 (gr, sl)) (hfu : 1500 - i < fu) (H : Heap) (locs : List Loc)  (hPM : PM G t d (z, g, q, bc, bk, kp, im) H) (hS : va_S (iv d (d + 7)) s.heap H locs) (ls : Array Slot) (hl : lv_has ls 2 [(0, .ref d), (1, .int (nI i))]), W p l e (headSpec wsX4_merge ({ frames := 7, cells := 0, slots := 0, locals := 168 } : Room)).room s m ([.ref d] : List Value).toArray below meth c H locs 0 0 (MQ below (qi_ (fun r H => r = rMerge z gr sl ∧ PM G t d (oMerge z gr sl bc bk kp im) H) (iv d (d + 7))) ([.ref d] : List Value).toArray s 0 0 (iv d (d + 7))) (F0 m 14 ls []) := by
      intro fu
      induction fu with
      | zero => intro i g q hi hq3 hg hg2 hrn hfu; exact absurd hfu (Nat.not_lt_zero _)
      | succ fu14 ih14 =>
        intro i g q hi hq3 hg hg2 hrn hfu H locs hPM hS ls hl
        obtain ⟨lo, fB, fI, fG, fM, h0, h1, h2, h3, h4, h5, h6, e1, e2, e3⟩ := id hPM
        refine lv_iload_n hx hb dX4_merge_14 rfl (lv_at hl 1 rfl) ?_
        refine lv_sipush (v := nI 1500) hx hb dX4_merge_15 (by decide) ?_
        refine r_geN hx hb (by omega) (by omega) dX4_merge_18 (tgt := 49) (by decide) (fun c6 => ?_) (fun c6 => ?_)
        · refine lv_aload_n hx hb dX4_merge_49 rfl (lv_at hl 0 rfl) ?_
          refine r_get (C := RX4) (T := TX4) (N := 10) hx hb hts iiX4_merge_4 hown hK h0 rfl 5 (by decide) (hts (.fieldLink RX4 73 "HopMeetModel" "slots" "I") (List.mem_of_getElem? (i := 3) rfl)) rfl dX4_merge_50 ?_
          exact r_retI (v := nI q) hx hb hr hlocks hS (by have hend : mgS z 1500 (gr, sl) = (g, q) := (by first | (rw [← hrn, show 1500 - i = 0 by omega]; rfl) | (rw [← hrn, mgS_end (fun h => by have h8 : q < 3000 := h.1; omega)]) | (rw [← hrn, mgS_end (fun h => by have h8 : 1 < grN g (cu z) := h.2; omega)])); exact ⟨by unfold rMerge; rw [decide_eq_false c4, hend]; rfl, by unfold oMerge; rw [decide_eq_false c4, hend]; exact hPM⟩) dX4_merge_53
        · refine lv_aload_n hx hb dX4_merge_21 rfl (lv_at hl 0 rfl) ?_
          refine r_get (C := RX4) (T := TX4) (N := 10) hx hb hts iiX4_merge_4 hown hK h0 rfl 5 (by decide) (hts (.fieldLink RX4 73 "HopMeetModel" "slots" "I") (List.mem_of_getElem? (i := 3) rfl)) rfl dX4_merge_22 ?_
          refine lv_sipush (v := nI 3000) hx hb dX4_merge_25 (by decide) ?_
          refine r_geN hx hb (by omega) (by omega) dX4_merge_28 (tgt := 49) (by decide) (fun c7 => ?_) (fun c7 => ?_)
          · refine lv_aload_n hx hb dX4_merge_49 rfl (lv_at hl 0 rfl) ?_
            refine r_get (C := RX4) (T := TX4) (N := 10) hx hb hts iiX4_merge_4 hown hK h0 rfl 5 (by decide) (hts (.fieldLink RX4 73 "HopMeetModel" "slots" "I") (List.mem_of_getElem? (i := 3) rfl)) rfl dX4_merge_50 ?_
            exact r_retI (v := nI q) hx hb hr hlocks hS (by have hend : mgS z 1500 (gr, sl) = (g, q) := (by first | (rw [← hrn, show 1500 - i = 0 by omega]; rfl) | (rw [← hrn, mgS_end (fun h => by have h8 : q < 3000 := h.1; omega)]) | (rw [← hrn, mgS_end (fun h => by have h8 : 1 < grN g (cu z) := h.2; omega)])); exact ⟨by unfold rMerge; rw [decide_eq_false c4, hend]; rfl, by unfold oMerge; rw [decide_eq_false c4, hend]; exact hPM⟩) dX4_merge_53
          · refine lv_aload_n hx hb dX4_merge_31 rfl (lv_at hl 0 rfl) ?_
            refine r_cV (av := []) (c_X4_groups l G t d z g q bc bk kp im hz hg) ⟨hx, hb, hml, hown, hts⟩ (cwV 0 hts gX4_merge_X4_groups rfl rfl rfl (by decide +kernel) ⟨Nat.le_of_ble_eq_true rfl, Nat.le_of_ble_eq_true rfl⟩) mv_K ⟨hK, hPM⟩ (at_recv hK h0 rfl) rfl hl (Nat.le_of_ble_eq_true rfl) ⟨Nat.le_of_ble_eq_true rfl, Nat.le_of_ble_eq_true rfl⟩ rfl dX4_merge_32 (fun r1 hr1 => ?_)
            subst hr1
            refine lv_iconst (v := nI 1) hx hb dX4_merge_35 (by decide) ?_
            refine r_leN hx hb (Nat.lt_of_le_of_lt (cnt_le _ _) (by omega)) (by decide) dX4_merge_36 (tgt := 49) (by decide) (fun c8 => ?_) (fun c8 => ?_)
            · refine lv_aload_n hx hb dX4_merge_49 rfl (lv_at hl 0 rfl) ?_
              refine r_get (C := RX4) (T := TX4) (N := 10) hx hb hts iiX4_merge_4 hown hK h0 rfl 5 (by decide) (hts (.fieldLink RX4 73 "HopMeetModel" "slots" "I") (List.mem_of_getElem? (i := 3) rfl)) rfl dX4_merge_50 ?_
              exact r_retI (v := nI q) hx hb hr hlocks hS (by have hend : mgS z 1500 (gr, sl) = (g, q) := (by first | (rw [← hrn, show 1500 - i = 0 by omega]; rfl) | (rw [← hrn, mgS_end (fun h => by have h8 : q < 3000 := h.1; omega)]) | (rw [← hrn, mgS_end (fun h => by have h8 : 1 < grN g (cu z) := h.2; omega)])); exact ⟨by unfold rMerge; rw [decide_eq_false c4, hend]; rfl, by unfold oMerge; rw [decide_eq_false c4, hend]; exact hPM⟩) dX4_merge_53
            · refine lv_aload_n hx hb dX4_merge_39 rfl (lv_at hl 0 rfl) ?_
              refine r_mV (av := []) (c_X4_slot l G t d z g q bc bk kp im hz hg hg2 hq3) ⟨hx, hb, hml, hown, hts⟩ (cwV 0 hts gX4_merge_X4_slot rfl rfl rfl (by decide +kernel) ⟨Nat.le_of_ble_eq_true rfl, Nat.le_of_ble_eq_true rfl⟩) mv_K ⟨hK, hPM⟩ (at_recv hK h0 rfl) rfl hl (Nat.le_of_ble_eq_true rfl) ⟨Nat.le_of_ble_eq_true rfl, Nat.le_of_ble_eq_true rfl⟩ rfl dX4_merge_40 hS (fun q h => h) (fun H locs hP hz9 hk hS => ?_)
              have hPM := hP
              refine lv_iinc (v := nI (i + 1)) (lv' := [(1, .int (nI (i + 1))), (0, .ref d)]) hx hb dX4_merge_43 hl (k := 1) rfl (nI_1 _) (by decide) rfl (fun ls hl => ?_)
              refine lv_goto (tgt := 14) hx hb dX4_merge_46 (by decide) ?_
              exact ih14 (i + 1) (grS z g q) (q + 1) (by omega) (by omega) (grS_le hg) (grS_idem hg2) (mg_step hrn c6 c7 c8) (by omega) _ _ hPM hS ls (lv_sub hl [1, 0] rfl)
    exact loop14 _ 0 gr sl (Nat.zero_le _) hsl hg hg2 rfl (Nat.lt_succ_self _) _ _ hPM hS ls (lv_sub hl [1, 0] rfl)
  · refine lv_ldc (v := (-1000000003)) hx hb hown (hts (.constant RX4 110 (-1000000003)) (List.mem_of_getElem? (i := 2) rfl)) dX4_merge_9 ?_
    exact r_retI (v := (-1000000003)) hx hb hr hlocks hS ⟨by unfold rMerge; rw [decide_eq_true c4]; rfl, by unfold oMerge; rw [decide_eq_true c4]; exact hB.2⟩ dX4_merge_11

set_option maxRecDepth 20000 in
theorem iiX4_part_4 : ∀ w ∈ wsX40, w ∈ wsX4_part := by decide +kernel
set_option maxHeartbeats 4000000 in
set_option maxRecDepth 100000 in
/-- RUN begins anew -/
theorem c_X4_part (l : Launch) (G : va_G) (t : gT) (d : Nat) (z : Nat → Int32) (gr : Nat → Nat) (sl bc : Nat) (bk : Nat → Nat → Int32) (kp : Nat → Bool) (im : Nat → Nat → Int32) (hz : WF z) : Met l yX4_part wsX4_part ({ frames := 1, cells := 0, slots := 0, locals := 21 } : Room) (pc_ [.ref d] (fun U H => KK G t U ∧ PM G t d (z, gr, sl, bc, bk, kp, im) H)) (qi_ (fun r H => r = nI sl ∧ PM G t d (z, idN, 0, bc, bk, kp, im) H) (iv d (d + 7))) 0 0 (iv d (d + 7)) := by
  refine Met.ofW (cc := cX4_part) (maxL := 2) (ret := (some .int)) (by decide) rfl ?_
  intro p e s m args below meth c s₁ B hml hv
  obtain ⟨rfl, hB⟩ := hv
  have hx := B.exec
  have hb := B.bytes
  have hr := B.returns
  have hts := atoms_spec (ws := wsX4_part) B.pre
  have hown : s.vm.findClass RX4 = some m.cls := findClass_of_methodNamed B.named
  have hlocks := B.notSynchronized
  have hK := hB.1
  obtain ⟨lo, fB, fI, fG, fM, h0, h1, h2, h3, h4, h5, h6, e1, e2, e3⟩ := hB.2
  have hn := hz.n
  have hu5 := hz.u5
  have hs8 := hz.s8
  have hS : va_S (iv d (d + 7)) s.heap s.heap [] := va_S.rf
  have hl := lv_entry ([.ref d]) (n := 2) (Nat.le_of_ble_eq_true rfl)
  rw [lg_entry_eq]
  generalize (lg_sl ([.ref d]) ++ List.replicate (2 - (lg_sl ([.ref d])).length) Slot.unset).toArray = ls at hl ⊢
  have hl : lv_has ls 2 [(0, .ref d)] := hl
  refine lv_aload_n hx hb dX4_part_0 rfl (lv_at hl 0 rfl) ?_
  refine r_get (C := RX4) (T := TX4) (N := 10) hx hb hts iiX4_part_4 hown hK h0 rfl 5 (by decide) (hts (.fieldLink RX4 73 "HopMeetModel" "slots" "I") (List.mem_of_getElem? (i := 1) rfl)) rfl dX4_part_1 ?_
  refine lv_istore_n (lv' := [(1, .int (nI sl)), (0, .ref d)]) hx hb dX4_part_4 rfl hl (by decide) rfl (fun ls hl => ?_)
  refine lv_aload_n hx hb dX4_part_5 rfl (lv_at hl 1 rfl) ?_
  refine r_mV (av := []) (c_X4_anew l G t d (nI bc) (nI sl) (nI (prN (cn z))) lo fG) ⟨hx, hb, hml, hown, hts⟩ (cwV 0 hts gX4_part_X4_anew rfl rfl rfl (by decide +kernel) ⟨Nat.le_of_ble_eq_true rfl, Nat.le_of_ble_eq_true rfl⟩) mv_K ⟨hK, h0, h5⟩ (at_recv hK h0 rfl) rfl hl (Nat.le_of_ble_eq_true rfl) ⟨Nat.le_of_ble_eq_true rfl, Nat.le_of_ble_eq_true rfl⟩ rfl dX4_part_6 hS (iv2_sub (by omega) (by omega)) (fun H locs hP hz9 hk hS => ?_)
  have h1 := at_keptA h1 hk (iv2_no (by omega) (by omega))
  have h2 := at_keptA h2 hk (iv2_no (by omega) (by omega))
  have h3 := at_keptA h3 hk (iv2_no (by omega) (by omega))
  have h4 := at_keptA h4 hk (iv2_no (by omega) (by omega))
  have h6 := at_keptA h6 hk (iv2_no (by omega) (by omega))
  obtain ⟨h0, fG, h5, e3⟩ := hP
  refine lv_iload_n hx hb dX4_part_9 rfl (lv_at hl 0 rfl) ?_
  exact r_retI (v := nI sl) hx hb hr hlocks hS ⟨rfl, PM_mk h0 h1 h2 h3 h4 h5 h6 e1 e2 (fun u hu => e3 u (by omega))⟩ dX4_part_10

set_option maxRecDepth 20000 in
theorem iiX4_keep_4 : ∀ w ∈ wsX40, w ∈ wsX4_keep := by decide +kernel
set_option maxHeartbeats 4000000 in
set_option maxRecDepth 100000 in
/-- an image becomes what is so -/
theorem c_X4_keep (l : Launch) (G : va_G) (t : gT) (d : Nat) (z : Nat → Int32) (gr : Nat → Nat) (sl bc : Nat) (bk : Nat → Nat → Int32) (kp : Nat → Bool) (im : Nat → Nat → Int32) (hz : WF z) (i : Int32) : Met l yX4_keep wsX4_keep ({ frames := 1, cells := 0, slots := 0, locals := 25 } : Room) (pc_ [.ref d, .int i] (fun U H => KK G t U ∧ PM G t d (z, gr, sl, bc, bk, kp, im) H)) (qi_ (fun r H => r = rKeep i z ∧ PM G t d (oKeep i z gr sl bc bk kp im) H) (iv d (d + 7))) 0 0 (iv d (d + 7)) := by
  refine Met.ofW (cc := cX4_keep) (maxL := 2) (ret := (some .int)) (by decide) rfl ?_
  intro p e s m args below meth c s₁ B hml hv
  obtain ⟨rfl, hB⟩ := hv
  have hx := B.exec
  have hb := B.bytes
  have hr := B.returns
  have hts := atoms_spec (ws := wsX4_keep) B.pre
  have hown : s.vm.findClass RX4 = some m.cls := findClass_of_methodNamed B.named
  have hlocks := B.notSynchronized
  have hK := hB.1
  obtain ⟨lo, fB, fI, fG, fM, h0, h1, h2, h3, h4, h5, h6, e1, e2, e3⟩ := hB.2
  have hn := hz.n
  have hu5 := hz.u5
  have hs8 := hz.s8
  have hS : va_S (iv d (d + 7)) s.heap s.heap [] := va_S.rf
  have hl := lv_entry ([.ref d, .int i]) (n := 2) (Nat.le_of_ble_eq_true rfl)
  rw [lg_entry_eq]
  generalize (lg_sl ([.ref d, .int i]) ++ List.replicate (2 - (lg_sl ([.ref d, .int i])).length) Slot.unset).toArray = ls at hl ⊢
  have hl : lv_has ls 2 [(0, .ref d), (1, .int i)] := hl
  refine lv_iload_n hx hb dX4_keep_0 rfl (lv_at hl 1 rfl) ?_
  refine lv_iconst (v := nI 0) hx hb dX4_keep_1 (by decide) ?_
  refine lv_iconst (v := nI 1) hx hb dX4_keep_2 (by decide) ?_
  refine r_cS (av := [.int i, .int (nI 0), .int (nI 1)]) (c_X4_in l G t i (nI 0) (nI 1)) ⟨hx, hb, hml, hown, hts⟩ (va_cwS 3 hts gX4_keep_X4_in rfl rfl rfl (by decide +kernel) ⟨Nat.le_of_ble_eq_true rfl, Nat.le_of_ble_eq_true rfl⟩) mv_T trivial rfl hl (Nat.le_of_ble_eq_true rfl) ⟨Nat.le_of_ble_eq_true rfl, Nat.le_of_ble_eq_true rfl⟩ rfl dX4_keep_3 (fun r1 hr1 => ?_)
  subst hr1
  refine r_ifneB hx hb dX4_keep_6 (tgt := 12) (by decide) (fun c1 => ?_) (fun c1 => ?_)
  · obtain ⟨j, ja, jb, ej⟩ := in_of (by decide) (by decide) c1
    have ejc : cl i = j := by rw [ej]; exact cl_N (by omega)
    refine lv_aload_n hx hb dX4_keep_12 rfl (lv_at hl 0 rfl) ?_
    refine r_get (C := RX4) (T := TX4) (N := 10) hx hb hts iiX4_keep_4 hown hK h0 rfl 0 (by decide) (hts (.fieldLink RX4 7 "HopMeetModel" "now" "[I") (List.mem_of_getElem? (i := 2) rfl)) rfl dX4_keep_13 ?_
    refine lv_iconst (v := nI 0) hx hb dX4_keep_16 (by decide) ?_
    refine lv_aload_n hx hb dX4_keep_17 rfl (lv_at hl 0 rfl) ?_
    refine r_get (C := RX4) (T := TX4) (N := 10) hx hb hts iiX4_keep_4 hown hK h0 rfl 3 (by decide) (hts (.fieldLink RX4 16 "HopMeetModel" "image" "[I") (List.mem_of_getElem? (i := 3) rfl)) rfl dX4_keep_18 ?_
    refine lv_bipush (v := nI 60) hx hb dX4_keep_21 (by decide) ?_
    refine lv_iload_n hx hb dX4_keep_23 rfl (lv_at hl 1 rfl) ?_
    refine r_top (y := nI j) ej ?_
    refine r_imulN hx hb dX4_keep_24 ?_
    refine lv_bipush (v := nI 60) hx hb dX4_keep_25 (by decide) ?_
    refine r_mS (av := [.ref (d + 1), .int (nI 0), .ref (d + 3), .int (nI (60 * j)), .int (nI 60)]) (c_X4_bring l G t (d + 1) (d + 3) 60 120 0 (60 * j) 60 z fI (by omega) (by omega) (by omega) (by decide) (by decide)) ⟨hx, hb, hml, hown, hts⟩ (va_cwS 5 hts gX4_keep_X4_bring rfl rfl rfl (by decide +kernel) ⟨Nat.le_of_ble_eq_true rfl, Nat.le_of_ble_eq_true rfl⟩) mv_K ⟨hK, h1, h3⟩ rfl hl (Nat.le_of_ble_eq_true rfl) ⟨Nat.le_of_ble_eq_true rfl, Nat.le_of_ble_eq_true rfl⟩ rfl dX4_keep_27 hS (iv_sub (by omega) (by omega)) (fun H locs hP hz9 hk hS => ?_)
    have h0 := at_keptA h0 hk (iv_no (by omega))
    have h1 := at_keptA h1 hk (iv_no (by omega))
    have h2 := at_keptA h2 hk (iv_no (by omega))
    have h4 := at_keptA h4 hk (iv_no (by omega))
    have h5 := at_keptA h5 hk (iv_no (by omega))
    have h6 := at_keptA h6 hk (iv_no (by omega))
    have h3 := hP
    refine lv_aload_n hx hb dX4_keep_30 rfl (lv_at hl 0 rfl) ?_
    refine r_get (C := RX4) (T := TX4) (N := 10) hx hb hts iiX4_keep_4 hown hK h0 rfl 4 (by decide) (hts (.fieldLink RX4 19 "HopMeetModel" "isKept" "[Z") (List.mem_of_getElem? (i := 4) rfl)) rfl dX4_keep_31 ?_
    refine lv_iload_n hx hb dX4_keep_34 rfl (lv_at hl 1 rfl) ?_
    refine r_top (y := nI j) ej ?_
    refine lv_iconst (v := nI 1) hx hb dX4_keep_35 (by decide) ?_
    refine r_zast hx hb hK h4 ⟨by omega, by omega⟩ hS rfl j (by omega) (by decide) rfl dX4_keep_36 (fun H locs h4 hz9 hq hS => ?_)
    rw [kp_up] at h4
    have h0 := at_kept h0 (hq _ (by omega))
    have h1 := at_kept h1 (hq _ (by omega))
    have h2 := at_kept h2 (hq _ (by omega))
    have h5 := at_kept h5 (hq _ (by omega))
    have h6 := at_kept h6 (hq _ (by omega))
    have h3 := at_kept h3 (hq _ (by omega))
    refine lv_aload_n hx hb dX4_keep_37 rfl (lv_at hl 0 rfl) ?_
    refine r_get (C := RX4) (T := TX4) (N := 10) hx hb hts iiX4_keep_4 hown hK h0 rfl 0 (by decide) (hts (.fieldLink RX4 7 "HopMeetModel" "now" "[I") (List.mem_of_getElem? (i := 2) rfl)) rfl dX4_keep_38 ?_
    refine lv_iconst (v := nI 1) hx hb dX4_keep_41 (by decide) ?_
    refine r_iald hx hb hK h1 rfl 1 (by omega) (by decide) (v := nI (cu z)) hz.2.1.1 dX4_keep_42 ?_
    exact r_retI (v := nI (cu z)) hx hb hr hlocks hS ⟨by unfold rKeep; rw [c1]; rfl, by unfold oKeep; rw [c1, ejc]; exact PM_mk h0 h1 h2 h3 h4 h5 h6 e1 (kee2 (by omega) e2) e3⟩ dX4_keep_43
  · refine lv_ldc (v := (-1000000001)) hx hb hown (hts (.constant RX4 96 (-1000000001)) (List.mem_of_getElem? (i := 1) rfl)) dX4_keep_9 ?_
    exact r_retI (v := (-1000000001)) hx hb hr hlocks hS ⟨by unfold rKeep; rw [c1]; rfl, by unfold oKeep; rw [c1]; exact hB.2⟩ dX4_keep_11

set_option maxRecDepth 20000 in
theorem iiX4_goBack_4 : ∀ w ∈ wsX40, w ∈ wsX4_goBack := by decide +kernel
set_option maxHeartbeats 4000000 in
set_option maxRecDepth 100000 in
/-- what is so becomes an image -/
theorem c_X4_goBack (l : Launch) (G : va_G) (t : gT) (d : Nat) (z : Nat → Int32) (gr : Nat → Nat) (sl bc : Nat) (bk : Nat → Nat → Int32) (kp : Nat → Bool) (im : Nat → Nat → Int32) (hz : WF z) (hw : ∀ i, i < 2 → kp i = true → WF (im i)) (i : Int32) : Met l yX4_goBack wsX4_goBack ({ frames := 2, cells := 0, slots := 0, locals := 42 } : Room) (pc_ [.ref d, .int i] (fun U H => KK G t U ∧ PM G t d (z, gr, sl, bc, bk, kp, im) H)) (qi_ (fun r H => r = rGoBack i kp im ∧ PM G t d (oGoBack i z gr sl bc bk kp im) H) (iv d (d + 7))) 0 0 (iv d (d + 7)) := by
  refine Met.ofW (cc := cX4_goBack) (maxL := 2) (ret := (some .int)) (by decide) rfl ?_
  intro p e s m args below meth c s₁ B hml hv
  obtain ⟨rfl, hB⟩ := hv
  have hx := B.exec
  have hb := B.bytes
  have hr := B.returns
  have hts := atoms_spec (ws := wsX4_goBack) B.pre
  have hown : s.vm.findClass RX4 = some m.cls := findClass_of_methodNamed B.named
  have hlocks := B.notSynchronized
  have hK := hB.1
  obtain ⟨lo, fB, fI, fG, fM, h0, h1, h2, h3, h4, h5, h6, e1, e2, e3⟩ := hB.2
  have hn := hz.n
  have hu5 := hz.u5
  have hs8 := hz.s8
  have hS : va_S (iv d (d + 7)) s.heap s.heap [] := va_S.rf
  have hl := lv_entry ([.ref d, .int i]) (n := 2) (Nat.le_of_ble_eq_true rfl)
  rw [lg_entry_eq]
  generalize (lg_sl ([.ref d, .int i]) ++ List.replicate (2 - (lg_sl ([.ref d, .int i])).length) Slot.unset).toArray = ls at hl ⊢
  have hl : lv_has ls 2 [(0, .ref d), (1, .int i)] := hl
  refine lv_iload_n hx hb dX4_goBack_0 rfl (lv_at hl 1 rfl) ?_
  refine lv_iconst (v := nI 0) hx hb dX4_goBack_1 (by decide) ?_
  refine lv_iconst (v := nI 1) hx hb dX4_goBack_2 (by decide) ?_
  refine r_cS (av := [.int i, .int (nI 0), .int (nI 1)]) (c_X4_in l G t i (nI 0) (nI 1)) ⟨hx, hb, hml, hown, hts⟩ (va_cwS 3 hts gX4_goBack_X4_in rfl rfl rfl (by decide +kernel) ⟨Nat.le_of_ble_eq_true rfl, Nat.le_of_ble_eq_true rfl⟩) mv_T trivial rfl hl (Nat.le_of_ble_eq_true rfl) ⟨Nat.le_of_ble_eq_true rfl, Nat.le_of_ble_eq_true rfl⟩ rfl dX4_goBack_3 (fun r1 hr1 => ?_)
  subst hr1
  refine r_ifneB hx hb dX4_goBack_6 (tgt := 12) (by decide) (fun c1 => ?_) (fun c1 => ?_)
  · obtain ⟨j, ja, jb, ej⟩ := in_of (by decide) (by decide) c1
    have ejc : cl i = j := by rw [ej]; exact cl_N (by omega)
    refine lv_aload_n hx hb dX4_goBack_12 rfl (lv_at hl 0 rfl) ?_
    refine r_get (C := RX4) (T := TX4) (N := 10) hx hb hts iiX4_goBack_4 hown hK h0 rfl 4 (by decide) (hts (.fieldLink RX4 19 "HopMeetModel" "isKept" "[Z") (List.mem_of_getElem? (i := 2) rfl)) rfl dX4_goBack_13 ?_
    refine lv_iload_n hx hb dX4_goBack_16 rfl (lv_at hl 1 rfl) ?_
    refine r_top (y := nI j) ej ?_
    refine r_zald hx hb hK h4 rfl j (by omega) (by decide) (v := bI (kp j)) rfl dX4_goBack_17 ?_
    refine r_ifneB hx hb dX4_goBack_18 (tgt := 24) (by decide) (fun c2 => ?_) (fun c2 => ?_)
    · have hwj := hw j (by omega) c2
      have h05 := hwj.u5
      have hnj := hwj.n
      refine lv_aload_n hx hb dX4_goBack_24 rfl (lv_at hl 0 rfl) ?_
      refine r_get (C := RX4) (T := TX4) (N := 10) hx hb hts iiX4_goBack_4 hown hK h0 rfl 3 (by decide) (hts (.fieldLink RX4 16 "HopMeetModel" "image" "[I") (List.mem_of_getElem? (i := 4) rfl)) rfl dX4_goBack_25 ?_
      refine lv_bipush (v := nI 60) hx hb dX4_goBack_28 (by decide) ?_
      refine lv_iload_n hx hb dX4_goBack_30 rfl (lv_at hl 1 rfl) ?_
      refine r_top (y := nI j) ej ?_
      refine r_imulN hx hb dX4_goBack_31 ?_
      refine lv_aload_n hx hb dX4_goBack_32 rfl (lv_at hl 0 rfl) ?_
      refine r_get (C := RX4) (T := TX4) (N := 10) hx hb hts iiX4_goBack_4 hown hK h0 rfl 0 (by decide) (hts (.fieldLink RX4 7 "HopMeetModel" "now" "[I") (List.mem_of_getElem? (i := 5) rfl)) rfl dX4_goBack_33 ?_
      refine lv_iconst (v := nI 0) hx hb dX4_goBack_36 (by decide) ?_
      refine lv_bipush (v := nI 60) hx hb dX4_goBack_37 (by decide) ?_
      refine r_mS (av := [.ref (d + 3), .int (nI (60 * j)), .ref (d + 1), .int (nI 0), .int (nI 60)]) (c_X4_bring l G t (d + 3) (d + 1) 120 60 (60 * j) 0 60 fI z (by omega) (by omega) (by omega) (by decide) (by decide)) ⟨hx, hb, hml, hown, hts⟩ (va_cwS 5 hts gX4_goBack_X4_bring rfl rfl rfl (by decide +kernel) ⟨Nat.le_of_ble_eq_true rfl, Nat.le_of_ble_eq_true rfl⟩) mv_K ⟨hK, h3, h1⟩ rfl hl (Nat.le_of_ble_eq_true rfl) ⟨Nat.le_of_ble_eq_true rfl, Nat.le_of_ble_eq_true rfl⟩ rfl dX4_goBack_39 hS (iv_sub (by omega) (by omega)) (fun H locs hP hz9 hk hS => ?_)
      have h0 := at_keptA h0 hk (iv_no (by omega))
      have h2 := at_keptA h2 hk (iv_no (by omega))
      have h3 := at_keptA h3 hk (iv_no (by omega))
      have h4 := at_keptA h4 hk (iv_no (by omega))
      have h5 := at_keptA h5 hk (iv_no (by omega))
      have h6 := at_keptA h6 hk (iv_no (by omega))
      have h1 := at_ext hP (bac1 (by omega) c2 e2)
      refine lv_aload_n hx hb dX4_goBack_42 rfl (lv_at hl 0 rfl) ?_
      refine lv_iconst (v := nI 0) hx hb dX4_goBack_43 (by decide) ?_
      refine r_put (ty := .int) (ci := 4) (C := RX4) (T := TX4) (N := 10) (fs' := [.ref (d + 1), .int (nI 0), .ref (d + 2), .ref (d + 3), .ref (d + 4), .int (nI sl), .int (nI (prN (cn z))), .ref (d + 5), .ref (d + 6), .long lo]) hx hb hts iiX4_goBack_4 tyX4 tyX4_ok nmX4 hown hK h0 ⟨by omega, by omega⟩ hS rfl 1 (by decide) (hts (.fieldLink RX4 76 "HopMeetModel" "backs" "I") (List.mem_of_getElem? (i := 6) rfl)) rfl (by decide +kernel) rfl rfl (Nat.le_of_ble_eq_true rfl) rfl dX4_goBack_44 (fun H locs h0 hz9 hq hS => ?_)
      have h2 := at_kept h2 (hq _ (by omega))
      have h3 := at_kept h3 (hq _ (by omega))
      have h4 := at_kept h4 (hq _ (by omega))
      have h5 := at_kept h5 (hq _ (by omega))
      have h6 := at_kept h6 (hq _ (by omega))
      have h1 := at_kept h1 (hq _ (by omega))
      refine lv_aload_n hx hb dX4_goBack_47 rfl (lv_at hl 0 rfl) ?_
      refine r_mV (av := []) (c_X4_layPrime l G t d (cn (im j)) (im j) (nI 0) (nI sl) (nI (prN (cn z))) lo (by omega) (by omega) hwj.1.1) ⟨hx, hb, hml, hown, hts⟩ (cwV 0 hts gX4_goBack_X4_layPrime rfl rfl rfl (by decide +kernel) ⟨Nat.le_of_ble_eq_true rfl, Nat.le_of_ble_eq_true rfl⟩) mv_K ⟨hK, h0, h1⟩ (at_recv hK h0 rfl) rfl hl (Nat.le_of_ble_eq_true rfl) ⟨Nat.le_of_ble_eq_true rfl, Nat.le_of_ble_eq_true rfl⟩ rfl dX4_goBack_48 hS (iv_sub (by omega) (by omega)) (fun H locs hP hz9 hk hS => ?_)
      have h2 := at_keptA h2 hk (iv_no (by omega))
      have h3 := at_keptA h3 hk (iv_no (by omega))
      have h4 := at_keptA h4 hk (iv_no (by omega))
      have h5 := at_keptA h5 hk (iv_no (by omega))
      have h6 := at_keptA h6 hk (iv_no (by omega))
      have h1 := at_keptA h1 hk (iv_no (by omega))
      have h0 := hP
      refine lv_aload_n hx hb dX4_goBack_51 rfl (lv_at hl 0 rfl) ?_
      refine r_mV (av := []) (c_X4_anew l G t d (nI 0) (nI sl) (nI (prN (cn (im j)))) lo fG) ⟨hx, hb, hml, hown, hts⟩ (cwV 0 hts gX4_goBack_X4_anew rfl rfl rfl (by decide +kernel) ⟨Nat.le_of_ble_eq_true rfl, Nat.le_of_ble_eq_true rfl⟩) mv_K ⟨hK, h0, h5⟩ (at_recv hK h0 rfl) rfl hl (Nat.le_of_ble_eq_true rfl) ⟨Nat.le_of_ble_eq_true rfl, Nat.le_of_ble_eq_true rfl⟩ rfl dX4_goBack_52 hS (iv2_sub (by omega) (by omega)) (fun H locs hP hz9 hk hS => ?_)
      have h2 := at_keptA h2 hk (iv2_no (by omega) (by omega))
      have h3 := at_keptA h3 hk (iv2_no (by omega) (by omega))
      have h4 := at_keptA h4 hk (iv2_no (by omega) (by omega))
      have h6 := at_keptA h6 hk (iv2_no (by omega) (by omega))
      have h1 := at_keptA h1 hk (iv2_no (by omega) (by omega))
      obtain ⟨h0, fG, h5, e3⟩ := hP
      refine lv_aload_n hx hb dX4_goBack_55 rfl (lv_at hl 0 rfl) ?_
      refine r_get (C := RX4) (T := TX4) (N := 10) hx hb hts iiX4_goBack_4 hown hK h0 rfl 0 (by decide) (hts (.fieldLink RX4 7 "HopMeetModel" "now" "[I") (List.mem_of_getElem? (i := 5) rfl)) rfl dX4_goBack_56 ?_
      refine lv_iconst (v := nI 1) hx hb dX4_goBack_59 (by decide) ?_
      refine r_iald hx hb hK h1 rfl 1 (by omega) (by decide) (v := nI (cu (im j))) hwj.2.1.1 dX4_goBack_60 ?_
      exact r_retI (v := nI (cu (im j))) hx hb hr hlocks hS ⟨by unfold rGoBack; rw [c1, ejc, c2]; rfl, by unfold oGoBack; rw [ejc, and_t c1 c2]; exact PM_mk (bc := 0) h0 h1 h2 h3 h4 h5 h6 (fun j hj => absurd hj (Nat.not_lt_zero _)) e2 (fun u hu => e3 u (by omega))⟩ dX4_goBack_61
    · refine lv_ldc (v := (-1000000003)) hx hb hown (hts (.constant RX4 110 (-1000000003)) (List.mem_of_getElem? (i := 3) rfl)) dX4_goBack_21 ?_
      exact r_retI (v := (-1000000003)) hx hb hr hlocks hS ⟨by unfold rGoBack; rw [c1, ejc, c2]; rfl, by unfold oGoBack; rw [ejc, and_f2 c2]; exact hB.2⟩ dX4_goBack_23
  · refine lv_ldc (v := (-1000000001)) hx hb hown (hts (.constant RX4 96 (-1000000001)) (List.mem_of_getElem? (i := 1) rfl)) dX4_goBack_9 ?_
    exact r_retI (v := (-1000000001)) hx hb hr hlocks hS ⟨by unfold rGoBack; rw [c1]; rfl, by unfold oGoBack; rw [and_f1 c1]; exact hB.2⟩ dX4_goBack_11
