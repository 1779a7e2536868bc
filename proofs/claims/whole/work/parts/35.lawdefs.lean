/-! THE CLAIM OUT OF ONE WALK OF THE LAW'S BODY. Your part is whole_start (and what it stands on); all else here is the same for every law, but numbers. -/
def R_law : String := "HopMeetLaw"
def lw_P (b : Addr) (xs : List Int32) (args : Array Value) (s : State) : Prop := args = #[.ref b] ∧ s.IntsAt b xs ∧ xs.length ≤ 2560 ∧ (Jvm.Cond.and given_1 narrow_1).before args s = true
def lw_Q (_ : Array Value) (s : State) (o : Outcome) (t : State) : Prop := o = .returned (some (.int 1)) ∧ Framed s o t [] 600000 7302250
def lw_Z (below : List Frame) (a : Array Value) (s : State) : State → Prop := fun t => ∃ o, t.status = .running ∧ Ended t below o ∧ lw_Q a s o t
/-- the law's own end, with 1 on the stack, nothing written that was there before, its room as the claim has it -/
theorem lw_ret {p : Program} {l : Launch} {e : Env} {s : State} {m : MethodId} {below : List Frame} {meth : Method} {c : Code} {b : Nat} (hx : p.tables.exec = Jvm.exec) (hb : c.code = code) (hr : meth.sig.returnType = ret) (hlocks : meth.locks = false) {pc : Nat} {H : Heap} {ls : Array Slot} (hdg : decode code pc = .ok (.ireturn, 1)) : W p l e room_1 s m #[Value.ref b] below meth c H [] 600000 7302250 (lw_Z below #[Value.ref b] s) (F0 m pc ls [.int 1]) := by
  intro T hT X
  obtain ⟨fs, hret, hrun, hended, hW, hframe⟩ := X.leave (v := some (.int 1)) (hlocks := hlocks) (fun h => by rw [hr] at h; cases h)
  have hmeth' : T.vm.method? m = some meth := X.method'
  refine ⟨T.setFrames fs, ?_, .returned (some (.int 1)), hrun, hended, rfl, ⟨_, rfl⟩, hW, hframe⟩
  jvm_step X.here [X.here.top, hx, hb, hdg, hmeth', hr, ret, narrow_b1]
  (try refine ⟨rfl, ?_⟩); (try refine ⟨rfl, ?_⟩)
  first | (intro acts; rw [hret _ acts rfl rfl rfl]) | rw [hret _ _ rfl rfl rfl]
  exact Steps.refl _
/-- what holds at the law's entry: the machine, the code, the tables' words (any of lw_tbl by 'hts w (by decide +kernel)'), the script of L ints xs at the cell b, what the Statement gives of the start (any of its parts by flat_of_before) -/
def lw_At (p : Program) (s : State) (m : MethodId) (meth : Method) (c : Code) (b L : Nat) (xs : Nat → Int32) : Prop :=
  p.tables.exec = Jvm.exec ∧ c.code = code ∧ meth.sig.returnType = ret ∧ c.maxLocals = 4 ∧ s.vm.findClass R_law = some m.cls ∧ (∀ w ∈ lw_tbl, w.before #[Value.ref b] s = true) ∧ va_X b L xs s s.heap ∧ b < s.heap.size ∧ meth.locks = false ∧ (Jvm.Cond.and given_1 narrow_1).before #[Value.ref b] s = true
/-! the law: what holds at its loop -/
def LI (s : State) (G : va_G) (t : gT) (b0 d : Nat) (q : aS) (H : Heap) (locs : List Loc) : Prop := PX G t b0 q H ∧ PM G t d q H ∧ S2 q ∧ va_S (fun q => s.heap.size ≤ q) s.heap H locs ∧ ZS s.heap.size s H
def LC (p : Program) (s : State) (m : MethodId) (c : Code) (b L : Nat) (xs : Nat → Int32) (G : va_G) (t : gT) (b0 d : Nat) : Prop := p.tables.exec = Jvm.exec ∧ c.code = code ∧ c.maxLocals = 4 ∧ s.vm.findClass RL = some m.cls ∧ (∀ w ∈ wsL_law, w.before #[Value.ref b] s = true) ∧ va_X b L xs s s.heap ∧ b < s.heap.size ∧ KK G t s ∧ s.heap.size ≤ b0 ∧ b0 + 251 ≤ d ∧ L ≤ 2560
abbrev LW (p : Program) (l : Launch) (e : Env) (s : State) (m : MethodId) (below : List Frame) (meth : Method) (c : Code) (b : Nat) (H : Heap) (locs : List Loc) (ls : Array Slot) (pc : Nat) : Prop := W p l e room_1 s m #[Value.ref b] below meth c H locs 600000 7302250 (lw_Z below #[Value.ref b] s) (F0 m pc ls [])
def LK (p : Program) (l : Launch) (e : Env) (s : State) (m : MethodId) (below : List Frame) (meth : Method) (c : Code) (b : Nat) (G : va_G) (t : gT) (b0 d i : Nat) : Prop := ∀ (q : aS) (H : Heap) (locs : List Loc) (ls : Array Slot), LI s G t b0 d q H locs → lv_has ls 4 [(0, .ref b), (1, .ref b0), (2, .ref d), (3, .int (nI i))] → LW p l e s m below meth c b H locs ls 832
section RWL
variable {p : Program} {l : Launch} {e : Env} {R : Room} {s : State} {m : MethodId} {args : Array Value} {below : List Frame} {meth : Method} {c : Code} {H : Heap} {locs : List Loc} {cells slots : Nat} {Q : State → Prop}
variable {cc : ByteArray} {pc : Nat} {ls : Array Slot} {rest : List Value}
theorem r_sld (hexec : p.tables.exec = Jvm.exec) (hb : c.code = cc) {b L : Nat} {xs : Nat → Int32} (hX : va_X b L xs s s.heap) (hbl : b < s.heap.size) (hS : va_S (fun q => s.heap.size ≤ q) s.heap H locs) (j : Nat) (hj : j < L) (hL : L ≤ 2560) (hdg : decode cc pc = .ok (.iaload, 1))
    (kk : W p l e R s m args below meth c H locs cells slots Q (F0 m (pc + 1) ls (.int (xs j) :: rest))) : W p l e R s m args below meth c H locs cells slots Q (F0 m pc ls (.int (nI j) :: .ref b :: rest)) := by
  have hc : (nI j).toNatClampNeg = j := nI_clamp (by omega)
  refine va_sld hexec hb hX hbl (Nat.not_le.mpr hbl) hS (i := nI j) (fun q => ?_) hdg ?_
  · rcases q with q | q
    · exact nI_pos (by omega) q
    · rw [hc] at q; omega
  · rw [hc]; exact kk
end RWL
theorem PX_o {G : va_G} {t : gT} {b : Nat} {q : aS} {H : Heap} (h : PX G t b q H) : at_ G b (.inr (3, [.ref (b + 1), .ref (b + 17), .ref (b + 211), .ref (b + 244), .ref (b + 245), .ref (b + 248), .ref (b + 249), .ref (b + 250)])) H := by
  obtain ⟨z, gr, sl, bc, bk, kp, im⟩ := q
  exact h.1
theorem PM_o {G : va_G} {t : gT} {d : Nat} {q : aS} {H : Heap} (h : PM G t d q H) : ∃ fs, at_ G d (.inr (4, fs)) H := by
  obtain ⟨z, gr, sl, bc, bk, kp, im⟩ := q
  obtain ⟨lo, fB, fI, fG, fM, h0, -⟩ := h
  exact ⟨_, h0⟩
/-! the classes and the static row, at the entry -/
theorem ao_spec {s : State} (h : (Cond.arrayOver (.array .int)).before #[] s = true) : ∃ c k comp, s.vm.classes[c]? = some k ∧ k.kind = .array comp (.array .int) ∧ s.vm.findClass ("[" ++ (FieldType.array .int).toString) = some c := by
  simp only [Cond.before, Cond.holds, Cond.value, beq_iff_eq] at h
  cases hc : s.vm.findClass (FieldType.array .int).toString with
  | none => simp [hc] at h
  | some comp =>
    simp only [hc, Option.bind_some, Option.bind_eq_some_iff, Option.map_eq_some_iff] at h
    obtain ⟨c, hi, k, hk, hb⟩ := h
    cases hkind : k.kind with
    | array component ty =>
      rw [hkind] at hb
      simp at hb
      exact ⟨c, k, component, hk, by rw [hkind, hb.1], hb.2⟩
    | _ => rw [hkind] at hb; simp at hb
theorem law_K {s : State} {args : Array Value} (hts : ∀ w ∈ lw_tbl, w.before args s = true) : ∃ (G : va_G) (t : gT), KK G t s := by
  obtain ⟨c0, i0, k0⟩ := u_known (C := RX0) (T := TX0) (N := 4) (n := 4) hts inX0 (hts (.instantiable RX0 4) (by decide +kernel))
  obtain ⟨c1, i1, k1⟩ := u_known (C := RX1) (T := TX1) (N := 3) (n := 3) hts inX1 (hts (.instantiable RX1 3) (by decide +kernel))
  obtain ⟨c2, i2, k2⟩ := u_known (C := RX2) (T := TX2) (N := 6) (n := 6) hts inX2 (hts (.instantiable RX2 6) (by decide +kernel))
  obtain ⟨c3, i3, k3⟩ := u_known (C := RX3) (T := TX3) (N := 8) (n := 8) hts inX3 (hts (.instantiable RX3 8) (by decide +kernel))
  obtain ⟨c4, i4, k4⟩ := u_known (C := RX4) (T := TX4) (N := 10) (n := 10) hts inX4 (hts (.instantiable RX4 10) (by decide +kernel))
  obtain ⟨aI0, kI, cI, f1, f2, f3⟩ := Cond.arrayClass_spec (hts (.arrayClass .int) (by decide +kernel))
  obtain ⟨aZ0, kZ, cZ, g1, g2, g3⟩ := Cond.arrayClass_spec (hts (.arrayClass .boolean) (by decide +kernel))
  obtain ⟨aR0, kR, cR, r1, r2, r3⟩ := ao_spec (s := s) (hts (.arrayOver (.array .int)) (by decide +kernel))
  obtain ⟨cQ, aQ0, kQ, q1, -, q2, q3, q4⟩ := Cond.arrayOver_spec (hts (.arrayOver (.object RX2)) (by decide +kernel))
  refine ⟨(fun k => match k with | 0 => c0 | 1 => c1 | 2 => c2 | 3 => c3 | _ => c4, fun k => match k with | 0 => i0 | 1 => i1 | 2 => i2 | 3 => i3 | _ => i4), (aI0, aR0, aZ0, aQ0), fun k q h => ?_, fun k q h => ?_⟩
  · match k, h with
    | 0, h => cases h; exact k0
    | 1, h => cases h; exact k1
    | 2, h => cases h; exact k2
    | 3, h => cases h; exact k3
    | 4, h => cases h; exact k4
    | k + 5, h => simp [vwCl] at h
  · match k, h with
    | 0, h => cases h; exact ⟨fun N z => ⟨(fun k h => by cases h), kI, f2, cI, f3⟩, f1⟩
    | 1, h => cases h; exact ⟨fun N z => ⟨(fun k h => by cases h), kR, r1, cR, r2⟩, r3⟩
    | 2, h => cases h; exact ⟨fun N z => ⟨(fun k h => by cases h), kZ, g2, cZ, g3⟩, g1⟩
    | 3, h => cases h; exact ⟨fun N z => ⟨(fun k h => by cases h), kQ, q2, cQ, q3⟩, kQ, cQ, q2, q3, q1, q4⟩
    | k + 4, h => simp at h
theorem law_AO {s : State} {args : Array Value} (hts : ∀ w ∈ lw_tbl, w.before args s = true) : AO2 s := ⟨hts (.arrayOver (.array .int)) (by decide +kernel), hts (.arrayOver (.object RX2)) (by decide +kernel)⟩
theorem law_Z {s : State} {args : Array Value} (hts : ∀ w ∈ lw_tbl, w.before args s = true) (hgv : (Jvm.Cond.and given_1 narrow_1).before args s = true) : ZS s.heap.size s s.heap := by
  have hs := flat_of_before _ hgv
  have h1 : (Cond.arrayOf (.static "HopMeet" "MOST_OF" "[I") .int).before args s = true := hs _ (by decide +kernel)
  have h2 : (Cond.eq (.length (.static "HopMeet" "MOST_OF" "[I")) (.int 4)).before args s = true := hs _ (by decide +kernel)
  have e0 : (Cond.eq (.elem (.static "HopMeet" "MOST_OF" "[I") (.int 0)) (.int 3)).before args s = true := hs _ (by decide +kernel)
  have e1 : (Cond.eq (.elem (.static "HopMeet" "MOST_OF" "[I") (.int 1)) (.int 99)).before args s = true := hs _ (by decide +kernel)
  have e2 : (Cond.eq (.elem (.static "HopMeet" "MOST_OF" "[I") (.int 2)) (.int 99)).before args s = true := hs _ (by decide +kernel)
  have e3 : (Cond.eq (.elem (.static "HopMeet" "MOST_OF" "[I") (.int 3)) (.int 200)).before args s = true := hs _ (by decide +kernel)
  obtain ⟨tt, t1, t2⟩ := va_Tof (N := 4) (f := fMO) (A := fun q => s.heap.size ≤ q) (by decide) h1 (va_eqt h2) (fun j hj => by
    rcases (show j = 0 ∨ j = 1 ∨ j = 2 ∨ j = 3 by omega) with rfl | rfl | rfl | rfl
    · exact va_eqt e0
    · exact va_eqt e1
    · exact va_eqt e2
    · exact va_eqt e3) (fun a h => Nat.not_le.mpr h)
  exact ⟨tt, va_Zof (hts (.laysStatic "HopMeet" "MOST_OF" "[I") (by decide +kernel)) (hts (.initialized "HopMeet") (by decide +kernel)) t1 (fun a h => Nat.not_le.mpr h), t2⟩
