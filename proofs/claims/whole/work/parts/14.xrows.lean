/-! HopMeet: small rows -/
theorem us_t {z : Nat → Int32} {u : Int32} (h : ¬ u < 0) (h2 : ¬ nI (cu z) ≤ u) : usB z u = true := decide_eq_true ⟨Int32.not_lt.mp h, Int32.not_le.mp h2⟩
theorem us_f1 {z : Nat → Int32} {u : Int32} (h : u < 0) : usB z u = false := decide_eq_false (fun q => Int32.not_lt.mpr q.1 h)
theorem us_f2 {z : Nat → Int32} {u : Int32} (h : nI (cu z) ≤ u) : usB z u = false := decide_eq_false (fun q => Int32.not_le.mpr q.2 h)
theorem im_t {i : Int32} (h : ¬ i < 0) (h2 : ¬ nI 2 ≤ i) : inB i (nI 0) (nI 1) = true := by
  refine decide_eq_true ⟨Int32.not_lt.mp h, ?_⟩
  have e : (nI 2).toInt = 2 := nI_toInt (by decide)
  have e1 : (nI 1).toInt = 1 := nI_toInt (by decide)
  rw [Int32.le_iff_toInt_le] at h2 ⊢
  omega
theorem im_f {i : Int32} (h2 : nI 2 ≤ i) : inB i (nI 0) (nI 1) = false := by
  refine decide_eq_false (fun q => ?_)
  have e : (nI 2).toInt = 2 := nI_toInt (by decide)
  have e1 : (nI 1).toInt = 1 := nI_toInt (by decide)
  have q2 := q.2
  rw [Int32.le_iff_toInt_le] at h2 q2
  omega
def moI (k : Nat) : Int32 := if k = 0 then nI 3 else if k = 3 then nI 200 else nI 99
theorem ib_mo {w v : Int32} {k : Nat} (hk : k ≤ 3) (e : w = nI k) : ibB w v = inB v (nI 0) (moI k) := by
  subst e
  rcases (show k = 0 ∨ k = 1 ∨ k = 2 ∨ k = 3 by omega) with rfl | rfl | rfl | rfl <;> rfl
theorem mh_t {w v : Int32} {k : Nat} (hk : k ≤ 3) (e : w = nI k) (h : inB w (nI 0) (nI 3) = true) (h2 : inB v (nI 0) (moI k) = true) : mhB w v = true := by
  unfold mhB
  rw [h, ib_mo hk e, h2]; rfl
theorem mh_f1 {w v : Int32} (h : inB w (nI 0) (nI 3) = false) : mhB w v = false := by
  unfold mhB
  rw [h]; rfl
theorem mh_f2 {w v : Int32} {k : Nat} (hk : k ≤ 3) (e : w = nI k) (h2 : inB v (nI 0) (moI k) = false) : mhB w v = false := by
  unfold mhB
  rw [ib_mo hk e, h2, Bool.and_false]
/-- the static row of bounds -/
def fMO : Nat → Value := fun j => .int (moI j)
def ZS (b0 : Nat) (U : State) (H : Heap) : Prop := ∃ tt : Nat, va_Z "HopMeet" "MOST_OF" "[I" (.ref tt) (fun q => b0 ≤ q) U H ∧ va_T .int tt 4 fMO (fun q => b0 ≤ q) U H
theorem mv_KZ {G : va_G} {t : gT} {b0 : Nat} {P : Heap → Prop} : Mv (fun U H => KK G t U ∧ (ZS b0 U H ∧ P H)) := fun u U H h q => ⟨va_K.moved h q.1, by
  obtain ⟨tt, h1, h2⟩ := q.2.1
  exact ⟨tt, h1.moved h, h2.moved h⟩, q.2.2⟩
theorem mv_KZ0 {G : va_G} {t : gT} {b0 : Nat} : Mv (fun U H => KK G t U ∧ ZS b0 U H) := fun u U H h q => ⟨va_K.moved h q.1, by
  obtain ⟨tt, h1, h2⟩ := q.2
  exact ⟨tt, h1.moved h, h2.moved h⟩⟩
theorem ZS_kept {b0 : Nat} {U : State} {H H1 : Heap} (h : ZS b0 U H) (hk : ∀ q : Nat, q < H.size → ¬ b0 ≤ q → H1[q]? = H[q]?) : ZS b0 U H1 := by
  obtain ⟨tt, h1, h2⟩ := h
  exact ⟨tt, h1.kept hk, h2.kept hk⟩
theorem told_cases (w : Int32) : (inB w (nI 0) (nI 8) = false ∧ (w.toInt < 0 ∨ 8 < w.toInt)) ∨ (inB w (nI 0) (nI 8) = true ∧ (w = nI 0 ∨ w = nI 1 ∨ w = nI 2 ∨ w = nI 3 ∨ w = nI 4 ∨ w = nI 5 ∨ w = nI 6 ∨ w = nI 7 ∨ w = nI 8)) := by
  by_cases hw : inB w (nI 0) (nI 8) = true
  · obtain ⟨k, k1, k2, ek⟩ := in_of (by decide) (by decide) hw
    refine Or.inr ⟨hw, ?_⟩
    subst ek
    rcases (show k = 0 ∨ k = 1 ∨ k = 2 ∨ k = 3 ∨ k = 4 ∨ k = 5 ∨ k = 6 ∨ k = 7 ∨ k = 8 by omega) with rfl | rfl | rfl | rfl | rfl | rfl | rfl | rfl | rfl <;> simp
  · refine Or.inl ⟨by simpa using hw, ?_⟩
    have e0 : (nI 0).toInt = 0 := nI_toInt (by decide)
    have e8 : (nI 8).toInt = 8 := nI_toInt (by decide)
    unfold inB at hw
    rw [decide_eq_true_eq, Int32.le_iff_toInt_le, Int32.le_iff_toInt_le, e0, e8] at hw
    omega
theorem uo_f {w : Int32} (h : ¬ w ≤ nI 6) : inB w (nI 0) (nI 6) = false := in_f3 h
