/-! the reference: its picture for what reads alone, and small rows -/
def Mn (G : va_G) (t : gT) (d : Nat) (z : Nat → Int32) (H : Heap) : Prop := ∃ (bc sl : Int32) (lo : Int64), at_ G d (.inr (4, [.ref (d + 1), .int bc, .ref (d + 2), .ref (d + 3), .ref (d + 4), .int sl, .int (nI (prN (cn z))), .ref (d + 5), .ref (d + 6), .long lo])) H ∧ at_ G (d + 1) (aI t 60 z) H
def inB (v a b : Int32) : Bool := decide (a ≤ v ∧ v ≤ b)
theorem in_t {v a b : Int32} (h : ¬ v < a) (h2 : ¬ b < v) : inB v a b = true := decide_eq_true ⟨Int32.not_lt.mp h, Int32.not_lt.mp h2⟩
theorem in_f1 {v a b : Int32} (h : v < a) : inB v a b = false := decide_eq_false (fun q => Int32.not_lt.mpr q.1 h)
theorem in_f2 {v a b : Int32} (h : b < v) : inB v a b = false := decide_eq_false (fun q => Int32.not_lt.mpr q.2 h)
theorem inB_N {v a b : Nat} (hv : v < 2 ^ 31) (ha : a < 2 ^ 31) (hb : b < 2 ^ 31) : inB (nI v) (nI a) (nI b) = decide (a ≤ v ∧ v ≤ b) := by
  unfold inB
  rw [decide_eq_decide, nI_leI ha hv, nI_leI hv hb]
def prU (n k : Nat) : Bool := decide (∀ d, d < k → 2 ≤ d → n % d ≠ 0)
theorem prU_2 {n : Nat} : prU n 2 = true := decide_eq_true (fun d h1 h2 => absurd h1 (by omega))
theorem prU_yes {n k : Nat} (h2 : prU n k = true) (h3 : ¬ n % k = 0) : prU n (k + 1) = true := decide_eq_true (fun d h4 h5 => by
  rcases Nat.lt_succ_iff_lt_or_eq.mp h4 with h | h
  · exact of_decide_eq_true h2 d h h5
  · rw [h]; exact h3)
theorem prU_no {n k : Nat} (h2 : prU n k = false) : prU n (k + 1) = false := decide_eq_false (fun q => of_decide_eq_false h2 (fun d h4 h5 => q d (by omega) h5))
theorem prU_no2 {n k : Nat} (hk : 2 ≤ k) (h3 : n % k = 0) : prU n (k + 1) = false := decide_eq_false (fun q => q k (by omega) hk h3)
theorem prU_end {n k : Nat} (h : n ≤ k) (h2 : k = 2 ∨ k ≤ n) : prU n k = prB n := by
  unfold prU prB
  rw [decide_eq_decide]
  constructor
  · intro q d h4 h5; exact q d (by omega) h5
  · intro q d h4 h5
    rcases h2 with rfl | h2
    · omega
    · exact q d (by omega) h5
/-- a number that names a user -/
def usB (z : Nat → Int32) (u : Int32) : Bool := decide (0 ≤ u ∧ u < nI (cu z))
theorem usB_t {z : Nat → Int32} {u : Int32} (hz : WF z) (h : usB z u = true) : ∃ k, k < cu z ∧ u = nI k := by
  obtain ⟨h1, h2⟩ := of_decide_eq_true h
  have h5 := hz.u5
  obtain ⟨k, hk, rfl⟩ := nI_of (x := u) (fun q => i_neg_ge q h1)
  exact ⟨k, (nI_ltI hk (by omega)).mp h2, rfl⟩
theorem usB_N {z : Nat → Int32} (hz : WF z) {k : Nat} (hk : k < cu z) : usB z (nI k) = true := by
  have h5 := hz.u5
  exact decide_eq_true ⟨nI_pos' (by omega), (nI_ltI (by omega) (by omega)).mpr hk⟩
theorem usB_in {z : Nat → Int32} (hz : WF z) (u : Int32) : inB u (nI 0) (nI (cu z) - nI 1) = usB z u := by
  have h5 := hz.u5
  unfold inB usB
  rw [decide_eq_decide]
  have e0 : (nI 0).toInt = 0 := nI_toInt (by decide)
  have e1 : (nI (cu z)).toInt = (cu z : Int) := nI_toInt (by omega)
  have e2 : (nI (cu z) - nI 1).toInt = (cu z : Int) - (1 : Nat) := pk_sub_toInt (by omega) (by omega)
  have e3 : (0 : Int32).toInt = 0 := Int32.toInt_zero
  rw [Int32.le_iff_toInt_le, Int32.le_iff_toInt_le, Int32.le_iff_toInt_le, Int32.lt_iff_toInt_lt, e0, e1, e2, e3]
  omega
def twB (z : Nat → Int32) (u v : Int32) : Bool := usB z u && (usB z v && decide (u ≠ v))
theorem twB_t {z : Nat → Int32} {u v : Int32} (hz : WF z) (h : twB z u v = true) : ∃ a b, a < cu z ∧ b < cu z ∧ u = nI a ∧ v = nI b := by
  unfold twB at h
  rw [Bool.and_eq_true, Bool.and_eq_true] at h
  obtain ⟨a, ha, e1⟩ := usB_t hz h.1
  obtain ⟨b, hb, e2⟩ := usB_t hz h.2.1
  exact ⟨a, b, ha, hb, e1, e2⟩
theorem tw_y {z : Nat → Int32} {u v : Int32} (h1 : usB z u = true) (h2 : usB z v = true) (h3 : ¬ u = v) : twB z u v = true := by
  unfold twB
  rw [h1, h2, decide_eq_true h3]; rfl
theorem tw_n1 {z : Nat → Int32} {u v : Int32} (h1 : usB z u = false) : twB z u v = false := by
  unfold twB
  rw [h1]; rfl
theorem tw_n2 {z : Nat → Int32} {u v : Int32} (h2 : usB z v = false) : twB z u v = false := by
  unfold twB
  rw [h2, Bool.false_and, Bool.and_false]
theorem tw_n3 {z : Nat → Int32} {u v : Int32} (h3 : u = v) : twB z u v = false := by
  unfold twB
  rw [decide_eq_false (fun q => q h3), Bool.and_false, Bool.and_false]
theorem whC_z {z : Nat → Int32} {u t : Nat} (h : whC z u t = 0) : uW z u ≤ t ∧ ¬ uO z u = 0 ∧ shB z u (plN z u (t - uW z u)) t (cs z) = false := by
  unfold whC at h
  split at h
  · exact absurd h (by decide)
  next h1 =>
    split at h
    · exact absurd h (by decide)
    next h2 =>
      split at h
      · exact absurd h (by decide)
      next h3 => exact ⟨Nat.not_lt.mp h1, h2, by simpa using h3⟩
theorem whC_nz {z : Nat → Int32} {u t : Nat} (h : ¬ whC z u t = 0) : plC z u t = -1 := by
  unfold whC at h
  unfold plC
  split
  · rfl
  next h1 =>
    rw [if_neg h1] at h
    split
    · rfl
    next h2 =>
      rw [if_neg h2] at h
      split
      · rfl
      next h3 =>
        rw [if_neg h3] at h
        exact absurd rfl h
def ibB (w : Int32) (v : Int32) : Bool := inB v (nI 0) (if w = 0 then nI 3 else if w = nI 3 then nI 200 else nI 99)
