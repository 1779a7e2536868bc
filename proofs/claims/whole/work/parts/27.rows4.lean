/-! what is made at the start -/
def AO2 (U : State) : Prop := (Cond.arrayOver (.array .int)).before #[] U = true ∧ (Cond.arrayOver (.object RX2)).before #[] U = true
theorem ao_moved {ty : FieldType} {u U : State} (hvm : u.vm.Alike U.vm) (h : (Cond.arrayOver ty).before #[] u = true) : (Cond.arrayOver ty).before #[] U = true := by
  have h1 := Cond.arrayOver_setVmC (args := #[]) (s := u) hvm ty
  rw [h] at h1
  simp only [Cond.before, Cond.holds, Cond.value, State.vm_setVm] at h1 ⊢
  exact h1
theorem AO2.moved {u U : State} (hvm : u.vm.Alike U.vm) (h : AO2 u) : AO2 U := ⟨ao_moved hvm h.1, ao_moved hvm h.2⟩
theorem mv_KA {G : va_G} {t : gT} {P : Heap → Prop} : Mv (fun U H => KK G t U ∧ (AO2 U ∧ P H)) := fun _ _ _ h q => ⟨va_K.moved h q.1, q.2.1.moved h, q.2.2⟩
theorem AO2.i {U : State} (h : AO2 U) {a : Array Value} : (Cond.arrayOver (.array .int)).before a U = true := h.1
theorem AO2.q {U : State} (h : AO2 U) {a : Array Value} : (Cond.arrayOver (.object RX2)).before a U = true := h.2
def z00 : Nat → Int32 := upd (fun _ => 0) 0 (nI 4)
theorem z00_n : cn z00 = 4 := zn_upd (by decide)
theorem z00_u : cu z00 = 0 := by
  unfold z00
  rw [cu, zn_upd_ne (by decide)]
  rfl
theorem z00_s : cs z00 = 0 := by
  unfold z00
  rw [cs, zn_upd_ne (by decide)]
  rfl
def rowsH (b i : Nat) : Nat → Option Nat := fun j => if j < i then some (b + 16 * j) else none
theorem rowsH_0 (b : Nat) : rowsH b 0 = fun _ => none := funext fun j => if_neg (Nat.not_lt_zero _)
theorem rowsH_s (b i : Nat) : va_up (rowsH b i) i (some (b + 16 * i)) = rowsH b (i + 1) := funext fun j => by
  unfold rowsH
  by_cases e : j = i
  · subst e
    rw [va_up_self, if_pos (Nat.lt_succ_self _)]
  · rw [va_up_ne _ _ e]
    by_cases q : j < i
    · rw [if_pos q, if_pos (by omega)]
    · rw [if_neg q, if_neg (by omega)]
theorem Sc_kt {G : va_G} {t : gT} {o h : Nat} {z : Nat → Int32} {H H1 : Heap} (hs : Sc G t o z H) (o1 : ∀ q : Nat, q < h → H1[q]? = H[q]?) (ho : o + 16 ≤ h) : Sc G t o z H1 := Sc_kept hs (fun q h8 h9 => o1 q (by omega))
theorem dfX0 : ∀ j, j < 4 → defaultValue (tyX0 j) = vp_V [.int (nI 0), .int (nI 0), .null, .null] j := fun j hj => by
  rcases j with _ | _ | _ | _ | j <;> first | rfl | omega
theorem dfX1 : ∀ j, j < 3 → defaultValue (tyX1 j) = vp_V [.null, .int (nI 0), .int (nI 0)] j := fun j hj => by
  rcases j with _ | _ | _ | j <;> first | rfl | omega
theorem dfX2 : ∀ j, j < 6 → defaultValue (tyX2 j) = vp_V [.int (nI 0), .int (nI 0), .int (nI 0), .int (nI 0), .null, .null] j := fun j hj => by
  rcases j with _ | _ | _ | _ | _ | _ | j <;> first | rfl | omega
theorem dfX3 : ∀ j, j < 8 → defaultValue (tyX3 j) = vp_V [.null, .null, .null, .null, .null, .null, .null, .null] j := fun j hj => by
  rcases j with _ | _ | _ | _ | _ | _ | _ | _ | j <;> first | rfl | omega
theorem dfX4 : ∀ j, j < 10 → defaultValue (tyX4 j) = vp_V [.null, .int (nI 0), .null, .null, .null, .int (nI 0), .int (nI 0), .null, .null, .long (lN 0)] j := fun j hj => by
  rcases j with _ | _ | _ | _ | _ | _ | _ | _ | _ | _ | j <;> first | rfl | omega
theorem b_lt {b m k : Nat} (h : m < k) : b + m < b + k := by omega
theorem b_lt0 {b k : Nat} (h : 0 < k) : b < b + k := by omega
theorem b_ne {b m : Nat} (h : 0 < m) : b + m ≠ b := by omega
theorem b_q {b m q : Nat} (h : 0 < m) (h8 : b + m ≤ q) : q ≠ b := by omega
theorem b_q2 {b m x q : Nat} (h : 0 < m) (h8 : b + m + x ≤ q) : q ≠ b := by omega
theorem b_up {b m n k q : Nat} (h : m + n ≤ k) (h9 : q < b + m + n) : q < b + k := by omega
theorem b_sc {b m n k j : Nat} (hj : j < n) (h : m + 16 * n ≤ k) : b + m + 16 * j + 16 ≤ b + k := by omega
