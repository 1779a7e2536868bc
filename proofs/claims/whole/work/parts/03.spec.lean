/-! what both sides answer, in numbers: a scene is a row z of 60 ints, as the reference keeps it -/
def zn (z : Nat → Int32) (i : Nat) : Nat := (z i).toNatClampNeg
def prN (n : Nat) : Nat := if n ≤ 2 then 3 else if n ≤ 4 then 5 else if n ≤ 6 then 7 else 11
def cn (z : Nat → Int32) : Nat := zn z 0
def cu (z : Nat → Int32) : Nat := zn z 1
def cs (z : Nat → Int32) : Nat := zn z 2
def uR (z : Nat → Int32) (u : Nat) : Nat := zn z (3 + 5 * u)
def uS (z : Nat → Int32) (u : Nat) : Nat := zn z (3 + 5 * u + 1)
def uT (z : Nat → Int32) (u : Nat) : Nat := zn z (3 + 5 * u + 2)
def uW (z : Nat → Int32) (u : Nat) : Nat := zn z (3 + 5 * u + 3)
def uO (z : Nat → Int32) (u : Nat) : Nat := zn z (3 + 5 * u + 4)
def sU (z : Nat → Int32) (j : Nat) : Int32 := z (28 + 4 * j)
def sC (z : Nat → Int32) (j : Nat) : Nat := zn z (28 + 4 * j + 1)
def sL (z : Nat → Int32) (j : Nat) : Nat := zn z (28 + 4 * j + 2)
def sM (z : Nat → Int32) (j : Nat) : Nat := zn z (28 + 4 * j + 3)
def UF (z : Nat → Int32) (n u : Nat) : Prop := (z (3 + 5 * u) = nI (uR z u) ∧ uR z u ≤ 3) ∧ (z (3 + 5 * u + 1) = nI (uS z u) ∧ uS z u ≤ 99) ∧ (z (3 + 5 * u + 2) = nI (uT z u) ∧ uT z u ≤ 99) ∧ (z (3 + 5 * u + 3) = nI (uW z u) ∧ uW z u ≤ 200) ∧ (z (3 + 5 * u + 4) = nI (uO z u) ∧ uO z u < 2 ^ n)
def SF (z : Nat → Int32) (n j : Nat) : Prop := (sU z j = -1 ∨ ∃ v, v < 5 ∧ sU z j = nI v) ∧ (z (28 + 4 * j + 1) = nI (sC z j) ∧ sC z j < n) ∧ (z (28 + 4 * j + 2) = nI (sL z j) ∧ sL z j ≤ 1500) ∧ (z (28 + 4 * j + 3) = nI (sM z j) ∧ 1 ≤ sM z j ∧ sM z j ≤ 500)
def WF (z : Nat → Int32) : Prop := (z 0 = nI (cn z) ∧ 2 ≤ cn z ∧ cn z ≤ 10) ∧ (z 1 = nI (cu z) ∧ cu z ≤ 5) ∧ (z 2 = nI (cs z) ∧ cs z ≤ 8) ∧ (∀ u, u < cu z → UF z (cn z) u) ∧ ∀ j, j < cs z → SF z (cn z) j
theorem WF.n {z : Nat → Int32} (h : WF z) : 2 ≤ cn z ∧ cn z ≤ 10 := h.1.2
theorem WF.u5 {z : Nat → Int32} (h : WF z) : cu z ≤ 5 := h.2.1.2
theorem WF.s8 {z : Nat → Int32} (h : WF z) : cs z ≤ 8 := h.2.2.1.2
theorem WF.us {z : Nat → Int32} (h : WF z) {u : Nat} (hu : u < cu z) : UF z (cn z) u := h.2.2.2.1 u hu
theorem WF.sp {z : Nat → Int32} (h : WF z) {j : Nat} (hj : j < cs z) : SF z (cn z) j := h.2.2.2.2 j hj
theorem pow_le10 {n : Nat} (h : n ≤ 10) : 2 ^ n ≤ 1024 := by
  have := Nat.pow_le_pow_right (n := 2) (by decide) h
  omega
theorem WF.o {z : Nat → Int32} (h : WF z) {u : Nat} (hu : u < cu z) : uO z u < 1024 := Nat.lt_of_lt_of_le (h.us hu).2.2.2.2.2 (pow_le10 h.n.2)
theorem prN_in (n : Nat) : 3 ≤ prN n ∧ prN n ≤ 11 := by
  unfold prN
  split <;> (try split) <;> (try split) <;> omega
/-- where a row points at, by its clock -/
def jsN (n st j c : Nat) : Nat := if c % (3 * prN n) < 2 * prN n then (st + c / (3 * prN n) + c % (3 * prN n) * (1 + (j - 1 + c / (3 * prN n) / prN n) % n)) % prN n % n else (1 + (j - 1 + c / (3 * prN n) / prN n) % n) % n
def ptsN (n ro st sp c : Nat) : Nat := if ro = 0 then jsN n st (1 + sp % n) c else if ro = 1 then (st + c) % n else if ro = 2 then st % n else (st + c * (1 + sp % n)) % prN n % n
def aimN (z : Nat → Int32) (u c : Nat) : Nat := ptsN (cn z) (uR z u) (uS z u) (uT z u) c
theorem ptsN_lt {n ro st sp c : Nat} (h : 2 ≤ n) : ptsN n ro st sp c < n := by
  unfold ptsN jsN
  split
  · split <;> exact Nat.mod_lt _ (by omega)
  · split
    · exact Nat.mod_lt _ (by omega)
    · split <;> exact Nat.mod_lt _ (by omega)
/-- bits -/
def bt0 (s k : Nat) : Nat := s / 2 ^ k % 2
def btB (s k : Nat) : Bool := decide (bt0 s k = 1)
theorem bt0_lt (s k : Nat) : bt0 s k < 2 := Nat.mod_lt _ (by decide)
def onesF (s : Nat) : Nat → Nat
  | 0 => 0
  | k + 1 => onesF s k + bt0 s k
def onesN (s : Nat) : Nat := onesF s 10
def mwN (s : Nat) : Nat → Nat → Nat → Nat
  | 0, _, _ => 10
  | f + 1, k, left => if bt0 s k = 1 then (if left = 0 then k else mwN s f (k + 1) (left - 1)) else mwN s f (k + 1) left
def landN (s to : Nat) : Nat := if bt0 s to = 1 then to else mwN s 10 0 (to % onesN s)
def plN (z : Nat → Int32) (u c : Nat) : Int32 := if uO z u = 0 then -1 else nI (landN (uO z u) (aimN z u c))
theorem i_shr {s k : Nat} (hs : s < 2 ^ 31) (hk : k < 31) : nI s >>> (nI k &&& 31) = nI (s / 2 ^ k) := by
  have h : nI k &&& 31 = nI k := by
    have h1 := pk_andN (n := k) (by omega) (m := 31) 5 (by decide)
    rw [h1, Nat.mod_eq_of_lt (by omega)]
  rw [h]
  exact pk_shrN hs (nI k) k (by
    show ((BitVec.ofNat 32 k).smod 32).toNat = k
    have : ∀ k, k < 31 → ((BitVec.ofNat 32 k).smod 32).toNat = k := by decide +kernel
    exact this k hk)
theorem i_and1 (n : Nat) : n &&& 1 = n % 2 := Nat.and_one_is_mod n
theorem ones_pos : ∀ s, s < 1024 → 0 < s → 0 < onesN s := by decide +kernel
theorem ones_le : ∀ s, s < 1024 → onesN s ≤ 10 := by decide +kernel
theorem mw_lt : ∀ s, s < 1024 → ∀ q, q < onesN s → mwN s 10 0 q < 10 := by decide +kernel
theorem land_lt {s to : Nat} (hs : s < 1024) (h0 : 0 < s) (ht : to < 10) : landN s to < 10 := by
  unfold landN
  split
  · exact ht
  · exact mw_lt s hs _ (Nat.mod_lt _ (ones_pos s hs h0))
theorem mw_bit (s : Nat) : ∀ f k q, mwN s f k q < 10 → bt0 s (mwN s f k q) = 1
  | 0, k, q, h => by simp [mwN] at h
  | f + 1, k, q, h => by
    unfold mwN at h ⊢
    split
    next h1 =>
      rw [if_pos h1] at h
      split
      next h2 => exact h1
      next h2 =>
        rw [if_neg h2] at h
        exact mw_bit s f _ _ h
    next h1 =>
      rw [if_neg h1] at h
      exact mw_bit s f _ _ h
theorem land_bit {s to : Nat} (hs : s < 1024) (h0 : 0 < s) : bt0 s (landN s to) = 1 := by
  unfold landN
  split
  next h => exact h
  next h => exact mw_bit s _ _ _ (mw_lt s hs _ (Nat.mod_lt _ (ones_pos s hs h0)))
theorem bt_lt : ∀ n, n < 11 → ∀ s, s < 2 ^ n → ∀ k, k < 10 → bt0 s k = 1 → k < n := by decide +kernel
/-- shut -/
def shO (z : Nat → Int32) (u : Nat) (ch : Int32) (t j : Nat) : Bool := decide (z (28 + 4 * j + 1) = ch ∧ (sU z j = -1 ∨ sU z j = nI u) ∧ sL z j ≤ t ∧ t < sL z j + sM z j)
def shB (z : Nat → Int32) (u : Nat) (ch : Int32) (t : Nat) : Nat → Bool
  | 0 => false
  | j + 1 => shB z u ch t j || shO z u ch t j
theorem shB_mono {z : Nat → Int32} {u : Nat} {ch : Int32} {t : Nat} {j : Nat} (h : shB z u ch t j = true) : ∀ {k : Nat}, j ≤ k → shB z u ch t k = true := by
  intro k
  induction k with
  | zero => intro hk; rw [Nat.le_zero.mp hk] at h; exact h
  | succ k ih =>
    intro hk
    by_cases e : j = k + 1
    · rw [← e]; exact h
    · rw [shB, ih (by omega)]; rfl
def plC (z : Nat → Int32) (u t : Nat) : Int32 := if t < uW z u then -1 else if uO z u = 0 then -1 else if shB z u (plN z u (t - uW z u)) t (cs z) = true then -1 else plN z u (t - uW z u)
def whC (z : Nat → Int32) (u t : Nat) : Int32 := if t < uW z u then 1 else if uO z u = 0 then 2 else if shB z u (plN z u (t - uW z u)) t (cs z) = true then 3 else 0
def meB (z : Nat → Int32) (u v t : Nat) : Bool := decide (plC z u t ≠ -1 ∧ plC z u t = plC z v t)
theorem nI_m1 {n : Nat} (h : n < 2 ^ 31) : nI n ≠ -1 := by
  intro e
  have h1 := nI_pos h
  rw [e] at h1
  exact h1 (by decide)
theorem plN_0 {z : Nat → Int32} {u c : Nat} (h : uO z u = 0) : plN z u c = -1 := if_pos h
theorem plN_1 {z : Nat → Int32} {u c : Nat} (h : ¬ uO z u = 0) : plN z u c = nI (landN (uO z u) (aimN z u c)) := if_neg h
theorem WF.aim {z : Nat → Int32} (h : WF z) (u c : Nat) : aimN z u c < cn z := ptsN_lt h.n.1
theorem WF.land {z : Nat → Int32} (h : WF z) {u : Nat} (hu : u < cu z) (h0 : ¬ uO z u = 0) (c : Nat) : landN (uO z u) (aimN z u c) < cn z := by
  have h1 := h.o hu
  have h2 := h.aim u c
  have h3 := h.n
  have h4 : landN (uO z u) (aimN z u c) < 10 := land_lt h1 (by omega) (by omega)
  exact bt_lt (cn z) (by omega) _ (h.us hu).2.2.2.2.2 _ h4 (land_bit h1 (by omega))
theorem WF.pl {z : Nat → Int32} (h : WF z) {u : Nat} (hu : u < cu z) (c : Nat) : plN z u c = -1 ∨ ∃ k, k < cn z ∧ plN z u c = nI k := by
  by_cases h0 : uO z u = 0
  · exact Or.inl (plN_0 h0)
  · exact Or.inr ⟨_, h.land hu h0 c, plN_1 h0⟩
theorem plN_m1 {z : Nat → Int32} (h : WF z) {u : Nat} (hu : u < cu z) {c : Nat} : plN z u c = -1 ↔ uO z u = 0 := by
  constructor
  · intro e
    apply Decidable.byContradiction
    intro h0
    rw [plN_1 h0] at e
    have := h.land hu h0 c
    have := h.n
    exact nI_m1 (by omega) e
  · exact plN_0
/-- rows of arrays that lie one behind another -/
def rowsF (n b : Nat) : Nat → Option Nat := fun i => if i < n then some (b + i) else none
def rowsG (n b : Nat) : Nat → Option Nat := fun i => if i < n then some (b + 16 * i) else none
theorem rowsF_at {n b i : Nat} (h : i < n) : rowsF n b i = some (b + i) := if_pos h
theorem rowsG_at {n b i : Nat} (h : i < n) : rowsG n b i = some (b + 16 * i) := if_pos h
/-- the picture of a scene: an object and 15 rows behind it -/
def Sc (G : va_G) (t : gT) (o : Nat) (z : Nat → Int32) (H : Heap) : Prop := ∃ (fU fS : Nat → Nat → Int32),
  at_ G o (.inr (2, [.int (nI (cn z)), .int (nI (prN (cn z))), .int (nI (cu z)), .int (nI (cs z)), .ref (o + 1), .ref (o + 7)])) H ∧
  at_ G (o + 1) (aR t 5 (rowsF 5 (o + 2))) H ∧ (∀ i, i < 5 → at_ G (o + 2 + i) (aI t 5 (fU i)) H) ∧
  at_ G (o + 7) (aR t 8 (rowsF 8 (o + 8))) H ∧ (∀ i, i < 8 → at_ G (o + 8 + i) (aI t 4 (fS i)) H) ∧
  (∀ i, i < cu z → ∀ w, w < 5 → fU i w = z (3 + 5 * i + w)) ∧ ∀ i, i < cs z → ∀ w, w < 4 → fS i w = z (28 + 4 * i + w)
theorem Sc_kept {G : va_G} {t : gT} {o : Nat} {z : Nat → Int32} {H H1 : Heap} (h : Sc G t o z H) (hk : ∀ q, o ≤ q → q < o + 16 → H1[q]? = H[q]?) : Sc G t o z H1 := by
  obtain ⟨fU, fS, h0, h1, h2, h3, h4, h5, h6⟩ := h
  exact ⟨fU, fS, at_kept h0 (hk _ (by omega) (by omega)), at_kept h1 (hk _ (by omega) (by omega)), fun i hi => at_kept (h2 i hi) (hk _ (by omega) (by omega)), at_kept h3 (hk _ (by omega) (by omega)), fun i hi => at_kept (h4 i hi) (hk _ (by omega) (by omega)), h5, h6⟩
theorem Sc_lt {G : va_G} {t : gT} {o : Nat} {z : Nat → Int32} {H : Heap} (h : Sc G t o z H) : o + 16 ≤ H.size := by
  obtain ⟨fU, fS, h0, h1, h2, h3, h4, h5, h6⟩ := h
  have := va_at.lt (h4 7 (by decide))
  have e : o + 8 + 7 < H.size := this
  omega
theorem Sc_keptA {G : va_G} {t : gT} {o : Nat} {z : Nat → Int32} {H H1 : Heap} {A : Nat → Prop} (h : Sc G t o z H) (hk : ∀ q : Nat, q < H.size → ¬ A q → H1[q]? = H[q]?) (ha : ∀ q, o ≤ q → q < o + 16 → ¬ A q) : Sc G t o z H1 := by
  have hz := Sc_lt h
  exact Sc_kept h (fun q h1 h2 => hk q (by omega) (ha q h1 h2))
theorem Sc_obj {G : va_G} {t : gT} {o : Nat} {z : Nat → Int32} {H : Heap} (h : Sc G t o z H) : at_ G o (.inr (2, [.int (nI (cn z)), .int (nI (prN (cn z))), .int (nI (cu z)), .int (nI (cs z)), .ref (o + 1), .ref (o + 7)])) H := by
  obtain ⟨fU, fS, h0, -⟩ := h
  exact h0
theorem Sc_rows {G : va_G} {t : gT} {o : Nat} {z : Nat → Int32} {H : Heap} (h : Sc G t o z H) : at_ G (o + 1) (aR t 5 (rowsF 5 (o + 2))) H ∧ at_ G (o + 7) (aR t 8 (rowsF 8 (o + 8))) H := by
  obtain ⟨fU, fS, h0, h1, h2, h3, h4, h5, h6⟩ := h
  exact ⟨h1, h3⟩
theorem Sc_user {G : va_G} {t : gT} {o : Nat} {z : Nat → Int32} {H : Heap} (h : Sc G t o z H) (hz : WF z) {u : Nat} (hu : u < cu z) : ∃ f, at_ G (o + 2 + u) (aI t 5 f) H ∧ f 0 = nI (uR z u) ∧ f 1 = nI (uS z u) ∧ f 2 = nI (uT z u) ∧ f 3 = nI (uW z u) ∧ f 4 = nI (uO z u) := by
  obtain ⟨fU, fS, h0, h1, h2, h3, h4, h5, h6⟩ := h
  have h7 := hz.us hu
  have h8 := hz.u5
  exact ⟨fU u, h2 u (by omega), (h5 u hu 0 (by decide)).trans h7.1.1, (h5 u hu 1 (by decide)).trans h7.2.1.1, (h5 u hu 2 (by decide)).trans h7.2.2.1.1, (h5 u hu 3 (by decide)).trans h7.2.2.2.1.1, (h5 u hu 4 (by decide)).trans h7.2.2.2.2.1⟩
theorem Sc_spell {G : va_G} {t : gT} {o : Nat} {z : Nat → Int32} {H : Heap} (h : Sc G t o z H) (hz : WF z) {j : Nat} (hj : j < cs z) : ∃ f, at_ G (o + 8 + j) (aI t 4 f) H ∧ f 0 = sU z j ∧ f 1 = nI (sC z j) ∧ f 2 = nI (sL z j) ∧ f 3 = nI (sM z j) := by
  obtain ⟨fU, fS, h0, h1, h2, h3, h4, h5, h6⟩ := h
  have h7 := hz.sp hj
  have h8 := hz.s8
  exact ⟨fS j, h4 j (by omega), h6 j hj 0 (by decide), (h6 j hj 1 (by decide)).trans h7.2.1.1, (h6 j hj 2 (by decide)).trans h7.2.2.1.1, (h6 j hj 3 (by decide)).trans h7.2.2.2.1⟩
/-! small rows that the walks use -/
theorem i_neg_ge {x : Int32} (h : x < 0) (h2 : 0 ≤ x) : False := by
  rw [Int32.lt_iff_toInt_lt] at h
  rw [Int32.le_iff_toInt_le] at h2
  omega
def bcI (x : Int32) : Int32 :=
  let b1 := x - ((x.toUInt32 >>> ((nI 1).toUInt32 &&& Int32.toUInt32 31)).toInt32 &&& nI 1431655765)
  let b2 := (b1 &&& nI 858993459) + ((b1.toUInt32 >>> ((nI 2).toUInt32 &&& Int32.toUInt32 31)).toInt32 &&& nI 858993459)
  let b3 := (b2 + (b2.toUInt32 >>> ((nI 4).toUInt32 &&& Int32.toUInt32 31)).toInt32) &&& nI 252645135
  let b4 := b3 + (b3.toUInt32 >>> ((nI 8).toUInt32 &&& Int32.toUInt32 31)).toInt32
  let b5 := b4 + (b4.toUInt32 >>> ((nI 16).toUInt32 &&& Int32.toUInt32 31)).toInt32
  b5 &&& nI 63
theorem bc_rows : ∀ x, x < 1024 → bcI (nI x) = nI (onesN x) := by decide +kernel
theorem mw_a (x k w : Nat) (hk : k < 10) (h : btB x k = true) (h0 : ¬ w = 0) : mwN x (10 - k) k w = mwN x (10 - (k + 1)) (k + 1) (w - 1) := by
  rw [show 10 - k = (10 - (k + 1)) + 1 by omega, mwN, if_pos (of_decide_eq_true h), if_neg h0]
theorem mw_b (x k w : Nat) (hk : k < 10) (h : btB x k = false) : mwN x (10 - k) k w = mwN x (10 - (k + 1)) (k + 1) w := by
  rw [show 10 - k = (10 - (k + 1)) + 1 by omega, mwN, if_neg (of_decide_eq_false h)]
theorem mw_c (x k w : Nat) (hk : k < 10) (h : btB x k = true) (h0 : w = 0) : mwN x (10 - k) k w = k := by
  rw [show 10 - k = (10 - (k + 1)) + 1 by omega, mwN, if_pos (of_decide_eq_true h), if_pos h0]
theorem nI_dec {w : Nat} (h : 0 < w) : nI w + Int32.ofInt (-1) = nI (w - 1) := by
  obtain ⟨v, rfl⟩ : ∃ v, w = v + 1 := ⟨w - 1, by omega⟩
  exact pk_m1 v
def prB (n : Nat) : Bool := decide (∀ d, d < n → 2 ≤ d → n % d ≠ 0)
def prP (n k : Nat) : Bool := decide (n < k) && (decide (∀ d, d < k → n < d → prB d = false) && ((decide (2 * n ≤ k) || prB k) && (decide (2 ≤ n) && decide (k ≤ 2 * n))))
theorem prP_rows : ∀ n, n < 11 → ∀ k, k < 21 → prP n k = true → k = prN n := by decide +kernel
theorem pr_least (n : Nat) (hn : n < 11) (k : Nat) (hk : k < 21) (h1 : n < k) (h2 : ∀ d, d < k → n < d → prB d = false) (h3 : k < 2 * n → prB k = true) (h4 : 2 ≤ n) (h5 : k ≤ 2 * n) : k = prN n := by
  refine prP_rows n hn k hk ?_
  unfold prP
  rw [decide_eq_true h1, decide_eq_true h2, decide_eq_true h4, decide_eq_true h5]
  by_cases h : k < 2 * n
  · rw [h3 h, Bool.or_true]; rfl
  · rw [decide_eq_true (Nat.not_lt.mp h)]; rfl
theorem i_shl1 : ∀ {n : Nat}, n ≤ 10 → nI 1 <<< (nI n &&& 31) = nI (2 ^ n) := by
  intro n h
  have : ∀ n, n < 11 → nI 1 <<< (nI n &&& 31) = nI (2 ^ n) := by decide +kernel
  exact this n (by omega)
theorem shB_no {z : Nat → Int32} {u : Nat} {ch : Int32} {t j : Nat} (h : shB z u ch t j = false) (h2 : shO z u ch t j = false) : shB z u ch t (j + 1) = false := by rw [shB, h, h2]; rfl
theorem shB_yes {z : Nat → Int32} {u : Nat} {ch : Int32} {t j : Nat} (h2 : shO z u ch t j = true) : shB z u ch t (j + 1) = true := by rw [shB, h2, Bool.or_true]
theorem sh_no {z : Nat → Int32} {n u : Nat} {ch : Int32} {t j : Nat} (hsf : SF z n j) (h : ¬ (nI (sC z j) = ch ∧ (sU z j = -1 ∨ sU z j = nI u) ∧ sL z j ≤ t ∧ t < sL z j + sM z j)) : shO z u ch t j = false := by
  rw [← hsf.2.1.1] at h
  exact decide_eq_false h
theorem sh_yes {z : Nat → Int32} {n u : Nat} {ch : Int32} {t j : Nat} (hsf : SF z n j) (h : nI (sC z j) = ch ∧ (sU z j = -1 ∨ sU z j = nI u) ∧ sL z j ≤ t ∧ t < sL z j + sM z j) : shO z u ch t j = true := by
  rw [← hsf.2.1.1] at h
  exact decide_eq_true h
theorem plC_w {z : Nat → Int32} {u t : Nat} (h : t < uW z u) : plC z u t = -1 := if_pos h
theorem plC_1 {z : Nat → Int32} {u t : Nat} (h : uW z u ≤ t) (h2 : shB z u (plN z u (t - uW z u)) t (cs z) = true) : plC z u t = -1 := by
  unfold plC
  rw [if_neg (Nat.not_lt.mpr h)]
  split
  · rfl
  · first | rfl | rw [if_pos h2]
theorem plC_2 {z : Nat → Int32} {u t : Nat} (h : uW z u ≤ t) (h2 : shB z u (plN z u (t - uW z u)) t (cs z) = false) : plC z u t = plN z u (t - uW z u) := by
  unfold plC
  rw [if_neg (Nat.not_lt.mpr h)]
  split
  next h0 => exact (plN_0 h0).symm
  next h0 => rw [if_neg (by rw [h2]; decide)]
theorem whC_w {z : Nat → Int32} {u t : Nat} (h : t < uW z u) : whC z u t = 1 := if_pos h
theorem whC_0 {z : Nat → Int32} {u t : Nat} (h : uW z u ≤ t) (h0 : uO z u = 0) : whC z u t = 2 := by
  unfold whC
  rw [if_neg (Nat.not_lt.mpr h), if_pos h0]
theorem whC_1 {z : Nat → Int32} {u t : Nat} (h : uW z u ≤ t) (h0 : ¬ uO z u = 0) (h2 : shB z u (plN z u (t - uW z u)) t (cs z) = true) : whC z u t = 3 := by
  unfold whC
  rw [if_neg (Nat.not_lt.mpr h), if_neg h0, if_pos h2]
theorem whC_2 {z : Nat → Int32} {u t : Nat} (h : uW z u ≤ t) (h0 : ¬ uO z u = 0) (h2 : shB z u (plN z u (t - uW z u)) t (cs z) = false) : whC z u t = 0 := by
  unfold whC
  rw [if_neg (Nat.not_lt.mpr h), if_neg h0, if_neg (by rw [h2]; decide)]
/-- the channels that are open to the first j users -/
def comN (z : Nat → Int32) : Nat → Nat
  | 0 => 2 ^ cn z - 1
  | j + 1 => comN z j &&& uO z j
