/-! the reference: its whole picture -/
theorem at_ext {G : va_G} {a n : Nat} {cA : ClassId} {f g : Nat → Int32} {H : Heap} (h : at_ G a (.inl (cA, n, .inl f)) H) (e : ∀ k, k < n → f k = g k) : at_ G a (.inl (cA, n, .inl g)) H := by
  show H[a]? = some (vp_cell cA (n, .inl g))
  rw [show H[a]? = some (vp_cell cA (n, .inl f)) from h, vp_cell_i, vp_cell_i]
  congr 1
  unfold arrV
  congr 1
  congr 1
  funext j
  exact congrArg Value.int (e j.val j.isLt)
/-- the reference's own cell -/
abbrev DO (G : va_G) (d : Nat) (bc sl pr : Int32) (lo : Int64) (H : Heap) : Prop := at_ G d (.inr (4, [.ref (d + 1), .int bc, .ref (d + 2), .ref (d + 3), .ref (d + 4), .int sl, .int pr, .ref (d + 5), .ref (d + 6), .long lo])) H
def PM (G : va_G) (t : gT) (d : Nat) : aS → Heap → Prop
  | (z, gr, sl, bc, bk, kp, im), H => ∃ (lo : Int64) (fB fI fG fM : Nat → Int32), DO G d (nI bc) (nI sl) (nI (prN (cn z))) lo H ∧ at_ G (d + 1) (aI t 60 z) H ∧ at_ G (d + 2) (aI t 720 fB) H ∧ at_ G (d + 3) (aI t 120 fI) H ∧ at_ G (d + 4) (aZ t 2 (fun i => bI (kp i))) H ∧ at_ G (d + 5) (aI t 5 fG) H ∧ at_ G (d + 6) (aI t 10 fM) H ∧
    (∀ j, j < bc → ∀ k, k < 60 → fB (60 * (bc - 1 - j) + k) = bk j k) ∧ (∀ i, i < 2 → kp i = true → ∀ k, k < 60 → fI (60 * i + k) = im i k) ∧ ∀ u, u < cu z → fG u = nI (gr u)
theorem PM_mk {G : va_G} {t : gT} {d : Nat} {z : Nat → Int32} {gr : Nat → Nat} {sl bc : Nat} {bk : Nat → Nat → Int32} {kp : Nat → Bool} {im : Nat → Nat → Int32} {H : Heap} {lo : Int64} {fB fI fG fM : Nat → Int32} (h0 : DO G d (nI bc) (nI sl) (nI (prN (cn z))) lo H) (h1 : at_ G (d + 1) (aI t 60 z) H) (h2 : at_ G (d + 2) (aI t 720 fB) H) (h3 : at_ G (d + 3) (aI t 120 fI) H) (h4 : at_ G (d + 4) (aZ t 2 (fun i => bI (kp i))) H) (h5 : at_ G (d + 5) (aI t 5 fG) H) (h6 : at_ G (d + 6) (aI t 10 fM) H)
    (e1 : ∀ j, j < bc → ∀ k, k < 60 → fB (60 * (bc - 1 - j) + k) = bk j k) (e2 : ∀ i, i < 2 → kp i = true → ∀ k, k < 60 → fI (60 * i + k) = im i k) (e3 : ∀ u, u < cu z → fG u = nI (gr u)) : PM G t d (z, gr, sl, bc, bk, kp, im) H := by
  show ∃ _ _ _ _ _, _
  exact ⟨lo, fB, fI, fG, fM, h0, h1, h2, h3, h4, h5, h6, e1, e2, e3⟩
abbrev iv2 (a b : Nat) : Nat → Prop := fun q => q = a ∨ q = b
theorem iv2_no {a b q : Nat} (h : q ≠ a) (h2 : q ≠ b) : ¬ iv2 a b q := fun k => by
  rcases k with k | k
  · exact h k
  · exact h2 k
theorem iv2_sub {a b lo hi : Nat} (h : lo ≤ a ∧ a < hi) (h2 : lo ≤ b ∧ b < hi) : ∀ q, iv2 a b q → iv lo hi q := fun q k => by
  rcases k with k | k
  · subst k; exact h
  · subst k; exact h2
/-- a stretch of f over g -/
def cpF (f g : Nat → Int32) (x y k : Nat) : Nat → Int32 := fun j => if y ≤ j ∧ j < y + k then f (x + (j - y)) else g j
theorem cpF_0 (f g : Nat → Int32) (x y : Nat) : cpF f g x y 0 = g := funext fun j => if_neg (by omega)
theorem cpF_s (f g : Nat → Int32) (x y k : Nat) : upd (cpF f g x y k) (y + k) (f (x + k)) = cpF f g x y (k + 1) := funext fun j => by
  unfold cpF upd
  by_cases e : j = y + k
  · subst e
    rw [if_pos rfl, if_pos (by omega), show y + k - y = k by omega]
  · rw [if_neg e]
    show (if y ≤ j ∧ j < y + k then f (x + (j - y)) else g j) = _
    by_cases q : y ≤ j ∧ j < y + k
    · rw [if_pos q, if_pos (by omega)]
    · rw [if_neg q, if_neg (by omega)]
theorem cpF_in {f g : Nat → Int32} {x y k j : Nat} (h : j < k) : cpF f g x y k (y + j) = f (x + j) := by
  unfold cpF
  rw [if_pos (by omega), show y + j - y = j by omega]
theorem cpF_out {f g : Nat → Int32} {x y k j : Nat} (h : j < y ∨ y + k ≤ j) : cpF f g x y k j = g j := if_neg (by omega)
/-- a row moved down onto itself -/
def shF (f : Nat → Int32) (x k : Nat) : Nat → Int32 := fun j => if j < k then f (x + j) else f j
theorem shF_0 (f : Nat → Int32) (x : Nat) : shF f x 0 = f := funext fun j => if_neg (Nat.not_lt_zero _)
theorem shF_s (f : Nat → Int32) (x k : Nat) : upd (shF f x k) (0 + k) (f (x + k)) = shF f x (k + 1) := funext fun j => by
  unfold shF upd
  rw [Nat.zero_add]
  by_cases e : j = k
  · subst e; rw [if_pos rfl, if_pos (by omega)]
  · rw [if_neg e]
    show (if j < k then f (x + j) else f j) = _
    by_cases q : j < k
    · rw [if_pos q, if_pos (by omega)]
    · rw [if_neg q, if_neg (by omega)]
theorem shF_at {f : Nat → Int32} {x k : Nat} : shF f x k (x + k) = f (x + k) := if_neg (by omega)
/-- what is noted: full, and not -/
theorem note_full {fB z : Nat → Int32} {bk : Nat → Nat → Int32} (h : ∀ j, j < 12 → ∀ k, k < 60 → fB (60 * (12 - 1 - j) + k) = bk j k) : ∀ j, j < inc12 12 → ∀ k, k < 60 → cpF z (shF fB 60 660) 0 (60 * 11) 60 (60 * (inc12 12 - 1 - j) + k) = push bk z j k := fun j hj k hk => by
  have e12 : inc12 12 = 12 := rfl
  rw [e12] at hj ⊢
  unfold push
  by_cases e : j = 0
  · subst e
    rw [if_pos rfl, show 60 * (12 - 1 - 0) + k = 60 * 11 + k by omega, cpF_in hk, Nat.zero_add]
  · rw [if_neg e, cpF_out (by omega), ← h (j - 1) (by omega) k hk]
    unfold shF
    rw [if_pos (by omega)]
    congr 1
    omega
theorem note_part {fB z : Nat → Int32} {bc : Nat} {bk : Nat → Nat → Int32} (hb : bc < 12) (h : ∀ j, j < bc → ∀ k, k < 60 → fB (60 * (bc - 1 - j) + k) = bk j k) : ∀ j, j < inc12 bc → ∀ k, k < 60 → cpF z fB 0 (60 * bc) 60 (60 * (inc12 bc - 1 - j) + k) = push bk z j k := fun j hj k hk => by
  have e12 : inc12 bc = bc + 1 := by unfold inc12; split <;> omega
  rw [e12] at hj ⊢
  unfold push
  by_cases e : j = 0
  · subst e
    rw [if_pos rfl, show 60 * (bc + 1 - 1 - 0) + k = 60 * bc + k by omega, cpF_in hk, Nat.zero_add]
  · rw [if_neg e, cpF_out (by omega), ← h (j - 1) (by omega) k hk]
    congr 1
    omega
theorem inc12_lt {bc : Nat} (h : bc < 12) : inc12 bc = bc + 1 := by
  unfold inc12
  split <;> omega
theorem prB_prN : ∀ n, n < 11 → 2 ≤ n → prB (prN n) = true ∧ n < prN n ∧ prN n < 12 := by decide +kernel
theorem pr_up {n k : Nat} (hn : n ≤ 10) (h2 : 2 ≤ n) (hk : n < k) (h : ∀ d, d < k → n < d → prB d = false) : k ≤ prN n := by
  obtain ⟨h3, h4, -⟩ := prB_prN n (by omega) h2
  rcases Nat.lt_or_ge (prN n) k with q | q
  · rw [h _ q h4] at h3
    cases h3
  · exact q
theorem prN_no : ∀ n, n < 11 → ∀ k, k < 12 → 2 ≤ n → n < k → k < prN n → prB k = false := by decide +kernel
/-- groups in the reference: behind the first users u, and of u the first v -/
def mI (z : Nat → Int32) (gr : Nat → Nat) (y u : Nat) : Nat → Nat := fun w => if nlN z gr y (gr w) < u then nlN z gr y (gr w) else gr w
def mJ (z : Nat → Int32) (gr : Nat → Nat) (y u v : Nat) : Nat → Nat := fun w => if nlN z gr y (gr w) < u then nlN z gr y (gr w) else if nlN z gr y (gr w) = u ∧ gr w < v then u else gr w
theorem ws_no {z : Nat → Int32} (hz : WF z) {a b x i : Nat} (ha : a < cu z) (h : uO z a = 0 ∨ ¬ plN z a (i + x) = plN z b i) : wsP z a b x i = false := decide_eq_false (fun q => by
  rcases h with h | h
  · exact q.1 (q.2.trans (plN_0 h))
  · exact h q.2.symm)
theorem ws_yes {z : Nat → Int32} (hz : WF z) {a b x i : Nat} (ha : a < cu z) (h : ¬ uO z a = 0) (h2 : plN z a (i + x) = plN z b i) : wsP z a b x i = true := decide_eq_true ⟨fun q => h ((plN_m1 hz ha).mp (h2.trans q)), h2.symm⟩
theorem ws_s1 {z : Nat → Int32} {a b x : Nat} (h : wsT z a b x = 1500) : 99999 = wsN z a b (x + 1) := by
  have h1 := wsN_le z a b x
  have e : wsM z a b x = 99999 := if_pos h
  rw [wsN, e]
  by_cases q : wsN z a b x < 99999
  · rw [if_pos q]
  · rw [if_neg q]; omega
theorem ws_s2 {z : Nat → Int32} {a b x i : Nat} (h : wsT z a b x = i) (hi : i < 1500) (q : ¬ i ≤ wsN z a b x) : i = wsN z a b (x + 1) := by
  have e : wsM z a b x = i := by unfold wsM; rw [h, if_neg (by omega)]
  rw [wsN, e, if_pos (by omega)]
theorem ws_s3 {z : Nat → Int32} {a b x i : Nat} (h : wsT z a b x = i) (hi : i < 1500) (q : i ≤ wsN z a b x) : wsN z a b x = wsN z a b (x + 1) := by
  have e : wsM z a b x = i := by unfold wsM; rw [h, if_neg (by omega)]
  rw [wsN, e, if_neg (by omega)]
theorem lpx {n k : Nat} (hd : ∀ d, d < k → n < d → prB d = false) (h : prB k = false) : ∀ d, d < k + 1 → n < d → prB d = false := fun d h3 h4 => by
  rcases Nat.lt_or_ge d k with q | q
  · exact hd d q h4
  · have e : d = k := by omega
    subst e
    exact h
theorem lp_end {n k : Nat} (h10 : n ≤ 10) (h2 : 2 ≤ n) (hk : n < k) (hk2 : k ≤ prN n) (h : prB k = true) : prN n = k := by
  rcases Nat.lt_or_ge k (prN n) with q | q
  · have h5 := (prB_prN n (by omega) h2).2.2
    rw [prN_no n (by omega) k (by omega) h2 hk q] at h
    cases h
  · omega
theorem WF_low {z z2 : Nat → Int32} (h : WF z) (e : ∀ q, q < 3 + 5 * cu z ∨ 28 ≤ q → z2 q = z q) : WF z2 := by
  have hn := h.n
  have hu5 := h.u5
  exact WF_mk (n := cn z) (k := cu z) (q := cs z) ((e 0 (by omega)).trans h.1.1) hn.1 hn.2 ((e 1 (by omega)).trans h.2.1.1) hu5 ((e 2 (by omega)).trans h.2.2.1.1) h.s8 (fun u hu => UF_congr (h.us hu) (fun w hw => e _ (by omega))) (fun j hj => SF_congr (h.sp hj) (fun w hw => e _ (by omega)))
theorem cn_low {z z2 : Nat → Int32} (e : z2 0 = z 0) : cn z2 = cn z := by unfold cn zn; rw [e]
abbrev u4N (z : Nat → Int32) (r x y w : Int32) : Nat → Int32 := upd (upd (upd (upd z (3 + 5 * cu z) r) (3 + 5 * cu z + 1) x) (3 + 5 * cu z + 2) y) (3 + 5 * cu z + 3) w
theorem u4_lo {z : Nat → Int32} {r x y w : Int32} {q : Nat} (h : q < 3 + 5 * cu z ∨ 3 + 5 * cu z + 4 ≤ q) : u4N z r x y w q = z q := by
  unfold u4N
  rw [pk_un (by omega), pk_un (by omega), pk_un (by omega), pk_un (by omega)]
theorem u4_wf {z : Nat → Int32} {r x y w : Int32} (h : WF z) (hc : cu z < 5) : WF (u4N z r x y w) := WF_low h (fun q hq => u4_lo (by omega))
theorem u4_n {z : Nat → Int32} {r x y w : Int32} : nI (2 ^ cn (u4N z r x y w) - 1) = nI (2 ^ cn z - 1) := by
  rw [cn_low (u4_lo (Or.inl (by omega)))]
theorem u5_u {z : Nat → Int32} {r x y w v : Int32} (h : WF z) : upd (u4N z r x y w) (3 + 5 * cu z + 4) v 1 = nI (cu z) := by
  rw [pk_un (by omega), u4_lo (by omega)]
  exact h.2.1.1
