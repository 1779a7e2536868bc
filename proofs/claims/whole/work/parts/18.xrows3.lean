/-! HopMeet: rows for shifts, counts, runs -/
def smP (f1 f2 : Nat → Int32) (x : Nat) : Nat → Bool := fun y => decide (f2 y ≠ -1 ∧ f2 y = f1 (y + x))
def smM (f1 f2 : Nat → Int32) (x : Nat) : Nat := if fi (smP f1 f2 x) 1500 = 1500 then 99999 else fi (smP f1 f2 x) 1500
theorem sm_ws {z : Nat → Int32} {a b x d : Nat} {f1 f2 : Nat → Int32} (h1 : ∀ y, y < 1500 + d → f1 y = plN z a y) (h2 : ∀ y, y < 1500 → f2 y = plN z b y) (hx : x ≤ d) : smM f1 f2 x = wsM z a b x := by
  have e : fi (smP f1 f2 x) 1500 = wsT z a b x := fi_cong (fun y hy => by
    unfold smP wsP
    rw [h1 (y + x) (by omega), h2 y hy])
  unfold smM wsM
  rw [e]
theorem max_N {a b : Nat} (ha : a < 2 ^ 31) (hb : b < 2 ^ 31) : (if nI a < nI b then nI b else nI a) = nI (if a < b then b else a) := by
  by_cases h : a < b
  · rw [if_pos h, if_pos ((nI_ltI ha hb).mpr h)]
  · rw [if_neg h, if_neg (fun q => h ((nI_ltI ha hb).mp q))]
theorem min_N {a b : Nat} (ha : a < 2 ^ 31) (hb : b < 2 ^ 31) : (if nI b < nI a then nI b else nI a) = nI (if b < a then b else a) := by
  by_cases h : b < a
  · rw [if_pos h, if_pos ((nI_ltI hb ha).mpr h)]
  · rw [if_neg h, if_neg (fun q => h ((nI_ltI hb ha).mp q))]
theorem tm_step {z : Nat → Int32} {u i q : Nat} {f : Nat → Int32} (hf : ∀ j, j < 10 → f j = nI (tmN z u i j)) (hq : q < 10) (e : plN z u i = nI q) : ∀ j, j < 10 → upd f q (nI (tmN z u i q + 1)) j = nI (tmN z u (i + 1) j) := fun j hj => by
  unfold tmN
  by_cases ej : j = q
  · subst ej
    rw [pk_us]
    exact congrArg nI (cnt_y rfl (decide_eq_true e))
  · rw [pk_un ej, hf j hj]
    exact congrArg nI (cnt_n rfl (decide_eq_false (fun k => ej ((nI_eq (by omega) (by omega)).mp (k.symm.trans e)))))
theorem tm_none {z : Nat → Int32} {u i : Nat} {f : Nat → Int32} (hf : ∀ j, j < 10 → f j = nI (tmN z u i j)) (e : plN z u i = -1) : ∀ j, j < 10 → f j = nI (tmN z u (i + 1) j) := fun j hj => by
  unfold tmN
  rw [hf j hj]
  exact congrArg nI (cnt_n rfl (decide_eq_false (fun k => nI_m1 (by omega) (k.symm.trans e))))
theorem tm_le (z : Nat → Int32) (u n k : Nat) : tmN z u n k ≤ n := cnt_le _ _
theorem mo_y {z : Nat → Int32} {u n k m : Nat} (h : m = moN z u n k) (hb : btB (uO z u) k = true) : (if m < tmN z u n k then tmN z u n k else m) = moN z u n (k + 1) := by
  subst h
  rw [moN]
  by_cases q : moN z u n k < tmN z u n k
  · rw [if_pos q, if_pos ⟨hb, q⟩]
  · rw [if_neg q, if_neg (fun r => q r.2)]
theorem mo_n {z : Nat → Int32} {u n k m : Nat} (h : m = moN z u n k) (hb : btB (uO z u) k = false) : m = moN z u n (k + 1) := by
  subst h
  rw [moN, if_neg (fun r => by rw [hb] at r; exact absurd r.1 (by decide))]
theorem le_y {z : Nat → Int32} {u n k m : Nat} (h : m = leN z u n k) (hb : btB (uO z u) k = true) : (if tmN z u n k < m then tmN z u n k else m) = leN z u n (k + 1) := by
  subst h
  rw [leN]
  by_cases q : tmN z u n k < leN z u n k
  · rw [if_pos q, if_pos ⟨hb, q⟩]
  · rw [if_neg q, if_neg (fun r => q r.2)]
theorem le_n {z : Nat → Int32} {u n k m : Nat} (h : m = leN z u n k) (hb : btB (uO z u) k = false) : m = leN z u n (k + 1) := by
  subst h
  rw [leN, if_neg (fun r => by rw [hb] at r; exact absurd r.1 (by decide))]
theorem mo_le (z : Nat → Int32) (u n : Nat) : ∀ k, moN z u n k ≤ n
  | 0 => Nat.zero_le _
  | k + 1 => by
    have h1 := mo_le z u n k
    have h2 := tm_le z u n k
    unfold moN
    split <;> omega
theorem le_le (z : Nat → Int32) (u n : Nat) : ∀ k, leN z u n k ≤ n
  | 0 => Nat.le_refl _
  | k + 1 => by
    have h1 := le_le z u n k
    have h2 := tm_le z u n k
    unfold leN
    split <;> omega
theorem grS_le {z : Nat → Int32} {gr : Nat → Nat} {y : Nat} (h : ∀ u, gr u ≤ u) : ∀ u, grS z gr y u ≤ u := fun u => Nat.le_trans (nl_le z gr y (gr u)) (h u)
theorem grS_idem {z : Nat → Int32} {gr : Nat → Nat} {y : Nat} (h2 : ∀ u, gr (gr u) = gr u) : ∀ u, grS z gr y (grS z gr y u) = grS z gr y u := fun u => by
  have key : ∀ L, gr L = L → gr (nlN z gr y L) = nlN z gr y L ∧ nlN z gr y (nlN z gr y L) = nlN z gr y L := by
    intro L hL
    by_cases q : plC z L y = -1
    · have e : nlN z gr y L = L := if_pos q
      rw [e]
      exact ⟨hL, e⟩
    · have e : nlN z gr y L = fi (fun v => decide (gr v = v ∧ plC z v y = plC z L y)) L := if_neg q
      rcases Nat.lt_or_ge (fi (fun v => decide (gr v = v ∧ plC z v y = plC z L y)) L) L with r | r
      · have hp := of_decide_eq_true (fi_p r)
        rw [e]
        refine ⟨hp.1, ?_⟩
        have e3 : nlN z gr y (fi (fun v => decide (gr v = v ∧ plC z v y = plC z L y)) L) = fi (fun v => decide (gr v = v ∧ plC z v y = plC z L y)) (fi (fun v => decide (gr v = v ∧ plC z v y = plC z L y)) L) := by
          have e4 : nlN z gr y (fi (fun v => decide (gr v = v ∧ plC z v y = plC z L y)) L) = fi (fun v => decide (gr v = v ∧ plC z v y = plC z (fi (fun v => decide (gr v = v ∧ plC z v y = plC z L y)) L) y)) (fi (fun v => decide (gr v = v ∧ plC z v y = plC z L y)) L) := if_neg (by rw [hp.2]; exact q)
          rw [e4, hp.2]
        rw [e3]
        exact fi_none (fun j hj => fi_no hj)
      · have e2 : nlN z gr y L = L := by
          have := fi_le (fun v => decide (gr v = v ∧ plC z v y = plC z L y)) L
          rw [e]; omega
        rw [e2]
        exact ⟨hL, e2⟩
  obtain ⟨k1, k2⟩ := key (gr u) (h2 u)
  show nlN z gr y (gr (nlN z gr y (gr u))) = nlN z gr y (gr u)
  rw [k1, k2]
theorem rn_step {z : Nat → Int32} {i j s : Nat} {g gr : Nat → Nat} {sl : Nat} (h : rnS z (j - i) (g, s) = rnS z j (gr, sl)) (hi : i < j) (hs : s < 3000) : rnS z (j - (i + 1)) (grS z g s, s + 1) = rnS z j (gr, sl) := by
  rw [← h, show j - i = (j - (i + 1)) + 1 by omega, rnS, if_pos hs]
theorem mg_step {z : Nat → Int32} {i s : Nat} {g gr : Nat → Nat} {sl : Nat} (h : mgS z (1500 - i) (g, s) = mgS z 1500 (gr, sl)) (hi : i < 1500) (hs : s < 3000) (hg : 1 < grN g (cu z)) : mgS z (1500 - (i + 1)) (grS z g s, s + 1) = mgS z 1500 (gr, sl) := by
  rw [← h, show 1500 - i = (1500 - (i + 1)) + 1 by omega, mgS, if_pos ⟨hs, hg⟩]
theorem rBound_n {u v d x : Int32} {z : Nat → Int32} {k k2 j i : Nat} (c1 : twB z u v = true) (c2 : (inB d (nI 0) (nI 200) && inB x (nI 0) (nI 1500)) = true) (e1 : cl u = k) (e2 : cl v = k2) (e3 : cl d = j) (e4 : cl x = i) (h : i < wsN z k k2 (j + 1)) : nI 0 = rBound u v d x z := by
  unfold rBound
  rw [c1, c2, e1, e2, e3, e4, cond_true, cond_true]
  generalize wsN z k k2 (j + 1) = W at h ⊢
  rw [if_neg (Nat.not_le.mpr h)]
theorem rBound_y {u v d x : Int32} {z : Nat → Int32} {k k2 j i : Nat} (c1 : twB z u v = true) (c2 : (inB d (nI 0) (nI 200) && inB x (nI 0) (nI 1500)) = true) (e1 : cl u = k) (e2 : cl v = k2) (e3 : cl d = j) (e4 : cl x = i) (h : wsN z k k2 (j + 1) ≤ i) : nI 1 = rBound u v d x z := by
  unfold rBound
  rw [c1, c2, e1, e2, e3, e4, cond_true, cond_true]
  generalize wsN z k k2 (j + 1) = W at h ⊢
  rw [if_pos h]
