/-! groups: how they are kept, and how a slot is run -/
abbrev iv (lo hi : Nat) : Nat → Prop := fun q => lo ≤ q ∧ q < hi
theorem iv_no {lo hi q : Nat} (h : q < lo ∨ hi ≤ q) : ¬ iv lo hi q := fun k => by
  have k : lo ≤ q ∧ q < hi := k
  omega
theorem iv_sub {lo hi lo2 hi2 : Nat} (h : lo2 ≤ lo) (h2 : hi ≤ hi2) : ∀ q, iv lo hi q → iv lo2 hi2 q := fun q k => by
  have k : lo ≤ q ∧ q < hi := k
  exact ⟨by omega, by omega⟩
theorem up_ext {f : Nat → Int32} {g : Nat → Int32} {i : Nat} {x : Int32} (h : ∀ u, u < i → f u = g u) (hx : x = g i) : ∀ u, u < i + 1 → upd f i x u = g u := fun u hu => by
  by_cases e : u = i
  · rw [e, pk_us, hx]
  · rw [pk_un e]; exact h u (by omega)
/-- the first below n -/
def fi (p : Nat → Bool) : Nat → Nat
  | 0 => 0
  | n + 1 => if fi p n < n then fi p n else if p n = true then n else n + 1
theorem fi_some {p : Nat → Bool} {n : Nat} (h : fi p n < n) : fi p (n + 1) = fi p n := if_pos h
theorem fi_new {p : Nat → Bool} {n : Nat} (h : ¬ fi p n < n) (h2 : p n = true) : fi p (n + 1) = n := by rw [fi, if_neg h, if_pos h2]
theorem fi_non {p : Nat → Bool} {n : Nat} (h : ¬ fi p n < n) (h2 : p n = false) : fi p (n + 1) = n + 1 := by rw [fi, if_neg h, if_neg (by rw [h2]; decide)]
theorem fi_le (p : Nat → Bool) : ∀ n, fi p n ≤ n
  | 0 => Nat.le_refl _
  | n + 1 => by
    have := fi_le p n
    unfold fi
    split
    · omega
    · split <;> omega
theorem fi_p {p : Nat → Bool} : ∀ {n}, fi p n < n → p (fi p n) = true
  | 0, h => absurd h (Nat.not_lt_zero _)
  | n + 1, h => by
    by_cases h1 : fi p n < n
    · rw [fi_some h1]; exact fi_p h1
    · by_cases h2 : p n = true
      · rw [fi_new h1 h2]; exact h2
      · rw [fi_non h1 (by simpa using h2)] at h
        omega
theorem fi_no {p : Nat → Bool} : ∀ {n j}, j < fi p n → p j = false
  | 0, j, h => absurd h (Nat.not_lt_zero _)
  | n + 1, j, h => by
    by_cases h1 : fi p n < n
    · rw [fi_some h1] at h; exact fi_no h
    · have h3 : fi p n = n := by have := fi_le p n; omega
      by_cases h2 : p n = true
      · rw [fi_new h1 h2] at h; exact fi_no (n := n) (by omega)
      · rw [fi_non h1 (by simpa using h2)] at h
        by_cases e : j = n
        · rw [e]; simpa using h2
        · exact fi_no (n := n) (by omega)
theorem fi_eq {p : Nat → Bool} {n i : Nat} (h : ∀ j, j < i → p j = false) (h2 : p i = true) (h3 : i < n) : fi p n = i := by
  rcases Nat.lt_or_ge (fi p n) i with q | q
  · have := fi_p (p := p) (n := n) (by omega)
    rw [h _ q] at this
    cases this
  · rcases Nat.lt_or_ge i (fi p n) with q2 | q2
    · rw [fi_no q2] at h2
      cases h2
    · omega
theorem fi_none {p : Nat → Bool} {n : Nat} (h : ∀ j, j < n → p j = false) : fi p n = n := by
  have h1 := fi_le p n
  rcases Nat.lt_or_ge (fi p n) n with q | q
  · have := fi_p q
    rw [h _ q] at this
    cases this
  · omega
theorem fi_cong {p q : Nat → Bool} : ∀ {n}, (∀ j, j < n → p j = q j) → fi p n = fi q n
  | 0, _ => rfl
  | n + 1, h => by rw [fi, fi, fi_cong (fun j hj => h j (by omega)), h n (by omega)]
def cntF (p : Nat → Bool) : Nat → Nat
  | 0 => 0
  | n + 1 => cntF p n + (if p n = true then 1 else 0)
theorem cnt_y {p : Nat → Bool} {n w : Nat} (h : w = cntF p n) (h2 : p n = true) : w + 1 = cntF p (n + 1) := by rw [cntF, if_pos h2, h]
theorem cnt_n {p : Nat → Bool} {n w : Nat} (h : w = cntF p n) (h2 : p n = false) : w = cntF p (n + 1) := by rw [cntF, if_neg (by rw [h2]; decide), h]; rfl
theorem cnt_le (p : Nat → Bool) : ∀ n, cntF p n ≤ n
  | 0 => Nat.le_refl _
  | n + 1 => by
    have := cnt_le p n
    unfold cntF
    split <;> omega
def grN (gr : Nat → Nat) (k : Nat) : Nat := cntF (fun u => decide (gr u = u)) k
def szN (gr : Nat → Nat) (k u : Nat) : Nat := cntF (fun v => decide (gr v = gr u)) k
/-- the new leader of a leader -/
def nlN (z : Nat → Int32) (gr : Nat → Nat) (y u : Nat) : Nat := if plC z u y = -1 then u else fi (fun v => decide (gr v = v ∧ plC z v y = plC z u y)) u
def grS (z : Nat → Int32) (gr : Nat → Nat) (y : Nat) : Nat → Nat := fun w => nlN z gr y (gr w)
theorem nl_le (z : Nat → Int32) (gr : Nat → Nat) (y u : Nat) : nlN z gr y u ≤ u := by
  unfold nlN
  split
  · exact Nat.le_refl _
  · exact fi_le _ _
/-- behind the first i users: who goes with whom; who leads on a channel -/
def gI (z : Nat → Int32) (gr : Nat → Nat) (y i : Nat) : Nat → Nat := fun w => if gr w < i then nlN z gr y (gr w) else gr w
def pI (z : Nat → Int32) (gr : Nat → Nat) (y c : Nat) : Nat → Bool := fun v => decide (gr v = v ∧ plC z v y = nI c)
def fI (z : Nat → Int32) (gr : Nat → Nat) (y i : Nat) : Nat → Int32 := fun c => if fi (pI z gr y c) i < i then nI (fi (pI z gr y c) i) else -1
theorem fI_0 (z : Nat → Int32) (gr : Nat → Nat) (y c : Nat) : fI z gr y 0 c = -1 := if_neg (Nat.not_lt_zero _)
theorem gI_0 (z : Nat → Int32) (gr : Nat → Nat) (y w : Nat) : gI z gr y 0 w = gr w := if_neg (Nat.not_lt_zero _)
theorem fI_keep {z : Nat → Int32} {gr : Nat → Nat} {y i c : Nat} (h : pI z gr y c i = false) : fI z gr y (i + 1) c = fI z gr y i c := by
  unfold fI
  by_cases h1 : fi (pI z gr y c) i < i
  · rw [fi_some h1, if_pos h1, if_pos (by omega)]
  · rw [fi_non h1 h, if_neg h1, if_neg (by omega)]
theorem gI_keep {z : Nat → Int32} {gr : Nat → Nat} {y i w : Nat} (h : gr w = i → nlN z gr y i = i) : gI z gr y (i + 1) w = gI z gr y i w := by
  unfold gI
  by_cases h1 : gr w < i
  · rw [if_pos h1, if_pos (by omega)]
  · rw [if_neg h1]
    split
    next h2 =>
      have e : gr w = i := by omega
      rw [e]; exact h e
    next h2 => rfl
/-- a user that leads nobody new -/
theorem slot_skip {z : Nat → Int32} {gr : Nat → Nat} {y i : Nat} (hg : ∀ w, gr (gr w) = gr w) (h : ¬ gr i = i) : (∀ w, gI z gr y (i + 1) w = gI z gr y i w) ∧ ∀ c, fI z gr y (i + 1) c = fI z gr y i c :=
  ⟨fun w => gI_keep (fun e => absurd (by rw [← e]; exact hg w) h), fun c => fI_keep (decide_eq_false (fun q => h q.1))⟩
theorem slot_none {z : Nat → Int32} {gr : Nat → Nat} {y i : Nat} (h : plC z i y = -1) : (∀ w, gI z gr y (i + 1) w = gI z gr y i w) ∧ ∀ c, c < 10 → fI z gr y (i + 1) c = fI z gr y i c :=
  ⟨fun w => gI_keep (fun _ => if_pos h), fun c hc => fI_keep (decide_eq_false (fun q => nI_m1 (by omega) (q.2.symm.trans h)))⟩
theorem nl_pI {z : Nat → Int32} {gr : Nat → Nat} {y i c0 : Nat} (hp : plC z i y = nI c0) (hc0 : c0 < 10) : nlN z gr y i = fi (pI z gr y c0) i := by
  unfold nlN pI
  rw [if_neg (by rw [hp]; exact nI_m1 (by omega)), hp]
theorem slot_first {z : Nat → Int32} {gr : Nat → Nat} {y i c0 : Nat} (hg : gr i = i) (hp : plC z i y = nI c0) (hc0 : c0 < 10) (h : fI z gr y i c0 = -1) (hi : i < 10) : (∀ w, gI z gr y (i + 1) w = gI z gr y i w) ∧ ∀ c, c < 10 → fI z gr y (i + 1) c = upd (fI z gr y i) c0 (nI i) c := by
  have h1 : ¬ fi (pI z gr y c0) i < i := by
    intro q
    unfold fI at h
    rw [if_pos q] at h
    exact nI_m1 (by omega) h
  have h2 : fi (pI z gr y c0) i = i := by have := fi_le (pI z gr y c0) i; omega
  refine ⟨fun w => gI_keep (fun _ => by rw [nl_pI hp hc0, h2]), fun c hc => ?_⟩
  by_cases e : c = c0
  · subst e
    rw [pk_us]
    unfold fI
    rw [fi_new h1 (decide_eq_true ⟨hg, hp⟩), if_pos (by omega)]
  · rw [pk_un e]
    exact fI_keep (decide_eq_false (fun q => e ((nI_eq (by omega) (by omega)).mp (q.2.symm.trans hp))))
theorem slot_join {z : Nat → Int32} {gr : Nat → Nat} {y i c0 L : Nat} (hp : plC z i y = nI c0) (hc0 : c0 < 10) (h : fI z gr y i c0 = nI L) (hL : L < 10) (hi : i < 10) : (∀ w, gI z gr y (i + 1) w = if gI z gr y i w = i then L else gI z gr y i w) ∧ ∀ c, c < 10 → fI z gr y (i + 1) c = fI z gr y i c := by
  have h1 : fi (pI z gr y c0) i < i := by
    apply Decidable.byContradiction
    intro q
    unfold fI at h
    rw [if_neg q] at h
    exact nI_m1 (by omega) h.symm
  have h2 : fi (pI z gr y c0) i = L := by
    unfold fI at h
    rw [if_pos h1] at h
    exact (nI_eq (by omega) (by omega)).mp h
  have h3 : nlN z gr y i = L := by rw [nl_pI hp hc0, h2]
  refine ⟨fun w => ?_, fun c hc => ?_⟩
  · unfold gI
    by_cases q : gr w < i
    · rw [if_pos q, if_pos (by omega)]
      have := nl_le z gr y (gr w)
      rw [if_neg (by omega)]
    · rw [if_neg q]
      by_cases e : gr w = i
      · rw [if_pos (by omega), if_pos e, e, h3]
      · rw [if_neg (by omega), if_neg e]
  · by_cases e : c = c0
    · subst e
      unfold fI
      rw [fi_some h1, if_pos h1, if_pos (by omega)]
    · exact fI_keep (decide_eq_false (fun q => e ((nI_eq (by omega) (by omega)).mp (q.2.symm.trans hp))))
/-- the picture of Groups -/
def Gq (G : va_G) (t : gT) (a : Nat) (gr : Nat → Nat) (sl k : Nat) (fo : Nat → Int32) (H : Heap) : Prop := ∃ (fl f2 : Nat → Int32), at_ G a (.inr (0, [.int (nI sl), .int (nI k), .ref (a + 1), .ref (a + 2)])) H ∧ at_ G (a + 1) (aI t 5 fl) H ∧ at_ G (a + 2) (aI t 10 f2) H ∧ (∀ u, u < k → fl u = nI (gr u)) ∧ ∀ c, c < 10 → f2 c = fo c
def Gp (G : va_G) (t : gT) (a : Nat) (gr : Nat → Nat) (sl k : Nat) (H : Heap) : Prop := ∃ fo, Gq G t a gr sl k fo H
theorem Gq_congr {G : va_G} {t : gT} {a : Nat} {gr gr2 : Nat → Nat} {sl k : Nat} {fo fo2 : Nat → Int32} {H : Heap} (h : Gq G t a gr sl k fo H) (h1 : ∀ u, u < k → gr u = gr2 u) (h2 : ∀ c, c < 10 → fo c = fo2 c) : Gq G t a gr2 sl k fo2 H := by
  obtain ⟨fl, f2, q0, q1, q2, q3, q4⟩ := h
  exact ⟨fl, f2, q0, q1, q2, fun u hu => by rw [q3 u hu, h1 u hu], fun c hc => by rw [q4 c hc, h2 c hc]⟩
theorem Gp_congr {G : va_G} {t : gT} {a : Nat} {gr gr2 : Nat → Nat} {sl k : Nat} {H : Heap} (h : Gp G t a gr sl k H) (h1 : ∀ u, u < k → gr u = gr2 u) : Gp G t a gr2 sl k H := by
  obtain ⟨fo, h⟩ := h
  exact ⟨fo, Gq_congr h h1 (fun _ _ => rfl)⟩
theorem Gp_kept {G : va_G} {t : gT} {a : Nat} {gr : Nat → Nat} {sl k : Nat} {H H1 : Heap} (h : Gp G t a gr sl k H) (hk : ∀ q, a ≤ q → q < a + 3 → H1[q]? = H[q]?) : Gp G t a gr sl k H1 := by
  obtain ⟨fo, fl, f2, q0, q1, q2, q3, q4⟩ := h
  exact ⟨fo, fl, f2, at_kept q0 (hk _ (by omega) (by omega)), at_kept q1 (hk _ (by omega) (by omega)), at_kept q2 (hk _ (by omega) (by omega)), q3, q4⟩
theorem Gp_lt {G : va_G} {t : gT} {a : Nat} {gr : Nat → Nat} {sl k : Nat} {H : Heap} (h : Gp G t a gr sl k H) : a + 3 ≤ H.size := by
  obtain ⟨fo, fl, f2, q0, q1, q2, q3, q4⟩ := h
  have e : a + 2 < H.size := va_at.lt q2
  omega
theorem Gp_keptA {G : va_G} {t : gT} {a : Nat} {gr : Nat → Nat} {sl k : Nat} {H H1 : Heap} {A : Nat → Prop} (h : Gp G t a gr sl k H) (hk : ∀ q : Nat, q < H.size → ¬ A q → H1[q]? = H[q]?) (ha : ∀ q, a ≤ q → q < a + 3 → ¬ A q) : Gp G t a gr sl k H1 := by
  have hz := Gp_lt h
  exact Gp_kept h (fun q h1 h2 => hk q (by omega) (ha q h1 h2))
theorem jo_ext {f g : Nat → Int32} {i : Nat} (h : ∀ u, u < i → f u = g u) (hx : f i = g i) : ∀ u, u < i + 1 → f u = g u := fun u hu => by
  rcases Nat.lt_succ_iff_lt_or_eq.mp hu with q | q
  · exact h u q
  · rw [q]; exact hx
theorem up_cong {f g : Nat → Int32} {n i : Nat} {x : Int32} (h : ∀ c, c < n → f c = g c) : ∀ c, c < n → upd f i x c = upd g i x c := fun c hc => by
  by_cases e : c = i
  · rw [e, pk_us, pk_us]
  · rw [pk_un e, pk_un e]; exact h c hc
theorem gI_le (z : Nat → Int32) (gr : Nat → Nat) (y i w : Nat) : gI z gr y i w ≤ gr w := by
  unfold gI
  split
  · exact nl_le z gr y (gr w)
  · exact Nat.le_refl _
theorem gI_lead {z : Nat → Int32} {gr : Nat → Nat} {y : Nat} (hg : ∀ u, gr u ≤ u) (i : Nat) : gI z gr y i i = i ↔ gr i = i := by
  unfold gI
  have h1 := hg i
  have h2 := nl_le z gr y (gr i)
  split <;> constructor <;> intro h <;> omega
theorem gI_end {z : Nat → Int32} {gr : Nat → Nat} {y k : Nat} (hg : ∀ u, gr u ≤ u) {u : Nat} (hu : u < k) : gI z gr y k u = grS z gr y u := by
  have h1 := hg u
  unfold gI grS
  rw [if_pos (by omega)]
theorem WF.plc {z : Nat → Int32} (h : WF z) {u : Nat} (hu : u < cu z) (y : Nat) : plC z u y = -1 ∨ ∃ c, c < cn z ∧ plC z u y = nI c := by
  unfold plC
  split
  · exact Or.inl rfl
  · split
    · exact Or.inl rfl
    · split
      · exact Or.inl rfl
      · exact h.pl hu _
theorem slot_case {z : Nat → Int32} {gr : Nat → Nat} {y i k : Nat} (hz : WF z) (hi : i < cu z) (h : gr i = i) : (plC z i y = -1 ∧ (∀ w, w < k → gI z gr y (i + 1) w = gI z gr y i w) ∧ ∀ c, c < 10 → fI z gr y (i + 1) c = fI z gr y i c) ∨
    (∃ c0, c0 < 10 ∧ plC z i y = nI c0 ∧ fI z gr y i c0 = -1 ∧ (∀ w, w < k → gI z gr y (i + 1) w = gI z gr y i w) ∧ ∀ c, c < 10 → fI z gr y (i + 1) c = upd (fI z gr y i) c0 (nI i) c) ∨
    ∃ c0 L, c0 < 10 ∧ L < 5 ∧ plC z i y = nI c0 ∧ fI z gr y i c0 = nI L ∧ (∀ w, w < k → gI z gr y (i + 1) w = if gI z gr y i w = i then L else gI z gr y i w) ∧ ∀ c, c < 10 → fI z gr y (i + 1) c = fI z gr y i c := by
  have h5 := hz.u5
  have hn := hz.n
  rcases hz.plc hi y with hp | ⟨c0, hc0, hp⟩
  · exact Or.inl ⟨hp, fun w _ => (slot_none hp).1 w, (slot_none hp).2⟩
  · by_cases q : fi (pI z gr y c0) i < i
    · have hf : fI z gr y i c0 = nI (fi (pI z gr y c0) i) := if_pos q
      have hj := slot_join (gr := gr) hp (by omega) hf (by omega) (by omega)
      exact Or.inr (Or.inr ⟨c0, _, by omega, by omega, hp, hf, fun w _ => hj.1 w, hj.2⟩)
    · have hf : fI z gr y i c0 = -1 := if_neg q
      have hj := slot_first h hp (by omega) hf (by omega)
      exact Or.inr (Or.inl ⟨c0, by omega, hp, hf, fun w _ => hj.1 w, hj.2⟩)
