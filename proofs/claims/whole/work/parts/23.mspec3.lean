/-! the reference: what its changes rest on -/
theorem sh_eq {ch : Int32} {n : Nat} (h : 1 ≤ n) (h2 : n ≤ 10) : inB ch (nI 0) (nI (n - 1)) = decide (0 ≤ ch ∧ ch < nI n) := by
  unfold inB
  refine decide_eq_decide.mpr ⟨fun q => ⟨q.1, ?_⟩, fun q => ⟨q.1, ?_⟩⟩
  · have q2 := q.2
    rw [Int32.le_iff_toInt_le, nI_toInt (by omega)] at q2
    rw [Int32.lt_iff_toInt_lt, nI_toInt (by omega)]
    omega
  · have q2 := q.2
    rw [Int32.lt_iff_toInt_lt, nI_toInt (by omega)] at q2
    rw [Int32.le_iff_toInt_le, nI_toInt (by omega)]
    omega
theorem sh_in {u ch : Int32} {z : Nat → Int32} (hz : WF z) (h1 : u = -1 ∨ usB z u = true) (h : inB ch (nI 0) (nI (cn z - 1)) = true) : okShut u ch z = true := by
  have hn := hz.n
  rw [sh_eq (by omega) hn.2] at h
  unfold okShut
  rw [h, Bool.and_true, Bool.or_eq_true]
  rcases h1 with q | q
  · exact Or.inl (decide_eq_true q)
  · exact Or.inr q
theorem sh_in0 {u ch : Int32} {z : Nat → Int32} (hz : WF z) (h : inB ch (nI 0) (nI (cn z - 1)) = false) : okShut u ch z = false := by
  have hn := hz.n
  rw [sh_eq (by omega) hn.2] at h
  unfold okShut
  rw [h, Bool.and_false]
theorem s5_s {z : Nat → Int32} {u ch x y : Int32} (h : WF z) : upd (upd (upd (upd z (28 + 4 * cs z) u) (28 + 4 * cs z + 1) ch) (28 + 4 * cs z + 2) x) (28 + 4 * cs z + 3) y 2 = nI (cs z) := by
  rw [pk_un (by omega), pk_un (by omega), pk_un (by omega), pk_un (by omega)]
  exact h.2.2.1.1
theorem sp_2 {z : Nat → Int32} {u ch x y : Int32} : zSpell z u ch x y 2 = nI (cs z + 1) := by unfold zSpell; rw [pk_us]
theorem und1 {bc : Nat} {fB z : Nat → Int32} {bk : Nat → Nat → Int32} (hb : 0 < bc) (e1 : ∀ j, j < bc → ∀ k, k < 60 → fB (60 * (bc - 1 - j) + k) = bk j k) : ∀ k, k < 60 → cpF fB z (60 * (bc - 1)) 0 60 k = bk 0 k := fun k hk => by
  have h := cpF_in (f := fB) (g := z) (x := 60 * (bc - 1)) (y := 0) (k := 60) hk
  rw [Nat.zero_add] at h
  rw [h]
  exact e1 0 hb k hk
theorem und2 {bc : Nat} {fB : Nat → Int32} {bk : Nat → Nat → Int32} (e1 : ∀ j, j < bc → ∀ k, k < 60 → fB (60 * (bc - 1 - j) + k) = bk j k) : ∀ j, j < bc - 1 → ∀ k, k < 60 → fB (60 * (bc - 1 - 1 - j) + k) = bk (j + 1) k := fun j hj k hk => by
  rw [← e1 (j + 1) (by omega) k hk, show bc - 1 - 1 - j = bc - 1 - (j + 1) by omega]
theorem kee2 {kp : Nat → Bool} {im : Nat → Nat → Int32} {fI z : Nat → Int32} {j : Nat} (hj : j < 2) (e : ∀ i, i < 2 → kp i = true → ∀ k, k < 60 → fI (60 * i + k) = im i k) : ∀ i, i < 2 → va_up kp j true i = true → ∀ k, k < 60 → cpF z fI 0 (60 * j) 60 (60 * i + k) = va_up im j z i k := fun i hi hk k hk2 => by
  by_cases q : i = j
  · subst q
    rw [va_up_self, cpF_in hk2, Nat.zero_add]
  · rw [va_up_ne _ _ q] at hk
    rw [va_up_ne _ _ q, cpF_out (by omega)]
    exact e i hi hk k hk2
theorem bac1 {fI z : Nat → Int32} {im : Nat → Nat → Int32} {kp : Nat → Bool} {j : Nat} (hj : j < 2) (hk : kp j = true) (e : ∀ i, i < 2 → kp i = true → ∀ k, k < 60 → fI (60 * i + k) = im i k) : ∀ k, k < 60 → cpF fI z (60 * j) 0 60 k = im j k := fun k hk2 => by
  have h := cpF_in (f := fI) (g := z) (x := 60 * j) (y := 0) (k := 60) hk2
  rw [Nat.zero_add] at h
  rw [h]
  exact e j hj hk k hk2
theorem PM_congr {G : va_G} {t : gT} {d : Nat} {z : Nat → Int32} {gr g2 : Nat → Nat} {sl bc : Nat} {bk : Nat → Nat → Int32} {kp : Nat → Bool} {im : Nat → Nat → Int32} {H : Heap} (h : PM G t d (z, gr, sl, bc, bk, kp, im) H) (e : ∀ u, u < cu z → gr u = g2 u) : PM G t d (z, g2, sl, bc, bk, kp, im) H := by
  obtain ⟨lo, fB, fI, fG, fM, h0, h1, h2, h3, h4, h5, h6, e1, e2, e3⟩ := h
  exact PM_mk h0 h1 h2 h3 h4 h5 h6 e1 e2 (fun u hu => (e3 u hu).trans (congrArg nI (e u hu)))
theorem tm_0 {z : Nat → Int32} {u n q : Nat} (h : uO z u = 0) (hq : q < 10) : tmN z u n q = 0 := by
  unfold tmN
  induction n with
  | zero => rfl
  | succ n ih => rw [cntF, ih, if_neg (fun r => nI_m1 (n := q) (by omega) ((of_decide_eq_true r).symm.trans (plN_0 h)))]
/-- joined -/
def jnN (g : Nat → Nat) (a b : Nat) : Nat → Nat := fun w => if g w = b then a else g w
theorem jn_y {g : Nat → Nat} {a b i n : Nat} {f : Nat → Int32} (h : ∀ w, w < n → f w = nI (if w < i then jnN g a b w else g w)) (e : g i = b) : ∀ w, w < n → upd f i (nI a) w = nI (if w < i + 1 then jnN g a b w else g w) := fun w hw => by
  by_cases q : w = i
  · subst q
    rw [pk_us, if_pos (Nat.lt_succ_self _), jnN, if_pos e]
  · rw [pk_un q, h w hw]
    by_cases r : w < i
    · rw [if_pos r, if_pos (by omega)]
    · rw [if_neg r, if_neg (by omega)]
theorem jn_n {g : Nat → Nat} {a b i n : Nat} {f : Nat → Int32} (h : ∀ w, w < n → f w = nI (if w < i then jnN g a b w else g w)) (e : ¬ g i = b) : ∀ w, w < n → upd f i (nI (g i)) w = nI (if w < i + 1 then jnN g a b w else g w) := fun w hw => by
  by_cases q : w = i
  · subst q
    rw [pk_us, if_pos (Nat.lt_succ_self _), jnN, if_neg e]
  · rw [pk_un q, h w hw]
    by_cases r : w < i
    · rw [if_pos r, if_pos (by omega)]
    · rw [if_neg r, if_neg (by omega)]
theorem mI_le {z : Nat → Int32} {gr : Nat → Nat} {y u w : Nat} (hg : ∀ u, gr u ≤ u) : mI z gr y u w ≤ w := by
  have h1 := hg w
  have h2 := nl_le z gr y (gr w)
  unfold mI
  split <;> omega
theorem mJ_le {z : Nat → Int32} {gr : Nat → Nat} {y u v w : Nat} (hg : ∀ u, gr u ≤ u) : mJ z gr y u v w ≤ w := by
  have h1 := hg w
  have h2 := nl_le z gr y (gr w)
  unfold mJ
  split
  · omega
  · split <;> omega
theorem mI_0 {z : Nat → Int32} {gr : Nat → Nat} {y w : Nat} : gr w = mI z gr y 0 w := (if_neg (Nat.not_lt_zero _)).symm
theorem mI_J {z : Nat → Int32} {gr : Nat → Nat} {y u w : Nat} : mI z gr y u w = mJ z gr y u (u + 1) w := by
  have h2 := nl_le z gr y (gr w)
  unfold mI mJ
  by_cases q : nlN z gr y (gr w) < u
  · rw [if_pos q, if_pos q]
  · rw [if_neg q, if_neg q]
    by_cases r : nlN z gr y (gr w) = u ∧ gr w < u + 1
    · rw [if_pos r]; omega
    · rw [if_neg r]
theorem mJ_end {z : Nat → Int32} {gr : Nat → Nat} {y u v w : Nat} (hg : ∀ u, gr u ≤ u) (hv : w < v) : mJ z gr y u v w = mI z gr y (u + 1) w := by
  have h1 := hg w
  unfold mI mJ
  by_cases q : nlN z gr y (gr w) < u
  · rw [if_pos q, if_pos (by omega)]
  · rw [if_neg q]
    by_cases r : nlN z gr y (gr w) = u
    · rw [if_pos ⟨r, by omega⟩, if_pos (by omega), r]
    · rw [if_neg (fun h => r h.1), if_neg (by omega)]
theorem mI_end {z : Nat → Int32} {gr : Nat → Nat} {y u w : Nat} (hg : ∀ u, gr u ≤ u) (hv : w < u) : mI z gr y u w = grS z gr y w := by
  have h1 := hg w
  have h2 := nl_le z gr y (gr w)
  exact if_pos (by omega)
/-- what u has, where it leads itself -/
theorem mJ_u {z : Nat → Int32} {gr : Nat → Nat} {y u v : Nat} (hg : ∀ u, gr u ≤ u) (h : mJ z gr y u v u = u) : gr u = u ∧ nlN z gr y u = u := by
  have h1 := hg u
  have h2 := nl_le z gr y (gr u)
  unfold mJ at h
  by_cases q : nlN z gr y (gr u) < u
  · rw [if_pos q] at h; omega
  · have e : gr u = u := by omega
    rw [e] at q h2
    exact ⟨e, by omega⟩
theorem mJ_u0 {z : Nat → Int32} {gr : Nat → Nat} {y u v w : Nat} (hg : ∀ u, gr u ≤ u) (hg2 : ∀ u, gr (gr u) = gr u) (hv : u < v) (h : ¬ mJ z gr y u v u = u) : mJ z gr y u v w = mI z gr y (u + 1) w := by
  have h1 := hg u
  have h2 := nl_le z gr y (gr u)
  have h3 : nlN z gr y (gr u) < u := by
    apply Decidable.byContradiction
    intro q
    have e : gr u = u := by omega
    have e2 : nlN z gr y (gr u) = u := by omega
    apply h
    unfold mJ
    rw [if_neg q, if_pos ⟨e2, by omega⟩]
  have h4 : ¬ nlN z gr y (gr w) = u := fun q => by
    have := grS_idem (z := z) (y := y) hg2 w
    unfold grS at this
    rw [q] at this
    omega
  unfold mJ mI
  by_cases q : nlN z gr y (gr w) < u
  · rw [if_pos q, if_pos (by omega)]
  · rw [if_neg q, if_neg (fun r => h4 r.1), if_neg (by omega)]
theorem nl_pl {z : Nat → Int32} {gr : Nat → Nat} {y u v : Nat} (hv : u < v) (h : nlN z gr y v = u) : gr u = u ∧ meB z u v y = true := by
  unfold nlN at h
  by_cases q : plC z v y = -1
  · rw [if_pos q] at h; omega
  · rw [if_neg q] at h
    have h2 := of_decide_eq_true (fi_p (p := fun w => decide (gr w = w ∧ plC z w y = plC z v y)) (n := v) (by rw [h]; exact hv))
    rw [h] at h2
    exact ⟨h2.1, decide_eq_true ⟨fun r => q (h2.2.symm.trans r), h2.2⟩⟩
theorem mJ_no {z : Nat → Int32} {gr : Nat → Nat} {y u v w : Nat} (hg : ∀ u, gr u ≤ u) (hg2 : ∀ u, gr (gr u) = gr u) (hv : u < v) (h : ¬ mJ z gr y u v v = v ∨ meB z u v y = false) : mJ z gr y u v w = mJ z gr y u (v + 1) w := by
  have key : ¬ (nlN z gr y (gr w) = u ∧ gr w = v) := fun q => by
    obtain ⟨q1, q2⟩ := q
    rw [q2] at q1
    have e : gr v = v := by rw [← q2]; exact hg2 w
    rcases h with h | h
    · apply h
      unfold mJ
      rw [e, q1, if_neg (Nat.lt_irrefl _), if_neg (fun r => Nat.lt_irrefl _ r.2)]
    · rw [(nl_pl hv q1).2] at h
      cases h
  unfold mJ
  by_cases q : nlN z gr y (gr w) < u
  · rw [if_pos q, if_pos q]
  · rw [if_neg q, if_neg q]
    by_cases r : nlN z gr y (gr w) = u ∧ gr w < v
    · rw [if_pos r, if_pos ⟨r.1, by omega⟩]
    · rw [if_neg r, if_neg (fun s => by have : gr w = v ∨ gr w < v := by omega
                                        rcases this with a | a
                                        · exact key ⟨s.1, a⟩
                                        · exact r ⟨s.1, a⟩)]
theorem fi_at {p : Nat → Bool} {n j : Nat} (hj : j < n) (h : p j = true) : fi p n ≤ j := by
  rcases Nat.lt_or_ge j (fi p n) with q | q
  · rw [fi_no q] at h; cases h
  · exact q
theorem mJ_yes {z : Nat → Int32} {gr : Nat → Nat} {y u v w : Nat} (hg : ∀ u, gr u ≤ u) (hg2 : ∀ u, gr (gr u) = gr u) (hv : u < v) (hu : mJ z gr y u v u = u) (h : mJ z gr y u v v = v) (hm : meB z u v y = true) : jnN (mJ z gr y u v) u v w = mJ z gr y u (v + 1) w := by
  obtain ⟨u1, u2⟩ := mJ_u hg hu
  obtain ⟨m1, m2⟩ := of_decide_eq_true hm
  have hgv := hg v
  have v1 : ¬ nlN z gr y (gr v) < u := fun q => by
    unfold mJ at h
    rw [if_pos q] at h
    omega
  have v2 : gr v = v := by
    unfold mJ at h
    rw [if_neg v1] at h
    by_cases q : nlN z gr y (gr v) = u ∧ gr v < v
    · rw [if_pos q] at h; omega
    · rw [if_neg q] at h; exact h
  rw [v2] at v1
  have v3 : nlN z gr y v = u := by
    have h5 : nlN z gr y v = fi (fun w => decide (gr w = w ∧ plC z w y = plC z v y)) v := if_neg (fun q => m1 (m2.trans q))
    have h6 := fi_at (p := fun w => decide (gr w = w ∧ plC z w y = plC z v y)) hv (decide_eq_true ⟨u1, m2⟩)
    omega
  unfold jnN
  by_cases q : nlN z gr y (gr w) < u
  · have e : mJ z gr y u v w = nlN z gr y (gr w) := if_pos q
    have e2 : mJ z gr y u (v + 1) w = nlN z gr y (gr w) := if_pos q
    rw [e, e2, if_neg (by omega)]
  · by_cases r : nlN z gr y (gr w) = u ∧ gr w < v + 1
    · have e2 : mJ z gr y u (v + 1) w = u := (if_neg q).trans (if_pos r)
      rw [e2]
      by_cases a : gr w < v
      · have e : mJ z gr y u v w = u := (if_neg q).trans (if_pos ⟨r.1, a⟩)
        rw [e, if_neg (by omega)]
      · have e : mJ z gr y u v w = gr w := (if_neg q).trans (if_neg (fun s => a s.2))
        rw [e, if_pos (by omega)]
    · have e2 : mJ z gr y u (v + 1) w = gr w := (if_neg q).trans (if_neg r)
      have e : mJ z gr y u v w = gr w := (if_neg q).trans (if_neg (fun s => r ⟨s.1, by omega⟩))
      rw [e, e2]
      by_cases a : gr w = v
      · exfalso
        apply r
        rw [a]
        exact ⟨v3, by omega⟩
      · rw [if_neg a]
theorem u4_c {z : Nat → Int32} {r x y w : Int32} : cn (u4N z r x y w) = cn z := cn_low (u4_lo (Or.inl (by omega)))
theorem dr_fin {G : va_G} {t : gT} {d : Nat} {z : Nat → Int32} {gr : Nat → Nat} {sl bc : Nat} {bk : Nat → Nat → Int32} {kp : Nat → Bool} {im : Nat → Nat → Int32} {x : Int32} {i j : Nat} {H : Heap} (ei : i = cu z) (c1 : inB x (nI 1) (nI 999999) = true) (c2 : ¬ cu z = 0) (ej : cl x = j) (h : PM G t d (zDrift z j i, idN, 0, inc12 bc, push bk z, kp, im) H) : nI (comN (zDrift z j i) (cu (zDrift z j i))) = rDrift x z ∧ PM G t d (oDrift x z gr sl bc bk kp im) H := by
  rw [ei] at h ⊢
  unfold rDrift oDrift
  rw [c1, decide_eq_false c2, ej, zDrift_u]
  exact ⟨rfl, h⟩
