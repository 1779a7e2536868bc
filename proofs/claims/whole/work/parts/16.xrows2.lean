/-! HopMeet: rows for what changes it -/
theorem PX_mk {G : va_G} {t : gT} {b : Nat} {z : Nat → Int32} {gr : Nat → Nat} {sl bc : Nat} {bk : Nat → Nat → Int32} {kp : Nat → Bool} {im jm : Nat → Nat → Int32} {H : Heap} (x0 : at_ G b (.inr (3, [.ref (b + 1), .ref (b + 17), .ref (b + 211), .ref (b + 244), .ref (b + 245), .ref (b + 248), .ref (b + 249), .ref (b + 250)])) H) (x1 : Sc G t (b + 1) z H) (x2 : Pa G t (b + 17) bc bk H)
    (x3 : at_ G (b + 211) (aQ t 2 (rowsG 2 (b + 212))) H) (x4 : ∀ i, i < 2 → Sc G t (b + 212 + 16 * i) (jm i) H) (x5 : ∀ i, i < 2 → kp i = true → jm i = im i) (x6 : at_ G (b + 244) (aZ t 2 (fun i => bI (kp i))) H) (x7 : Gp G t (b + 245) gr sl (cu z) H) (x8 : ∃ f, at_ G (b + 248) (aI t 1700 f) H) (x9 : ∃ f, at_ G (b + 249) (aI t 1500 f) H) (x10 : ∃ f, at_ G (b + 250) (aI t 10 f) H) : PX G t b (z, gr, sl, bc, bk, kp, im) H := by
  show _ ∧ _
  exact ⟨x0, x1, x2, ⟨x3, jm, x4, x5⟩, x6, x7, x8, x9, x10⟩
theorem ex_keptA {G : va_G} {t : gT} {a n : Nat} {H H1 : Heap} {A : Nat → Prop} (h : ∃ f, at_ G a (aI t n f) H) (hk : ∀ q : Nat, q < H.size → ¬ A q → H1[q]? = H[q]?) (ha : ¬ A a) : ∃ f, at_ G a (aI t n f) H1 := by
  obtain ⟨f, h⟩ := h
  exact ⟨f, at_keptA h hk ha⟩
theorem ex_kept {G : va_G} {t : gT} {a n : Nat} {H H1 : Heap} (h : ∃ f, at_ G a (aI t n f) H) (hq : H1[a]? = H[a]?) : ∃ f, at_ G a (aI t n f) H1 := by
  obtain ⟨f, h⟩ := h
  exact ⟨f, at_kept h hq⟩
theorem and_f1 {a b : Bool} (h : a = false) : (a && b) = false := by rw [h]; rfl
theorem and_f2 {a b : Bool} (h : b = false) : (a && b) = false := by rw [h, Bool.and_false]
theorem and_t {a b : Bool} (h : a = true) (h2 : b = true) : (a && b) = true := by rw [h, h2]; rfl
theorem mh_ib {k : Nat} (hk : k ≤ 3) (v : Int32) : mhB (nI k) v = ibB (nI k) v := by
  unfold mhB
  rw [in_N (by decide) (Nat.zero_le _) hk, Bool.true_and]
theorem okU_t {r x y w : Int32} (h0 : mhB (nI 0) r = true) (h1 : mhB (nI 1) x = true) (h2 : mhB (nI 2) y = true) (h3 : mhB (nI 3) w = true) : okUser r x y w = true := by
  rw [mh_ib (by decide)] at h0 h1 h2 h3
  exact and_t h0 (and_t h1 (and_t h2 h3))
theorem okU_f0 {r x y w : Int32} (h0 : mhB (nI 0) r = false) : okUser r x y w = false := by
  rw [mh_ib (by decide)] at h0
  exact and_f1 h0
theorem okU_f1 {r x y w : Int32} (h1 : mhB (nI 1) x = false) : okUser r x y w = false := by
  rw [mh_ib (by decide)] at h1
  exact and_f2 (and_f1 h1)
theorem okU_f2 {r x y w : Int32} (h2 : mhB (nI 2) y = false) : okUser r x y w = false := by
  rw [mh_ib (by decide)] at h2
  exact and_f2 (and_f2 (and_f1 h2))
theorem okU_f3 {r x y w : Int32} (h3 : mhB (nI 3) w = false) : okUser r x y w = false := by
  rw [mh_ib (by decide)] at h3
  exact and_f2 (and_f2 (and_f2 h3))
theorem zSet_n {z : Nat → Int32} {k i : Nat} {v : Int32} : cn (zSet z k i v) = cn z := by
  unfold zSet
  rw [cn, zn_upd_ne (by omega)]
  rfl
theorem zSet_u {z : Nat → Int32} {k i : Nat} {v : Int32} : cu (zSet z k i v) = cu z := by
  unfold zSet
  rw [cu, zn_upd_ne (by omega)]
  rfl
theorem zSet_s {z : Nat → Int32} {k i : Nat} {v : Int32} : cs (zSet z k i v) = cs z := by
  unfold zSet
  rw [cs, zn_upd_ne (by omega)]
  rfl
theorem se_ext {z : Nat → Int32} {k i : Nat} {v : Int32} {F : Nat → Nat → Int32} (hi : i < 5) (h : ∀ j, j < cu z → ∀ w, w < 5 → F j w = z (3 + 5 * j + w)) : ∀ j, j < cu z → ∀ w, w < 5 → va_up F k (upd (F k) i v) j w = zSet z k i v (3 + 5 * j + w) := fun j hj w hw => by
  unfold zSet
  by_cases e : j = k
  · subst e
    rw [va_up_self]
    by_cases e2 : w = i
    · subst e2
      rw [pk_us, pk_us]
    · rw [pk_un e2, pk_un (by omega)]
      exact h j hj w hw
  · rw [va_up_ne _ _ e, pk_un (by omega)]
    exact h j hj w hw
theorem se_sp {z : Nat → Int32} {k i : Nat} {v : Int32} (hk : k < 5) (hi : i < 5) {F : Nat → Nat → Int32} (h : ∀ j, j < cs z → ∀ w, w < 4 → F j w = z (28 + 4 * j + w)) : ∀ j, j < cs z → ∀ w, w < 4 → F j w = zSet z k i v (28 + 4 * j + w) := fun j hj w hw => by
  unfold zSet
  rw [pk_un (by omega)]
  exact h j hj w hw
theorem sh_ok {u ch : Int32} {z : Nat → Int32} (h1 : u = -1 ∨ usB z u = true) (h2 : ¬ ch < 0) (h3 : ch < nI (cn z)) : okShut u ch z = true := by
  refine and_t ?_ (decide_eq_true ⟨Int32.not_lt.mp h2, h3⟩)
  rcases h1 with h | h
  · rw [decide_eq_true h]; rfl
  · rw [h, Bool.or_true]
theorem sh_f1 {u ch : Int32} {z : Nat → Int32} (h1 : ¬ u = -1) (h : usB z u = false) : okShut u ch z = false := by
  refine and_f1 ?_
  rw [decide_eq_false h1, h]; rfl
theorem sh_f2 {u ch : Int32} {z : Nat → Int32} (h : ch < 0) : okShut u ch z = false := and_f2 (decide_eq_false (fun q => Int32.not_lt.mpr q.1 h))
theorem sh_f3 {u ch : Int32} {z : Nat → Int32} (h : ¬ ch < nI (cn z)) : okShut u ch z = false := and_f2 (decide_eq_false (fun q => h q.2))
theorem fi_step {z : Nat → Int32} {a b x i : Nat} : wsT z a b x = wsT z a b x := rfl
/-- two marks of images -/
theorem kp_up {kp : Nat → Bool} {i : Nat} : upd (fun j => bI (kp j)) i (nI 1) = fun j => bI (va_up kp i true j) := by
  funext j
  by_cases e : j = i
  · subst e; rw [pk_us, va_up_self]; rfl
  · rw [pk_un e, va_up_ne _ _ e]
theorem mh_w {w v : Int32} (h : mhB w v = true) : inB w (nI 0) (nI 3) = true := by
  unfold mhB at h
  rw [Bool.and_eq_true] at h
  exact h.1
theorem im_up {kp : Nat → Bool} {jm im : Nat → Nat → Int32} {z : Nat → Int32} {j : Nat} (h : ∀ i, i < 2 → kp i = true → jm i = im i) : ∀ i, i < 2 → va_up kp j true i = true → va_up jm j z i = va_up im j z i := fun i hi hk => by
  by_cases e : i = j
  · rw [e, va_up_self, va_up_self]
  · rw [va_up_ne _ _ e] at hk
    rw [va_up_ne _ _ e, va_up_ne _ _ e]
    exact h i hi hk
/-! what is well formed stays so -/
theorem UF_mk {z : Nat → Int32} {n u ro st sp wa op : Nat} (h0 : z (3 + 5 * u) = nI ro) (b0 : ro ≤ 3) (h1 : z (3 + 5 * u + 1) = nI st) (b1 : st ≤ 99) (h2 : z (3 + 5 * u + 2) = nI sp) (b2 : sp ≤ 99) (h3 : z (3 + 5 * u + 3) = nI wa) (b3 : wa ≤ 200) (h4 : z (3 + 5 * u + 4) = nI op) (b4 : op < 2 ^ n) (hn : n ≤ 10) : UF z n u := by
  have hp := pow_le10 hn
  unfold UF uR uS uT uW uO zn
  rw [h0, h1, h2, h3, h4, nI_clamp (by omega), nI_clamp (by omega), nI_clamp (by omega), nI_clamp (by omega), nI_clamp (by omega)]
  exact ⟨⟨rfl, b0⟩, ⟨rfl, b1⟩, ⟨rfl, b2⟩, ⟨rfl, b3⟩, rfl, b4⟩
theorem UF_congr {z z2 : Nat → Int32} {n u : Nat} (h : UF z n u) (e : ∀ w, w < 5 → z2 (3 + 5 * u + w) = z (3 + 5 * u + w)) : UF z2 n u := by
  unfold UF uR uS uT uW uO zn at h ⊢
  rw [show z2 (3 + 5 * u) = z (3 + 5 * u) from e 0 (by decide), e 1 (by decide), e 2 (by decide), e 3 (by decide), e 4 (by decide)]
  exact h
theorem SF_congr {z z2 : Nat → Int32} {n j : Nat} (h : SF z n j) (e : ∀ w, w < 4 → z2 (28 + 4 * j + w) = z (28 + 4 * j + w)) : SF z2 n j := by
  unfold SF sU sC sL sM zn at h ⊢
  rw [show z2 (28 + 4 * j) = z (28 + 4 * j) from e 0 (by decide), e 1 (by decide), e 2 (by decide), e 3 (by decide)]
  exact h
theorem SF_mk {z : Nat → Int32} {n j ch x y : Nat} {u : Int32} (h0 : z (28 + 4 * j) = u) (b0 : u = -1 ∨ ∃ v, v < 5 ∧ u = nI v) (h1 : z (28 + 4 * j + 1) = nI ch) (b1 : ch < n) (h2 : z (28 + 4 * j + 2) = nI x) (b2 : x ≤ 1500) (h3 : z (28 + 4 * j + 3) = nI y) (b3 : 1 ≤ y) (b4 : y ≤ 500) (hn : n ≤ 10) : SF z n j := by
  unfold SF sU sC sL sM zn
  rw [h0, h1, h2, h3, nI_clamp (by omega), nI_clamp (by omega), nI_clamp (by omega)]
  exact ⟨b0, ⟨rfl, b1⟩, ⟨rfl, b2⟩, rfl, b3, b4⟩
theorem WF_mk {z : Nat → Int32} {n k q : Nat} (h0 : z 0 = nI n) (a0 : 2 ≤ n) (b0 : n ≤ 10) (h1 : z 1 = nI k) (b1 : k ≤ 5) (h2 : z 2 = nI q) (b2 : q ≤ 8) (h3 : ∀ u, u < k → UF z n u) (h4 : ∀ j, j < q → SF z n j) : WF z := by
  have e0 : cn z = n := by unfold cn zn; rw [h0, nI_clamp (by omega)]
  have e1 : cu z = k := by unfold cu zn; rw [h1, nI_clamp (by omega)]
  have e2 : cs z = q := by unfold cs zn; rw [h2, nI_clamp (by omega)]
  unfold WF
  rw [e0, e1, e2]
  exact ⟨⟨h0, a0, b0⟩, ⟨h1, b1⟩, ⟨h2, b2⟩, h3, h4⟩
theorem WF_clear {z : Nat → Int32} {n : Nat} (h : 2 ≤ n) (h2 : n ≤ 10) : WF (zClear n z) :=
  WF_mk (n := n) (k := 0) (q := 0) (by unfold zClear; rw [pk_un (by decide), pk_un (by decide), pk_us]) h h2 (by unfold zClear; rw [pk_un (by decide), pk_us]) (by decide) (by unfold zClear; rw [pk_us]) (by decide) (fun u hu => absurd hu (Nat.not_lt_zero _)) (fun u hu => absurd hu (Nat.not_lt_zero _))
def mxN (k : Nat) : Nat := if k = 0 then 3 else if k = 3 then 200 else 99
theorem mo_mx {k : Nat} : moI k = nI (mxN k) := by
  unfold moI mxN
  split
  · rfl
  · split <;> rfl
theorem mxN_le (k : Nat) : mxN k ≤ 200 := by
  unfold mxN
  split
  · decide
  · split <;> decide
theorem ib_N {v : Int32} {k : Nat} (hk : k ≤ 3) (h : ibB (nI k) v = true) : ∃ i, i ≤ mxN k ∧ v = nI i := by
  rw [ib_mo hk rfl, mo_mx] at h
  have := mxN_le k
  obtain ⟨i, i1, i2, ei⟩ := in_of (by omega) (Nat.zero_le _) h
  exact ⟨i, i2, ei⟩
theorem WF_user {z : Nat → Int32} {r x y w : Int32} (h : WF z) (hk : okUser r x y w = true) (hc : cu z < 5) : WF (zUser z r x y w) := by
  have hn := h.n
  unfold okUser at hk
  rw [Bool.and_eq_true, Bool.and_eq_true, Bool.and_eq_true] at hk
  obtain ⟨i0, b0, rfl⟩ := ib_N (k := 0) (by decide) hk.1
  obtain ⟨i1, b1, rfl⟩ := ib_N (k := 1) (by decide) hk.2.1
  obtain ⟨i2, b2, rfl⟩ := ib_N (k := 2) (by decide) hk.2.2.1
  obtain ⟨i3, b3, rfl⟩ := ib_N (k := 3) (by decide) hk.2.2.2
  obtain ⟨e0, e1, e2, e3, e4⟩ := zUser_new (z := z) (r := nI i0) (x := nI i1) (y := nI i2) (w := nI i3)
  refine WF_mk (n := cn z) (k := cu z + 1) (q := cs z) ?_ hn.1 hn.2 ?_ (by omega) ?_ h.s8 (fun u hu => ?_) (fun j hj => ?_)
  · rw [zUser_old (by omega) (by omega)]; exact h.1.1
  · unfold zUser; rw [pk_us]
  · rw [zUser_old (by omega) (by omega)]; exact h.2.2.1.1
  · by_cases e : u = cu z
    · subst e
      exact UF_mk e0 b0 e1 b1 e2 b2 e3 b3 e4 (by have := Nat.two_pow_pos (cn z); omega) hn.2
    · exact UF_congr (h.us (by omega)) (fun w hw => zUser_old (by omega) (by omega))
  · exact SF_congr (h.sp hj) (fun w hw => zUser_old (by omega) (by omega))
theorem WF_spell {z : Nat → Int32} {u ch x y : Int32} (h : WF z) (h1 : okShut u ch z = true) (h2 : okSpell x y = true) (hc : cs z < 8) : WF (zSpell z u ch x y) := by
  have hn := h.n
  have hu5 := h.u5
  unfold okShut at h1
  unfold okSpell at h2
  rw [Bool.and_eq_true, Bool.or_eq_true] at h1
  rw [Bool.and_eq_true] at h2
  obtain ⟨i2, a2, b2, rfl⟩ := in_of (by decide) (by decide) h2.1
  obtain ⟨i3, a3, b3, rfl⟩ := in_of (by decide) (by decide) h2.2
  obtain ⟨c1, c2⟩ := of_decide_eq_true h1.2
  obtain ⟨i1, b1, rfl⟩ := nI_of (x := ch) (fun q => i_neg_ge q c1)
  have c3 := (nI_ltI b1 (by omega)).mp c2
  obtain ⟨e0, e1, e2, e3⟩ := zSpell_new (z := z) (u := u) (ch := nI i1) (x := nI i2) (y := nI i3)
  have hu : u = -1 ∨ ∃ v, v < 5 ∧ u = nI v := by
    rcases h1.1 with q | q
    · exact Or.inl (of_decide_eq_true q)
    · obtain ⟨k, hk, ek⟩ := usB_t h q
      exact Or.inr ⟨k, by omega, ek⟩
  refine WF_mk (n := cn z) (k := cu z) (q := cs z + 1) ?_ hn.1 hn.2 ?_ hu5 ?_ (by omega) (fun k hk => ?_) (fun j hj => ?_)
  · rw [zSpell_old (by omega) (by omega)]; exact h.1.1
  · rw [zSpell_old (by omega) (by omega)]; exact h.2.1.1
  · unfold zSpell; rw [pk_us]
  · exact UF_congr (h.us hk) (fun w hw => zSpell_old (by omega) (by omega))
  · by_cases e : j = cs z
    · subst e
      exact SF_mk e0 hu e1 c3 e2 b2 e3 a3 b3 hn.2
    · exact SF_congr (h.sp (by omega)) (fun w hw => zSpell_old (by omega) (by omega))
theorem WF_set {z : Nat → Int32} {k i m : Nat} (h : WF z) (hk : k < cu z) (hi : i < 5) (hm : m ≤ (if i = 4 then 2 ^ cn z - 1 else mxN i)) : WF (zSet z k i (nI m)) := by
  have hn := h.n
  have hu5 := h.u5
  have h7 := h.us hk
  have hp := Nat.two_pow_pos (cn z)
  refine WF_mk (n := cn z) (k := cu z) (q := cs z) ?_ hn.1 hn.2 ?_ hu5 ?_ h.s8 (fun u hu => ?_) (fun j hj => ?_)
  · unfold zSet; rw [pk_un (by omega)]; exact h.1.1
  · unfold zSet; rw [pk_un (by omega)]; exact h.2.1.1
  · unfold zSet; rw [pk_un (by omega)]; exact h.2.2.1.1
  · by_cases e : u = k
    · subst e
      have hne : ∀ w, w ≠ i → zSet z u i (nI m) (3 + 5 * u + w) = z (3 + 5 * u + w) := fun w hw => by unfold zSet; rw [pk_un (by omega)]
      have hse : zSet z u i (nI m) (3 + 5 * u + i) = nI m := by unfold zSet; rw [pk_us]
      obtain ⟨⟨q0, r0⟩, ⟨q1, r1⟩, ⟨q2, r2⟩, ⟨q3, r3⟩, q4, r4⟩ := h7
      rcases (show i = 0 ∨ i = 1 ∨ i = 2 ∨ i = 3 ∨ i = 4 by omega) with rfl | rfl | rfl | rfl | rfl
      · exact UF_mk hse hm ((hne 1 (by decide)).trans q1) r1 ((hne 2 (by decide)).trans q2) r2 ((hne 3 (by decide)).trans q3) r3 ((hne 4 (by decide)).trans q4) r4 hn.2
      · exact UF_mk ((hne 0 (by decide)).trans q0) r0 hse hm ((hne 2 (by decide)).trans q2) r2 ((hne 3 (by decide)).trans q3) r3 ((hne 4 (by decide)).trans q4) r4 hn.2
      · exact UF_mk ((hne 0 (by decide)).trans q0) r0 ((hne 1 (by decide)).trans q1) r1 hse hm ((hne 3 (by decide)).trans q3) r3 ((hne 4 (by decide)).trans q4) r4 hn.2
      · exact UF_mk ((hne 0 (by decide)).trans q0) r0 ((hne 1 (by decide)).trans q1) r1 ((hne 2 (by decide)).trans q2) r2 hse hm ((hne 4 (by decide)).trans q4) r4 hn.2
      · exact UF_mk ((hne 0 (by decide)).trans q0) r0 ((hne 1 (by decide)).trans q1) r1 ((hne 2 (by decide)).trans q2) r2 ((hne 3 (by decide)).trans q3) r3 hse (by rw [if_pos rfl] at hm; omega) hn.2
    · exact UF_congr (h.us hu) (fun w hw => by unfold zSet; rw [pk_un (by omega)])
  · exact SF_congr (h.sp hj) (fun w hw => by unfold zSet; rw [pk_un (by omega)])
theorem dr_uf {z : Nat → Int32} {x : Nat} (h : WF z) : ∀ j, j ≤ cu z → ∀ u, u < j → UF (zDrift z x j) (cn z) u
  | 0, _, u, hu => absurd hu (Nat.not_lt_zero _)
  | j + 1, hj, u, hu => by
    have hn := h.n
    have hp := Nat.two_pow_pos (cn z)
    rw [zDrift]
    by_cases e : u = j
    · subst e
      obtain ⟨⟨q0, r0⟩, -⟩ := h.us (u := u) (by omega)
      refine UF_mk (st := lotN (lotN (drX x u)) % 100) (sp := lotN (lotN (lotN (drX x u))) % 100) (wa := lotN (lotN (lotN (lotN (drX x u)))) % 50) (op := lotN (drX x u) % 2 ^ cn z) ?_ r0 ?_ (Nat.le_of_lt_succ (Nat.mod_lt _ (by decide))) ?_ (Nat.le_of_lt_succ (Nat.mod_lt _ (by decide))) ?_ (Nat.le_trans (Nat.le_of_lt (Nat.mod_lt _ (by decide : 0 < 50))) (by decide)) ?_ (Nat.mod_lt _ hp) hn.2
      · rw [pk_un (by omega), pk_un (by omega), pk_un (by omega), pk_un (by omega), zDrift_hi _ (by omega)]; exact q0
      · rw [pk_un (by omega), pk_un (by omega), pk_us]
      · rw [pk_un (by omega), pk_us]
      · rw [pk_us]
      · rw [pk_un (by omega), pk_un (by omega), pk_un (by omega), pk_us]
    · exact UF_congr (dr_uf h j (by omega) u (by omega)) (fun w hw => by rw [pk_un (by omega), pk_un (by omega), pk_un (by omega), pk_un (by omega)])
theorem WF_drift {z : Nat → Int32} {x : Nat} (h : WF z) : WF (zDrift z x (cu z)) := by
  have hn := h.n
  have hu5 := h.u5
  refine WF_mk (n := cn z) (k := cu z) (q := cs z) ?_ hn.1 hn.2 ?_ hu5 ?_ h.s8 (fun u hu => dr_uf h _ (Nat.le_refl _) u hu) (fun j hj => ?_)
  · rw [zDrift_lo (by decide)]; exact h.1.1
  · rw [zDrift_lo (by decide)]; exact h.2.1.1
  · rw [zDrift_lo (by decide)]; exact h.2.2.1.1
  · exact SF_congr (h.sp hj) (fun w hw => zDrift_hi _ (by omega))
