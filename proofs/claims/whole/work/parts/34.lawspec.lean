/-! what holds of every state, kept by every call -/
def SJ : aS → Prop
  | (z, gr, sl, bc, bk, kp, im) => ∀ j, j < bc → cn (bk j) = cn z
def S2 (q : aS) : Prop := SI q ∧ SJ q
theorem S2_note {z z2 : Nat → Int32} {gr : Nat → Nat} {sl bc : Nat} {bk : Nat → Nat → Int32} {kp : Nat → Bool} {im : Nat → Nat → Int32} (h : S2 (z, gr, sl, bc, bk, kp, im)) (hw : WF z2) (hn : cn z2 = cn z) : S2 (z2, idN, 0, inc12 bc, push bk z, kp, im) := by
  obtain ⟨⟨h1, h2, h3, h4, h5, h6, h7⟩, h8⟩ := h
  have hc : inc12 bc ≤ 12 ∧ inc12 bc ≤ bc + 1 := by
    unfold inc12
    split <;> omega
  refine ⟨⟨hw, fun u => Nat.le_refl _, fun u => rfl, Nat.zero_le _, hc.1, fun j hj => ?_, h7⟩, fun j hj => ?_⟩
  · unfold push
    by_cases e : j = 0
    · rw [if_pos e]; exact h1
    · rw [if_neg e]; exact h6 _ (by omega)
  · unfold push
    by_cases e : j = 0
    · rw [if_pos e]; exact hn.symm
    · rw [if_neg e, hn]; exact h8 _ (by omega)
theorem S2_channels {n : Int32} {z : Nat → Int32} {gr : Nat → Nat} {sl bc : Nat} {bk : Nat → Nat → Int32} {kp : Nat → Bool} {im : Nat → Nat → Int32} (h : S2 (z, gr, sl, bc, bk, kp, im)) : S2 (oChannels n z gr sl bc bk kp im) := by
  unfold oChannels
  cases hc : inB n (nI 2) (nI 10) with
  | false => exact h
  | true =>
    obtain ⟨k, k1, k2, ek⟩ := in_of (by decide) (by decide) hc
    have ec : cl n = k := by rw [ek]; exact cl_N (by omega)
    rw [ec]
    exact ⟨⟨WF_clear k1 k2, fun u => Nat.le_refl _, fun u => rfl, Nat.zero_le _, Nat.zero_le _, fun j hj => absurd hj (Nat.not_lt_zero _), h.1.2.2.2.2.2.2⟩, fun j hj => absurd hj (Nat.not_lt_zero _)⟩
theorem S2_user {r x y w : Int32} {z : Nat → Int32} {gr : Nat → Nat} {sl bc : Nat} {bk : Nat → Nat → Int32} {kp : Nat → Bool} {im : Nat → Nat → Int32} (h : S2 (z, gr, sl, bc, bk, kp, im)) : S2 (oUser r x y w z gr sl bc bk kp im) := by
  unfold oUser
  cases hc : okUser r x y w && decide (cu z < 5) with
  | false => exact h
  | true =>
    rw [Bool.and_eq_true] at hc
    exact S2_note h (WF_user h.1.1 hc.1 (of_decide_eq_true hc.2)) zUser_n
theorem S2_open {u v : Int32} {z : Nat → Int32} {gr : Nat → Nat} {sl bc : Nat} {bk : Nat → Nat → Int32} {kp : Nat → Bool} {im : Nat → Nat → Int32} (h : S2 (z, gr, sl, bc, bk, kp, im)) : S2 (oOpen u v z gr sl bc bk kp im) := by
  have hz := h.1.1
  have hn := hz.n
  have hp := pow_le10 hn.2
  have hu5 := hz.u5
  unfold oOpen
  cases hc : usB z u && inB v (nI 0) (nI (2 ^ cn z - 1)) with
  | false => exact h
  | true =>
    rw [Bool.and_eq_true] at hc
    obtain ⟨k, hk, ek⟩ := usB_t hz hc.1
    obtain ⟨m, m1, m2, em⟩ := in_of (by omega) (Nat.zero_le _) hc.2
    have ec : cl u = k := by rw [ek]; exact cl_N (by omega)
    rw [ec, em]
    exact S2_note h (WF_set hz hk (by decide) (by rw [if_pos rfl]; exact m2)) zSet_n
theorem S2_set {u w v : Int32} {z : Nat → Int32} {gr : Nat → Nat} {sl bc : Nat} {bk : Nat → Nat → Int32} {kp : Nat → Bool} {im : Nat → Nat → Int32} (h : S2 (z, gr, sl, bc, bk, kp, im)) : S2 (oSet u w v z gr sl bc bk kp im) := by
  have hz := h.1.1
  have hu5 := hz.u5
  unfold oSet
  cases hc : usB z u && mhB w v with
  | false => exact h
  | true =>
    rw [Bool.and_eq_true] at hc
    obtain ⟨k, hk, ek⟩ := usB_t hz hc.1
    have ec : cl u = k := by rw [ek]; exact cl_N (by omega)
    obtain ⟨i, i1, i2, ei⟩ := in_of (by decide) (by decide) (mh_w hc.2)
    have ei2 : cl w = i := by rw [ei]; exact cl_N (by omega)
    have hb := hc.2
    unfold mhB at hb
    rw [Bool.and_eq_true, ei] at hb
    obtain ⟨m, m1, em⟩ := ib_N i2 hb.2
    rw [ec, ei2, em]
    exact S2_note h (WF_set hz hk (by omega) (by rw [if_neg (by omega)]; exact m1)) zSet_n
theorem S2_shut {u ch x y : Int32} {z : Nat → Int32} {gr : Nat → Nat} {sl bc : Nat} {bk : Nat → Nat → Int32} {kp : Nat → Bool} {im : Nat → Nat → Int32} (h : S2 (z, gr, sl, bc, bk, kp, im)) : S2 (oShut u ch x y z gr sl bc bk kp im) := by
  unfold oShut
  cases hc : okShut u ch z && (okSpell x y && decide (cs z < 8)) with
  | false => exact h
  | true =>
    rw [Bool.and_eq_true, Bool.and_eq_true] at hc
    exact S2_note h (WF_spell h.1.1 hc.1 hc.2.1 (of_decide_eq_true hc.2.2)) zSpell_n
theorem S2_drift {x : Int32} {z : Nat → Int32} {gr : Nat → Nat} {sl bc : Nat} {bk : Nat → Nat → Int32} {kp : Nat → Bool} {im : Nat → Nat → Int32} (h : S2 (z, gr, sl, bc, bk, kp, im)) : S2 (oDrift x z gr sl bc bk kp im) := by
  unfold oDrift
  cases hc : inB x (nI 1) (nI 999999) && !decide (cu z = 0) with
  | false => exact h
  | true => exact S2_note h (WF_drift h.1.1) (zDrift_n _ _ _)
theorem S2_undo {z : Nat → Int32} {gr : Nat → Nat} {sl bc : Nat} {bk : Nat → Nat → Int32} {kp : Nat → Bool} {im : Nat → Nat → Int32} (h : S2 (z, gr, sl, bc, bk, kp, im)) : S2 (oUndo z gr sl bc bk kp im) := by
  unfold oUndo
  cases hc : decide (bc = 0) with
  | true => exact h
  | false =>
    have hb := of_decide_eq_false hc
    obtain ⟨⟨h1, h2, h3, h4, h5, h6, h7⟩, h8⟩ := h
    exact ⟨⟨h6 0 (by omega), fun u => Nat.le_refl _, fun u => rfl, Nat.zero_le _, by omega, fun j hj => h6 _ (by omega), h7⟩, fun j hj => (h8 _ (by omega)).trans (h8 0 (by omega)).symm⟩
def GO (q : (Nat → Nat) × Nat) : Prop := (∀ u, q.1 u ≤ u) ∧ (∀ u, q.1 (q.1 u) = q.1 u) ∧ q.2 ≤ 3000
theorem GO_step {z : Nat → Int32} {q : (Nat → Nat) × Nat} (h : GO q) (hs : q.2 < 3000) : GO (grS z q.1 q.2, q.2 + 1) := ⟨grS_le h.1, grS_idem h.2.1, hs⟩
theorem GO_rn {z : Nat → Int32} : ∀ (n : Nat) (q : (Nat → Nat) × Nat), GO q → GO (rnS z n q)
  | 0, q, h => h
  | n + 1, q, h => by
    rw [rnS]
    by_cases c : q.2 < 3000
    · rw [if_pos c]; exact GO_rn n _ (GO_step h c)
    · rw [if_neg c]; exact h
theorem GO_mg {z : Nat → Int32} : ∀ (n : Nat) (q : (Nat → Nat) × Nat), GO q → GO (mgS z n q)
  | 0, q, h => h
  | n + 1, q, h => by
    rw [mgS]
    by_cases c : q.2 < 3000 ∧ 1 < grN q.1 (cu z)
    · rw [if_pos c]; exact GO_mg n _ (GO_step h c.1)
    · rw [if_neg c]; exact h
theorem S2_gr {z : Nat → Int32} {gr g2 : Nat → Nat} {sl s2 bc : Nat} {bk : Nat → Nat → Int32} {kp : Nat → Bool} {im : Nat → Nat → Int32} (h : S2 (z, gr, sl, bc, bk, kp, im)) (hg : GO (g2, s2)) : S2 (z, g2, s2, bc, bk, kp, im) := by
  obtain ⟨⟨h1, h2, h3, h4, h5, h6, h7⟩, h8⟩ := h
  exact ⟨⟨h1, hg.1, hg.2.1, hg.2.2, h5, h6, h7⟩, h8⟩
theorem S2_GO {z : Nat → Int32} {gr : Nat → Nat} {sl bc : Nat} {bk : Nat → Nat → Int32} {kp : Nat → Bool} {im : Nat → Nat → Int32} (h : S2 (z, gr, sl, bc, bk, kp, im)) : GO (gr, sl) := ⟨h.1.2.1, h.1.2.2.1, h.1.2.2.2.1⟩
theorem S2_run {n : Int32} {z : Nat → Int32} {gr : Nat → Nat} {sl bc : Nat} {bk : Nat → Nat → Int32} {kp : Nat → Bool} {im : Nat → Nat → Int32} (h : S2 (z, gr, sl, bc, bk, kp, im)) : S2 (oRun n z gr sl bc bk kp im) := by
  unfold oRun
  cases hc : inB n (nI 1) (nI 200) && (!decide (cu z = 0) && decide (sl < 3000)) with
  | false => exact h
  | true => exact S2_gr h (GO_rn _ _ (S2_GO h))
theorem S2_merge {z : Nat → Int32} {gr : Nat → Nat} {sl bc : Nat} {bk : Nat → Nat → Int32} {kp : Nat → Bool} {im : Nat → Nat → Int32} (h : S2 (z, gr, sl, bc, bk, kp, im)) : S2 (oMerge z gr sl bc bk kp im) := by
  unfold oMerge
  cases hc : decide (cu z = 0) with
  | true => exact h
  | false => exact S2_gr h (GO_mg _ _ (S2_GO h))
theorem S2_part {z : Nat → Int32} {gr : Nat → Nat} {sl bc : Nat} {bk : Nat → Nat → Int32} {kp : Nat → Bool} {im : Nat → Nat → Int32} (h : S2 (z, gr, sl, bc, bk, kp, im)) : S2 (z, idN, 0, bc, bk, kp, im) := S2_gr h ⟨fun u => Nat.le_refl _, fun u => rfl, Nat.zero_le _⟩
theorem S2_keep {i : Int32} {z : Nat → Int32} {gr : Nat → Nat} {sl bc : Nat} {bk : Nat → Nat → Int32} {kp : Nat → Bool} {im : Nat → Nat → Int32} (h : S2 (z, gr, sl, bc, bk, kp, im)) : S2 (oKeep i z gr sl bc bk kp im) := by
  unfold oKeep
  cases hc : inB i (nI 0) (nI 1) with
  | false => exact h
  | true =>
    obtain ⟨⟨h1, h2, h3, h4, h5, h6, h7⟩, h8⟩ := h
    refine ⟨⟨h1, h2, h3, h4, h5, h6, fun j hj hk => ?_⟩, h8⟩
    by_cases e : j = cl i
    · rw [e, va_up_self]; exact h1
    · rw [va_up_ne _ _ e] at hk
      rw [va_up_ne _ _ e]; exact h7 j hj hk
theorem S2_goBack {i : Int32} {z : Nat → Int32} {gr : Nat → Nat} {sl bc : Nat} {bk : Nat → Nat → Int32} {kp : Nat → Bool} {im : Nat → Nat → Int32} (h : S2 (z, gr, sl, bc, bk, kp, im)) : S2 (oGoBack i z gr sl bc bk kp im) := by
  unfold oGoBack
  cases hc : inB i (nI 0) (nI 1) && kp (cl i) with
  | false => exact h
  | true =>
    rw [Bool.and_eq_true] at hc
    obtain ⟨k, k1, k2, ek⟩ := in_of (by decide) (by decide) hc.1
    have ec : cl i = k := by rw [ek]; exact cl_N (by omega)
    obtain ⟨⟨h1, h2, h3, h4, h5, h6, h7⟩, h8⟩ := h
    exact ⟨⟨h7 _ (by omega) hc.2, fun u => Nat.le_refl _, fun u => rfl, Nat.zero_le _, Nat.zero_le _, fun j hj => absurd hj (Nat.not_lt_zero _), h7⟩, fun j hj => absurd hj (Nat.not_lt_zero _)⟩
theorem S2_start (bk im : Nat → Nat → Int32) : S2 (z00, idN, 0, 0, bk, fun _ => false, im) := by
  have hw : WF z00 := WF_mk (n := 4) (k := 0) (q := 0) (by unfold z00; rw [pk_us]) (by decide) (by decide) (by unfold z00; rw [pk_un (by decide)]; rfl) (by decide) (by unfold z00; rw [pk_un (by decide)]; rfl) (by decide) (fun u hu => absurd hu (Nat.not_lt_zero _)) (fun u hu => absurd hu (Nat.not_lt_zero _))
  exact ⟨⟨hw, fun u => Nat.le_refl _, fun u => rfl, Nat.zero_le _, Nat.zero_le _, fun j hj => absurd hj (Nat.not_lt_zero _), fun i hi hk => Bool.noConfusion (hk : false = true)⟩, fun j hj => absurd hj (Nat.not_lt_zero _)⟩
/-! pictures that stay -/
theorem PX_keptA {G : va_G} {t : gT} {b : Nat} {q : aS} {H H1 : Heap} {A : Nat → Prop} (h : PX G t b q H) (hk : ∀ q : Nat, q < H.size → ¬ A q → H1[q]? = H[q]?) (ha : ∀ q, b ≤ q → q < b + 251 → ¬ A q) : PX G t b q H1 := by
  obtain ⟨z, gr, sl, bc, bk, kp, im⟩ := q
  obtain ⟨x0, x1, x2, ⟨x3, jm, x4, x5⟩, x6, x7, x8, x9, x10⟩ := h
  exact PX_mk (at_keptA x0 hk (ha _ (by omega) (by omega))) (Sc_keptA x1 hk (fun q h1 h2 => ha q (by omega) (by omega))) (Pa_keptA x2 hk (fun q h1 h2 => ha q (by omega) (by omega))) (at_keptA x3 hk (ha _ (by omega) (by omega))) (fun i hi => Sc_keptA (x4 i hi) hk (fun q h1 h2 => ha q (by omega) (by omega))) x5
    (at_keptA x6 hk (ha _ (by omega) (by omega))) (Gp_keptA x7 hk (fun q h1 h2 => ha q (by omega) (by omega))) (ex_keptA x8 hk (ha _ (by omega) (by omega))) (ex_keptA x9 hk (ha _ (by omega) (by omega))) (ex_keptA x10 hk (ha _ (by omega) (by omega)))
theorem PM_keptA {G : va_G} {t : gT} {d : Nat} {q : aS} {H H1 : Heap} {A : Nat → Prop} (h : PM G t d q H) (hk : ∀ q : Nat, q < H.size → ¬ A q → H1[q]? = H[q]?) (ha : ∀ q, d ≤ q → q < d + 7 → ¬ A q) : PM G t d q H1 := by
  obtain ⟨z, gr, sl, bc, bk, kp, im⟩ := q
  obtain ⟨lo, fB, fI, fG, fM, h0, h1, h2, h3, h4, h5, h6, e1, e2, e3⟩ := h
  exact PM_mk (at_keptA h0 hk (ha _ (by omega) (by omega))) (at_keptA h1 hk (ha _ (by omega) (by omega))) (at_keptA h2 hk (ha _ (by omega) (by omega))) (at_keptA h3 hk (ha _ (by omega) (by omega))) (at_keptA h4 hk (ha _ (by omega) (by omega))) (at_keptA h5 hk (ha _ (by omega) (by omega))) (at_keptA h6 hk (ha _ (by omega) (by omega))) e1 e2 e3
theorem PM_Mn {G : va_G} {t : gT} {d : Nat} {z : Nat → Int32} {gr : Nat → Nat} {sl bc : Nat} {bk : Nat → Nat → Int32} {kp : Nat → Bool} {im : Nat → Nat → Int32} {H : Heap} (h : PM G t d (z, gr, sl, bc, bk, kp, im) H) : Mn G t d z H := by
  obtain ⟨lo, fB, fI, fG, fM, h0, h1, -⟩ := h
  exact ⟨_, _, _, h0, h1⟩
/-! the law's own numbers -/
theorem law_lt {i L : Nat} (hL : L ≤ 2560) (hi : i ≤ 3000) (h : ¬ nI L - nI 5 < nI i) : i + 5 ≤ L := by
  have h0 : (nI i).toInt = (i : Int) := nI_toInt (by omega)
  by_cases q : L < 5
  · exfalso
    apply h
    have h1 := pk_sneg (a := L) (b := 5) (by omega) q
    rw [Int32.lt_iff_toInt_lt, Int32.toInt_zero] at h1
    rw [Int32.lt_iff_toInt_lt]
    omega
  · have e : nI L - nI 5 = nI (L - 5) := pk_sub (by omega)
    rw [e, Int32.lt_iff_toInt_lt, h0, nI_toInt (by omega)] at h
    omega
theorem and31 (x : Int32) : (21 < (x &&& nI 31).toInt) ∨ ∃ k, k < 22 ∧ x &&& nI 31 = nI k := by
  have h : ∃ k, k < 2 ^ 5 ∧ x &&& nI 31 = nI k := pk_andE x 5 (by decide)
  obtain ⟨k, hk, ek⟩ := h
  by_cases q : k < 22
  · exact Or.inr ⟨k, q, ek⟩
  · left
    rw [ek, nI_toInt (by omega)]
    omega
