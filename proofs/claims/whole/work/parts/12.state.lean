/-! the state of both, and what each call answers and does (in numbers) -/
abbrev aS : Type := (Nat → Int32) × (Nat → Nat) × Nat × Nat × (Nat → Nat → Int32) × (Nat → Bool) × (Nat → Nat → Int32)
theorem in_t2 {v a b : Int32} (h : ¬ v < a) (h2 : v ≤ b) : inB v a b = true := decide_eq_true ⟨Int32.not_lt.mp h, h2⟩
theorem in_f3 {v a b : Int32} (h : ¬ v ≤ b) : inB v a b = false := decide_eq_false (fun q => h q.2)
theorem in_of {v : Int32} {a b : Nat} (hb : b < 2 ^ 31) (ha : a ≤ b) (h : inB v (nI a) (nI b) = true) : ∃ k, a ≤ k ∧ k ≤ b ∧ v = nI k := by
  obtain ⟨h1, h2⟩ := of_decide_eq_true h
  rw [Int32.le_iff_toInt_le] at h1 h2
  rw [nI_toInt (by omega)] at h1
  rw [nI_toInt hb] at h2
  obtain ⟨k, hk, rfl⟩ := nI_of (x := v) (fun q => by
    rw [Int32.lt_iff_toInt_lt, Int32.toInt_zero] at q
    omega)
  rw [nI_toInt hk] at h1 h2
  exact ⟨k, by omega, by omega, rfl⟩
theorem in_N {k a b : Nat} (hb : b < 2 ^ 31) (h1 : a ≤ k) (h2 : k ≤ b) : inB (nI k) (nI a) (nI b) = true := by
  rw [inB_N (by omega) (by omega) hb]
  exact decide_eq_true ⟨h1, h2⟩
def cl (u : Int32) : Nat := u.toNatClampNeg
theorem cl_N {k : Nat} (h : k < 2 ^ 31) : cl (nI k) = k := nI_clamp h
def idN : Nat → Nat := fun u => u
def push (bk : Nat → Nat → Int32) (z : Nat → Int32) : Nat → Nat → Int32 := fun j => if j = 0 then z else bk (j - 1)
def inc12 (bc : Nat) : Nat := if bc + 1 < 12 then bc + 1 else 12
/-- the bounds of what a user has -/
def mhB (w v : Int32) : Bool := inB w (nI 0) (nI 3) && ibB w v
def rChannels (n : Int32) : Int32 := cond (inB n (nI 2) (nI 10)) (nI (prN (cl n))) (-1000000002)
def oChannels (n : Int32) (z : Nat → Int32) (gr : Nat → Nat) (sl bc : Nat) (bk : Nat → Nat → Int32) (kp : Nat → Bool) (im : Nat → Nat → Int32) : aS := cond (inB n (nI 2) (nI 10)) (zClear (cl n) z, idN, 0, 0, bk, kp, im) (z, gr, sl, bc, bk, kp, im)
def okUser (r x y w : Int32) : Bool := ibB 0 r && (ibB 1 x && (ibB 2 y && ibB 3 w))
def rUser (r x y w : Int32) (z : Nat → Int32) : Int32 := cond (okUser r x y w) (cond (decide (cu z < 5)) (nI (cu z)) (-1000000004)) (-1000000002)
def oUser (r x y w : Int32) (z : Nat → Int32) (gr : Nat → Nat) (sl bc : Nat) (bk : Nat → Nat → Int32) (kp : Nat → Bool) (im : Nat → Nat → Int32) : aS := cond (okUser r x y w && decide (cu z < 5)) (zUser z r x y w, idN, 0, inc12 bc, push bk z, kp, im) (z, gr, sl, bc, bk, kp, im)
def rOpen (u v : Int32) (z : Nat → Int32) : Int32 := cond (usB z u) (cond (inB v (nI 0) (nI (2 ^ cn z - 1))) (z (3 + 5 * cl u + 4)) (-1000000002)) (-1000000001)
def oOpen (u v : Int32) (z : Nat → Int32) (gr : Nat → Nat) (sl bc : Nat) (bk : Nat → Nat → Int32) (kp : Nat → Bool) (im : Nat → Nat → Int32) : aS := cond (usB z u && inB v (nI 0) (nI (2 ^ cn z - 1))) (zSet z (cl u) 4 v, idN, 0, inc12 bc, push bk z, kp, im) (z, gr, sl, bc, bk, kp, im)
def rSet (u w v : Int32) (z : Nat → Int32) : Int32 := cond (usB z u) (cond (mhB w v) (z (3 + 5 * cl u + cl w)) (-1000000002)) (-1000000001)
def oSet (u w v : Int32) (z : Nat → Int32) (gr : Nat → Nat) (sl bc : Nat) (bk : Nat → Nat → Int32) (kp : Nat → Bool) (im : Nat → Nat → Int32) : aS := cond (usB z u && mhB w v) (zSet z (cl u) (cl w) v, idN, 0, inc12 bc, push bk z, kp, im) (z, gr, sl, bc, bk, kp, im)
def okShut (u ch : Int32) (z : Nat → Int32) : Bool := (decide (u = -1) || usB z u) && decide (0 ≤ ch ∧ ch < nI (cn z))
def okSpell (x y : Int32) : Bool := inB x (nI 0) (nI 1500) && inB y (nI 1) (nI 500)
def rShut (u ch x y : Int32) (z : Nat → Int32) : Int32 := cond (okShut u ch z) (cond (okSpell x y) (cond (decide (cs z < 8)) (nI (cs z + 1)) (-1000000004)) (-1000000002)) (-1000000001)
def oShut (u ch x y : Int32) (z : Nat → Int32) (gr : Nat → Nat) (sl bc : Nat) (bk : Nat → Nat → Int32) (kp : Nat → Bool) (im : Nat → Nat → Int32) : aS := cond (okShut u ch z && (okSpell x y && decide (cs z < 8))) (zSpell z u ch x y, idN, 0, inc12 bc, push bk z, kp, im) (z, gr, sl, bc, bk, kp, im)
def rDrift (x : Int32) (z : Nat → Int32) : Int32 := cond (inB x (nI 1) (nI 999999)) (cond (decide (cu z = 0)) (-1000000003) (nI (comN (zDrift z (cl x) (cu z)) (cu z)))) (-1000000002)
def oDrift (x : Int32) (z : Nat → Int32) (gr : Nat → Nat) (sl bc : Nat) (bk : Nat → Nat → Int32) (kp : Nat → Bool) (im : Nat → Nat → Int32) : aS := cond (inB x (nI 1) (nI 999999) && !decide (cu z = 0)) (zDrift z (cl x) (cu z), idN, 0, inc12 bc, push bk z, kp, im) (z, gr, sl, bc, bk, kp, im)
def rUndo (bc : Nat) : Int32 := cond (decide (bc = 0)) (-1000000003) (nI (bc - 1))
def oUndo (z : Nat → Int32) (gr : Nat → Nat) (sl bc : Nat) (bk : Nat → Nat → Int32) (kp : Nat → Bool) (im : Nat → Nat → Int32) : aS := cond (decide (bc = 0)) (z, gr, sl, bc, bk, kp, im) (bk 0, idN, 0, bc - 1, fun j => bk (j + 1), kp, im)
def rTold (w : Int32) (z : Nat → Int32) (gr : Nat → Nat) (sl bc : Nat) : Int32 := cond (inB w (nI 0) (nI 8)) (if cl w = 0 then nI (cn z) else if cl w = 1 then nI (prN (cn z)) else if cl w = 2 then nI (cu z) else if cl w = 3 then nI (cs z) else if cl w = 4 then nI (comN z (cu z)) else if cl w = 5 then nI sl else if cl w = 6 then nI (grN gr (cu z)) else if cl w = 7 then (if grN gr (cu z) = 1 then nI 1 else nI 0) else nI bc) (-1000000002)
def rUserOf (u w : Int32) (z : Nat → Int32) (gr : Nat → Nat) : Int32 := cond (usB z u) (cond (inB w (nI 0) (nI 6)) (if cl w = 5 then nI (gr (cl u)) else if cl w = 6 then nI (szN gr (cu z) (cl u)) else z (3 + 5 * cl u + cl w)) (-1000000002)) (-1000000001)
def rPts (u y : Int32) (z : Nat → Int32) : Int32 := cond (usB z u) (cond (inB y (nI 0) (nI 3000)) (if cl y < uW z (cl u) then -1 else nI (aimN z (cl u) (cl y - uW z (cl u)))) (-1000000002)) (-1000000001)
def rOn (u y : Int32) (z : Nat → Int32) : Int32 := cond (usB z u) (cond (inB y (nI 0) (nI 3000)) (plC z (cl u) (cl y)) (-1000000002)) (-1000000001)
def rWhy (u y : Int32) (z : Nat → Int32) : Int32 := cond (usB z u) (cond (inB y (nI 0) (nI 3000)) (whC z (cl u) (cl y)) (-1000000002)) (-1000000001)
def frN (z : Nat → Int32) (a b : Nat) : Int32 := if fi (meB z a b) 1500 < 1500 then nI (fi (meB z a b) 1500) else -1
def rFirst (u v : Int32) (z : Nat → Int32) : Int32 := cond (twB z u v) (frN z (cl u) (cl v)) (-1000000001)
def wsP (z : Nat → Int32) (a b x : Nat) : Nat → Bool := fun y => decide (plN z b y ≠ -1 ∧ plN z b y = plN z a (y + x))
def wsT (z : Nat → Int32) (a b x : Nat) : Nat := fi (wsP z a b x) 1500
def wsM (z : Nat → Int32) (a b x : Nat) : Nat := if wsT z a b x = 1500 then 99999 else wsT z a b x
def wsN (z : Nat → Int32) (a b : Nat) : Nat → Nat
  | 0 => 0
  | x + 1 => if wsN z a b x < wsM z a b x then wsM z a b x else wsN z a b x
theorem wsM_le (z : Nat → Int32) (a b x : Nat) : wsM z a b x ≤ 99999 := by
  have := fi_le (wsP z a b x) 1500
  unfold wsM wsT
  split <;> omega
theorem wsN_le (z : Nat → Int32) (a b : Nat) : ∀ x, wsN z a b x ≤ 99999
  | 0 => Nat.zero_le _
  | x + 1 => by
    have h1 := wsN_le z a b x
    have h2 := wsM_le z a b x
    unfold wsN
    split <;> omega
theorem wsN_top {z : Nat → Int32} {a b x : Nat} (h : 99999 ≤ wsN z a b x) : ∀ y, x ≤ y → wsN z a b y = 99999 := by
  intro y
  induction y with
  | zero => intro hy; have := wsN_le z a b x; rw [Nat.le_zero.mp hy] at h this; omega
  | succ y ih =>
    intro hy
    by_cases e : x = y + 1
    · have := wsN_le z a b x; rw [e] at h this; omega
    · have h1 := ih (by omega)
      have h2 := wsM_le z a b y
      rw [wsN, h1, if_neg (by omega)]
def rWorst (u v d : Int32) (z : Nat → Int32) : Int32 := cond (twB z u v) (cond (inB d (nI 0) (nI 200)) (nI (wsN z (cl u) (cl v) (cl d + 1))) (-1000000002)) (-1000000001)
def rBound (u v d x : Int32) (z : Nat → Int32) : Int32 := cond (twB z u v) (cond (inB d (nI 0) (nI 200) && inB x (nI 0) (nI 1500)) (if wsN z (cl u) (cl v) (cl d + 1) ≤ cl x then nI 1 else nI 0) (-1000000002)) (-1000000001)
def rTogether (u v n : Int32) (z : Nat → Int32) : Int32 := cond (twB z u v) (cond (inB n (nI 0) (nI 1500)) (nI (cntF (meB z (cl u) (cl v)) (cl n))) (-1000000002)) (-1000000001)
/-- how often a user is on a channel, by its clock -/
def tmN (z : Nat → Int32) (u n k : Nat) : Nat := cntF (fun c => decide (plN z u c = nI k)) n
def moN (z : Nat → Int32) (u n : Nat) : Nat → Nat
  | 0 => 0
  | k + 1 => if btB (uO z u) k = true ∧ moN z u n k < tmN z u n k then tmN z u n k else moN z u n k
def leN (z : Nat → Int32) (u n : Nat) : Nat → Nat
  | 0 => n
  | k + 1 => if btB (uO z u) k = true ∧ tmN z u n k < leN z u n k then tmN z u n k else leN z u n k
def rEven (u n : Int32) (z : Nat → Int32) : Int32 := cond (usB z u) (cond (inB n (nI 1) (nI 1500)) (if uO z (cl u) = 0 then nI 0 else nI (moN z (cl u) (cl n) (cn z)) - nI (leN z (cl u) (cl n) (cn z))) (-1000000002)) (-1000000001)
/-- slots that are run: what is left of n -/
def rnS (z : Nat → Int32) : Nat → (Nat → Nat) × Nat → (Nat → Nat) × Nat
  | 0, q => q
  | n + 1, q => if q.2 < 3000 then rnS z n (grS z q.1 q.2, q.2 + 1) else q
theorem rnS_full {z : Nat → Int32} {n : Nat} {q : (Nat → Nat) × Nat} (h : ¬ q.2 < 3000) : rnS z n q = q := by
  cases n with
  | zero => rfl
  | succ n => rw [rnS, if_neg h]
def rRun (n : Int32) (z : Nat → Int32) (gr : Nat → Nat) (sl : Nat) : Int32 := cond (inB n (nI 1) (nI 200)) (cond (decide (cu z = 0)) (-1000000003) (cond (decide (sl < 3000)) (nI (grN (rnS z (cl n) (gr, sl)).1 (cu z))) (-1000000004))) (-1000000002)
def oRun (n : Int32) (z : Nat → Int32) (gr : Nat → Nat) (sl bc : Nat) (bk : Nat → Nat → Int32) (kp : Nat → Bool) (im : Nat → Nat → Int32) : aS := cond (inB n (nI 1) (nI 200) && (!decide (cu z = 0) && decide (sl < 3000))) (z, (rnS z (cl n) (gr, sl)).1, (rnS z (cl n) (gr, sl)).2, bc, bk, kp, im) (z, gr, sl, bc, bk, kp, im)
def mgS (z : Nat → Int32) : Nat → (Nat → Nat) × Nat → (Nat → Nat) × Nat
  | 0, q => q
  | n + 1, q => if q.2 < 3000 ∧ 1 < grN q.1 (cu z) then mgS z n (grS z q.1 q.2, q.2 + 1) else q
theorem mgS_end {z : Nat → Int32} {n : Nat} {q : (Nat → Nat) × Nat} (h : ¬ (q.2 < 3000 ∧ 1 < grN q.1 (cu z))) : mgS z n q = q := by
  cases n with
  | zero => rfl
  | succ n => rw [mgS, if_neg h]
def rMerge (z : Nat → Int32) (gr : Nat → Nat) (sl : Nat) : Int32 := cond (decide (cu z = 0)) (-1000000003) (nI (mgS z 1500 (gr, sl)).2)
def oMerge (z : Nat → Int32) (gr : Nat → Nat) (sl bc : Nat) (bk : Nat → Nat → Int32) (kp : Nat → Bool) (im : Nat → Nat → Int32) : aS := cond (decide (cu z = 0)) (z, gr, sl, bc, bk, kp, im) (z, (mgS z 1500 (gr, sl)).1, (mgS z 1500 (gr, sl)).2, bc, bk, kp, im)
def rKeep (i : Int32) (z : Nat → Int32) : Int32 := cond (inB i (nI 0) (nI 1)) (nI (cu z)) (-1000000001)
def oKeep (i : Int32) (z : Nat → Int32) (gr : Nat → Nat) (sl bc : Nat) (bk : Nat → Nat → Int32) (kp : Nat → Bool) (im : Nat → Nat → Int32) : aS := cond (inB i (nI 0) (nI 1)) (z, gr, sl, bc, bk, va_up kp (cl i) true, va_up im (cl i) z) (z, gr, sl, bc, bk, kp, im)
def rGoBack (i : Int32) (kp : Nat → Bool) (im : Nat → Nat → Int32) : Int32 := cond (inB i (nI 0) (nI 1)) (cond (kp (cl i)) (nI (cu (im (cl i)))) (-1000000003)) (-1000000001)
def oGoBack (i : Int32) (z : Nat → Int32) (gr : Nat → Nat) (sl bc : Nat) (bk : Nat → Nat → Int32) (kp : Nat → Bool) (im : Nat → Nat → Int32) : aS := cond (inB i (nI 0) (nI 1) && kp (cl i)) (im (cl i), idN, 0, 0, bk, kp, im) (z, gr, sl, bc, bk, kp, im)
/-- what holds of every state that comes up -/
def SI : aS → Prop
  | (z, gr, sl, bc, bk, kp, im) => WF z ∧ (∀ u, gr u ≤ u) ∧ (∀ u, gr (gr u) = gr u) ∧ sl ≤ 3000 ∧ bc ≤ 12 ∧ (∀ j, j < bc → WF (bk j)) ∧ ∀ i, i < 2 → kp i = true → WF (im i)
/-- the picture of Past: a ring of twelve scenes -/
def Pa (G : va_G) (t : gT) (a bc : Nat) (bk : Nat → Nat → Int32) (H : Heap) : Prop := ∃ (nx : Nat) (zs : Nat → Nat → Int32), nx < 12 ∧ at_ G a (.inr (1, [.ref (a + 1), .int (nI nx), .int (nI bc)])) H ∧ at_ G (a + 1) (aQ t 12 (rowsG 12 (a + 2))) H ∧ (∀ i, i < 12 → Sc G t (a + 2 + 16 * i) (zs i) H) ∧ ∀ j, j < bc → zs ((nx + 11 - j) % 12) = bk j
theorem Pa_kept {G : va_G} {t : gT} {a bc : Nat} {bk : Nat → Nat → Int32} {H H1 : Heap} (h : Pa G t a bc bk H) (hk : ∀ q, a ≤ q → q < a + 194 → H1[q]? = H[q]?) : Pa G t a bc bk H1 := by
  obtain ⟨nx, zs, h1, h2, h3, h4, h5⟩ := h
  exact ⟨nx, zs, h1, at_kept h2 (hk _ (by omega) (by omega)), at_kept h3 (hk _ (by omega) (by omega)), fun i hi => Sc_kept (h4 i hi) (fun q q1 q2 => hk q (by omega) (by omega)), h5⟩
theorem Pa_lt {G : va_G} {t : gT} {a bc : Nat} {bk : Nat → Nat → Int32} {H : Heap} (h : Pa G t a bc bk H) : a + 194 ≤ H.size := by
  obtain ⟨nx, zs, h1, h2, h3, h4, h5⟩ := h
  have := Sc_lt (h4 11 (by decide))
  omega
theorem Pa_keptA {G : va_G} {t : gT} {a bc : Nat} {bk : Nat → Nat → Int32} {H H1 : Heap} {A : Nat → Prop} (h : Pa G t a bc bk H) (hk : ∀ q : Nat, q < H.size → ¬ A q → H1[q]? = H[q]?) (ha : ∀ q, a ≤ q → q < a + 194 → ¬ A q) : Pa G t a bc bk H1 := by
  have hz := Pa_lt h
  exact Pa_kept h (fun q h1 h2 => hk q (by omega) (ha q h1 h2))
theorem Pa_congr {G : va_G} {t : gT} {a bc : Nat} {bk bk2 : Nat → Nat → Int32} {H : Heap} (h : Pa G t a bc bk H) (e : ∀ j, j < bc → bk j = bk2 j) : Pa G t a bc bk2 H := by
  obtain ⟨nx, zs, h1, h2, h3, h4, h5⟩ := h
  exact ⟨nx, zs, h1, h2, h3, h4, fun j hj => (h5 j hj).trans (e j hj)⟩
theorem Pa_obj {G : va_G} {t : gT} {a bc : Nat} {bk : Nat → Nat → Int32} {H : Heap} (h : Pa G t a bc bk H) : ∃ nx, at_ G a (.inr (1, [.ref (a + 1), .int (nI nx), .int (nI bc)])) H := by
  obtain ⟨nx, zs, h1, h2, h3, h4, h5⟩ := h
  exact ⟨nx, h2⟩
theorem ring_push {bc nx : Nat} {zs bk : Nat → Nat → Int32} {z : Nat → Int32} (hn : nx < 12) (h : ∀ j, j < bc → zs ((nx + 11 - j) % 12) = bk j) : ∀ j, j < inc12 bc → va_up zs nx z (((nx + 1) % 12 + 11 - j) % 12) = push bk z j := fun j hj => by
  have h1 : j < 12 ∧ j ≤ bc := by
    unfold inc12 at hj
    split at hj <;> omega
  unfold push
  by_cases e : j = 0
  · subst e
    rw [if_pos rfl, show ((nx + 1) % 12 + 11 - 0) % 12 = nx by omega, va_up_self]
  · rw [if_neg e, show ((nx + 1) % 12 + 11 - j) % 12 = (nx + 11 - (j - 1)) % 12 by omega, va_up_ne _ _ (by omega)]
    exact h (j - 1) (by omega)
theorem ring_pop {bc nx : Nat} {zs bk : Nat → Nat → Int32} (hn : nx < 12) (hb : bc ≤ 12) (h : ∀ j, j < bc → zs ((nx + 11 - j) % 12) = bk j) : ∀ j, j < bc - 1 → zs (((nx + 11) % 12 + 11 - j) % 12) = bk (j + 1) := fun j hj => by
  rw [show ((nx + 11) % 12 + 11 - j) % 12 = (nx + 11 - (j + 1)) % 12 by omega]
  exact h (j + 1) (by omega)
theorem scs_put {G : va_G} {t : gT} {b c : Nat} {zs : Nat → Nat → Int32} {z : Nat → Int32} {N : Nat} {H : Heap} (hr : Sc G t (b + 16 * c) z H) (h : ∀ i, i < N → i ≠ c → Sc G t (b + 16 * i) (zs i) H) : ∀ i, i < N → Sc G t (b + 16 * i) (va_up zs c z i) H := fun i hi => by
  by_cases e : i = c
  · rw [e, va_up_self]; exact hr
  · rw [va_up_ne _ _ e]; exact h i hi e
/-- the picture of a HopMeet: 251 cells, from its own on -/
def PX (G : va_G) (t : gT) (b : Nat) : aS → Heap → Prop
  | (z, gr, sl, bc, bk, kp, im), H => at_ G b (.inr (3, [.ref (b + 1), .ref (b + 17), .ref (b + 211), .ref (b + 244), .ref (b + 245), .ref (b + 248), .ref (b + 249), .ref (b + 250)])) H ∧ Sc G t (b + 1) z H ∧ Pa G t (b + 17) bc bk H ∧
    (at_ G (b + 211) (aQ t 2 (rowsG 2 (b + 212))) H ∧ ∃ jm : Nat → Nat → Int32, (∀ i, i < 2 → Sc G t (b + 212 + 16 * i) (jm i) H) ∧ ∀ i, i < 2 → kp i = true → jm i = im i) ∧
    at_ G (b + 244) (aZ t 2 (fun i => bI (kp i))) H ∧ Gp G t (b + 245) gr sl (cu z) H ∧ (∃ f, at_ G (b + 248) (aI t 1700 f) H) ∧ (∃ f, at_ G (b + 249) (aI t 1500 f) H) ∧ ∃ f, at_ G (b + 250) (aI t 10 f) H
theorem Sy_obj {G : va_G} {t : gT} {o : Nat} {H : Heap} (h : Sy G t o H) : ∃ a0 a1 a2 a3 : Int32, at_ G o (.inr (2, [.int a0, .int a1, .int a2, .int a3, .ref (o + 1), .ref (o + 7)])) H := by
  obtain ⟨a, b, c, d, fU, fS, h0, -⟩ := h
  exact ⟨a, b, c, d, h0⟩
theorem Sy_kept {G : va_G} {t : gT} {o : Nat} {H H1 : Heap} (h : Sy G t o H) (hk : ∀ q, o ≤ q → q < o + 16 → H1[q]? = H[q]?) : Sy G t o H1 := by
  obtain ⟨a, b, c, d, fU, fS, h0, h1, h2, h3, h4⟩ := h
  exact ⟨a, b, c, d, fU, fS, at_kept h0 (hk _ (by omega) (by omega)), at_kept h1 (hk _ (by omega) (by omega)), fun i hi => at_kept (h2 i hi) (hk _ (by omega) (by omega)), at_kept h3 (hk _ (by omega) (by omega)), fun i hi => at_kept (h4 i hi) (hk _ (by omega) (by omega))⟩
theorem min_inc {bc : Nat} (h : bc ≤ 12) : (if nI 12 < nI (bc + 1) then nI 12 else nI (bc + 1)) = nI (inc12 bc) := by
  unfold inc12
  by_cases q : bc + 1 < 12
  · rw [if_pos q, if_neg (fun r => by have := (nI_ltI (by decide) (by omega)).mp r; omega)]
  · rw [if_neg q]
    by_cases r : bc + 1 = 12
    · rw [r]; rfl
    · rw [if_pos ((nI_ltI (by decide) (by omega)).mpr (by omega))]
