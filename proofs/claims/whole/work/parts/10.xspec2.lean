/-! changes of a scene -/
def zClear (n : Nat) (z : Nat → Int32) : Nat → Int32 := upd (upd (upd z 0 (nI n)) 1 (nI 0)) 2 (nI 0)
def zUser (z : Nat → Int32) (r x y w : Int32) : Nat → Int32 := upd (upd (upd (upd (upd (upd z (3 + 5 * cu z) r) (3 + 5 * cu z + 1) x) (3 + 5 * cu z + 2) y) (3 + 5 * cu z + 3) w) (3 + 5 * cu z + 4) (nI (2 ^ cn z - 1))) 1 (nI (cu z + 1))
def zSpell (z : Nat → Int32) (u ch x y : Int32) : Nat → Int32 := upd (upd (upd (upd (upd z (28 + 4 * cs z) u) (28 + 4 * cs z + 1) ch) (28 + 4 * cs z + 2) x) (28 + 4 * cs z + 3) y) 2 (nI (cs z + 1))
def zSet (z : Nat → Int32) (u w : Nat) (v : Int32) : Nat → Int32 := upd z (3 + 5 * u + w) v
def lotN (x : Nat) : Nat := x * 16807 % 2147483647
def drX (x : Nat) : Nat → Nat
  | 0 => x
  | j + 1 => lotN (lotN (lotN (lotN (drX x j))))
def zDrift (z : Nat → Int32) (x : Nat) : Nat → Nat → Int32
  | 0 => z
  | j + 1 => upd (upd (upd (upd (zDrift z x j) (3 + 5 * j + 4) (nI (lotN (drX x j) % 2 ^ cn z))) (3 + 5 * j + 1) (nI (lotN (lotN (drX x j)) % 100))) (3 + 5 * j + 2) (nI (lotN (lotN (lotN (drX x j))) % 100))) (3 + 5 * j + 3) (nI (lotN (lotN (lotN (lotN (drX x j)))) % 50))
theorem zn_upd_ne {z : Nat → Int32} {k i : Nat} {x : Int32} (h : i ≠ k) : zn (upd z k x) i = zn z i := by unfold zn; rw [pk_un h]
theorem zn_upd {z : Nat → Int32} {k n : Nat} (h : n < 2 ^ 31) : zn (upd z k (nI n)) k = n := by unfold zn; rw [pk_us, nI_clamp h]
theorem zClear_n {n : Nat} {z : Nat → Int32} (h : n < 2 ^ 31) : cn (zClear n z) = n := by
  unfold cn zClear
  rw [zn_upd_ne (by decide), zn_upd_ne (by decide), zn_upd h]
theorem zClear_u {n : Nat} {z : Nat → Int32} : cu (zClear n z) = 0 := by
  unfold cu zClear
  rw [zn_upd_ne (by decide), zn_upd (by decide)]
theorem zClear_s {n : Nat} {z : Nat → Int32} : cs (zClear n z) = 0 := by
  unfold cs zClear
  rw [zn_upd (by decide)]
theorem zUser_n {z : Nat → Int32} {r x y w : Int32} : cn (zUser z r x y w) = cn z := by
  unfold zUser
  rw [cn, zn_upd_ne (by decide), zn_upd_ne (by omega), zn_upd_ne (by omega), zn_upd_ne (by omega), zn_upd_ne (by omega), zn_upd_ne (by omega)]
  rfl
theorem zUser_u {z : Nat → Int32} {r x y w : Int32} (h : cu z < 5) : cu (zUser z r x y w) = cu z + 1 := by
  rw [cu, zUser, zn_upd (by omega)]
theorem zUser_s {z : Nat → Int32} {r x y w : Int32} : cs (zUser z r x y w) = cs z := by
  unfold zUser
  rw [cs, zn_upd_ne (by decide), zn_upd_ne (by omega), zn_upd_ne (by omega), zn_upd_ne (by omega), zn_upd_ne (by omega), zn_upd_ne (by omega)]
  rfl
theorem zUser_old {z : Nat → Int32} {r x y w : Int32} {k : Nat} (h : k < 3 + 5 * cu z ∨ 3 + 5 * cu z + 4 < k) (h1 : k ≠ 1) : zUser z r x y w k = z k := by
  unfold zUser
  rw [pk_un h1, pk_un (by omega), pk_un (by omega), pk_un (by omega), pk_un (by omega), pk_un (by omega)]
theorem zUser_new {z : Nat → Int32} {r x y w : Int32} : zUser z r x y w (3 + 5 * cu z) = r ∧ zUser z r x y w (3 + 5 * cu z + 1) = x ∧ zUser z r x y w (3 + 5 * cu z + 2) = y ∧ zUser z r x y w (3 + 5 * cu z + 3) = w ∧ zUser z r x y w (3 + 5 * cu z + 4) = nI (2 ^ cn z - 1) := by
  unfold zUser
  refine ⟨?_, ?_, ?_, ?_, ?_⟩
  · rw [pk_un (by omega), pk_un (by omega), pk_un (by omega), pk_un (by omega), pk_un (by omega), pk_us]
  · rw [pk_un (by omega), pk_un (by omega), pk_un (by omega), pk_un (by omega), pk_us]
  · rw [pk_un (by omega), pk_un (by omega), pk_un (by omega), pk_us]
  · rw [pk_un (by omega), pk_un (by omega), pk_us]
  · rw [pk_un (by omega), pk_us]
theorem zSpell_n {z : Nat → Int32} {u ch x y : Int32} : cn (zSpell z u ch x y) = cn z := by
  unfold zSpell
  rw [cn, zn_upd_ne (by decide), zn_upd_ne (by omega), zn_upd_ne (by omega), zn_upd_ne (by omega), zn_upd_ne (by omega)]
  rfl
theorem zSpell_u {z : Nat → Int32} {u ch x y : Int32} : cu (zSpell z u ch x y) = cu z := by
  unfold zSpell
  rw [cu, zn_upd_ne (by decide), zn_upd_ne (by omega), zn_upd_ne (by omega), zn_upd_ne (by omega), zn_upd_ne (by omega)]
  rfl
theorem zSpell_s {z : Nat → Int32} {u ch x y : Int32} (h : cs z < 8) : cs (zSpell z u ch x y) = cs z + 1 := by
  rw [cs, zSpell, zn_upd (by omega)]
theorem zSpell_old {z : Nat → Int32} {u ch x y : Int32} {k : Nat} (h : k < 28 + 4 * cs z) (h1 : k ≠ 2) : zSpell z u ch x y k = z k := by
  unfold zSpell
  rw [pk_un h1, pk_un (by omega), pk_un (by omega), pk_un (by omega), pk_un (by omega)]
theorem zSpell_new {z : Nat → Int32} {u ch x y : Int32} : zSpell z u ch x y (28 + 4 * cs z) = u ∧ zSpell z u ch x y (28 + 4 * cs z + 1) = ch ∧ zSpell z u ch x y (28 + 4 * cs z + 2) = x ∧ zSpell z u ch x y (28 + 4 * cs z + 3) = y := by
  unfold zSpell
  refine ⟨?_, ?_, ?_, ?_⟩
  · rw [pk_un (by omega), pk_un (by omega), pk_un (by omega), pk_un (by omega), pk_us]
  · rw [pk_un (by omega), pk_un (by omega), pk_un (by omega), pk_us]
  · rw [pk_un (by omega), pk_un (by omega), pk_us]
  · rw [pk_un (by omega), pk_us]
theorem zDrift_lo {z : Nat → Int32} {x i : Nat} (h : i < 3) : ∀ j, zDrift z x j i = z i
  | 0 => rfl
  | j + 1 => by
    rw [zDrift, pk_un (by omega), pk_un (by omega), pk_un (by omega), pk_un (by omega)]
    exact zDrift_lo h j
theorem zDrift_n (z : Nat → Int32) (x j : Nat) : cn (zDrift z x j) = cn z := by unfold cn zn; rw [zDrift_lo (by decide)]
theorem zDrift_u (z : Nat → Int32) (x j : Nat) : cu (zDrift z x j) = cu z := by unfold cu zn; rw [zDrift_lo (by decide)]
theorem zDrift_s (z : Nat → Int32) (x j : Nat) : cs (zDrift z x j) = cs z := by unfold cs zn; rw [zDrift_lo (by decide)]
theorem zDrift_hi {z : Nat → Int32} {x i : Nat} : ∀ j, 3 + 5 * j ≤ i → zDrift z x j i = z i
  | 0, _ => rfl
  | j + 1, h => by
    rw [zDrift, pk_un (by omega), pk_un (by omega), pk_un (by omega), pk_un (by omega)]
    exact zDrift_hi j (by omega)
theorem lotN_lt (x : Nat) : lotN x < 2147483647 := Nat.mod_lt _ (by decide)
theorem drX_lt {x : Nat} (h : x < 2147483647) : ∀ j, drX x j < 2147483647
  | 0 => h
  | j + 1 => lotN_lt _
theorem Sc_mk {G : va_G} {t : gT} {o n k q : Nat} {z : Nat → Int32} {fU fS : Nat → Nat → Int32} {H : Heap} (en : cn z = n) (ek : cu z = k) (es : cs z = q) (h0 : at_ G o (.inr (2, [.int (nI n), .int (nI (prN n)), .int (nI k), .int (nI q), .ref (o + 1), .ref (o + 7)])) H)
    (h1 : at_ G (o + 1) (aR t 5 (rowsF 5 (o + 2))) H) (h2 : ∀ i, i < 5 → at_ G (o + 2 + i) (aI t 5 (fU i)) H) (h3 : at_ G (o + 7) (aR t 8 (rowsF 8 (o + 8))) H) (h4 : ∀ i, i < 8 → at_ G (o + 8 + i) (aI t 4 (fS i)) H)
    (h5 : ∀ i, i < k → ∀ w, w < 5 → fU i w = z (3 + 5 * i + w)) (h6 : ∀ i, i < q → ∀ w, w < 4 → fS i w = z (28 + 4 * i + w)) : Sc G t o z H := by
  subst en ek es
  exact ⟨fU, fS, h0, h1, h2, h3, h4, h5, h6⟩
/-- the shape of a scene, whatever it holds -/
def Sy (G : va_G) (t : gT) (o : Nat) (H : Heap) : Prop := ∃ (a b c d : Int32) (fU fS : Nat → Nat → Int32),
  at_ G o (.inr (2, [.int a, .int b, .int c, .int d, .ref (o + 1), .ref (o + 7)])) H ∧ at_ G (o + 1) (aR t 5 (rowsF 5 (o + 2))) H ∧ (∀ i, i < 5 → at_ G (o + 2 + i) (aI t 5 (fU i)) H) ∧ at_ G (o + 7) (aR t 8 (rowsF 8 (o + 8))) H ∧ (∀ i, i < 8 → at_ G (o + 8 + i) (aI t 4 (fS i)) H)
theorem Sc_Sy {G : va_G} {t : gT} {o : Nat} {z : Nat → Int32} {H : Heap} (h : Sc G t o z H) : Sy G t o H := by
  obtain ⟨fU, fS, h0, h1, h2, h3, h4, -, -⟩ := h
  exact ⟨_, _, _, _, fU, fS, h0, h1, h2, h3, h4⟩
theorem rows_put {G : va_G} {t : gT} {b N M c : Nat} {F : Nat → Nat → Int32} {f : Nat → Int32} {H : Heap} (hr : at_ G (b + c) (aI t M f) H) (h : ∀ i, i < N → i ≠ c → at_ G (b + i) (aI t M (F i)) H) : ∀ i, i < N → at_ G (b + i) (aI t M (va_up F c f i)) H := fun i hi => by
  by_cases e : i = c
  · rw [e, va_up_self]; exact hr
  · rw [va_up_ne _ _ e]; exact h i hi e
theorem Sc_rowU {G : va_G} {t : gT} {o : Nat} {z : Nat → Int32} {H : Heap} (h : Sc G t o z H) {i : Nat} (hi : i < cu z) (h5 : i < 5) : ∃ f, at_ G (o + 2 + i) (aI t 5 f) H ∧ ∀ w, w < 5 → f w = z (3 + 5 * i + w) := by
  obtain ⟨fU, fS, h0, h1, h2, h3, h4, h6, h7⟩ := h
  exact ⟨fU i, h2 i h5, h6 i hi⟩
theorem Sc_rowS {G : va_G} {t : gT} {o : Nat} {z : Nat → Int32} {H : Heap} (h : Sc G t o z H) {i : Nat} (hi : i < cs z) (h8 : i < 8) : ∃ f, at_ G (o + 8 + i) (aI t 4 f) H ∧ ∀ w, w < 4 → f w = z (28 + 4 * i + w) := by
  obtain ⟨fU, fS, h0, h1, h2, h3, h4, h6, h7⟩ := h
  exact ⟨fS i, h4 i h8, h7 i hi⟩
theorem cp_ext {F : Nat → Nat → Int32} {g : Nat → Nat → Int32} {i M : Nat} {fv : Nat → Int32} (h : ∀ j, j < i → ∀ w, w < M → F j w = g j w) (hv : ∀ w, w < M → fv w = g i w) : ∀ j, j < i + 1 → ∀ w, w < M → va_up F i (fun j => if j < M then fv j else F i j) j w = g j w := fun j hj w hw => by
  by_cases e : j = i
  · rw [e, va_up_self]
    show (if w < M then fv w else F i w) = _
    rw [if_pos hw]; exact hv w hw
  · rw [va_up_ne _ _ e]; exact h j (by omega) w hw
theorem us_ext {z : Nat → Int32} {r x y w : Int32} {F : Nat → Nat → Int32} (h : ∀ i, i < cu z → ∀ w, w < 5 → F i w = z (3 + 5 * i + w)) : ∀ i, i < cu z + 1 → ∀ v, v < 5 → va_up F (cu z) (upd (upd (upd (upd (upd (F (cu z)) 0 r) 1 x) 2 y) 3 w) 4 (nI (2 ^ cn z - 1))) i v = zUser z r x y w (3 + 5 * i + v) := fun i hi v hv => by
  by_cases e : i = cu z
  · subst e
    rw [va_up_self]
    obtain ⟨e0, e1, e2, e3, e4⟩ := zUser_new (z := z) (r := r) (x := x) (y := y) (w := w)
    rcases (show v = 0 ∨ v = 1 ∨ v = 2 ∨ v = 3 ∨ v = 4 by omega) with rfl | rfl | rfl | rfl | rfl
    · exact e0.symm
    · exact e1.symm
    · exact e2.symm
    · exact e3.symm
    · exact e4.symm
  · rw [va_up_ne _ _ e, zUser_old (by omega) (by omega)]
    exact h i (by omega) v hv
theorem ss_ext {z : Nat → Int32} {u ch x y : Int32} {F : Nat → Nat → Int32} (h : ∀ i, i < cs z → ∀ w, w < 4 → F i w = z (28 + 4 * i + w)) : ∀ i, i < cs z + 1 → ∀ v, v < 4 → va_up F (cs z) (upd (upd (upd (upd (F (cs z)) 0 u) 1 ch) 2 x) 3 y) i v = zSpell z u ch x y (28 + 4 * i + v) := fun i hi v hv => by
  by_cases e : i = cs z
  · subst e
    rw [va_up_self]
    obtain ⟨e0, e1, e2, e3⟩ := zSpell_new (z := z) (u := u) (ch := ch) (x := x) (y := y)
    rcases (show v = 0 ∨ v = 1 ∨ v = 2 ∨ v = 3 by omega) with rfl | rfl | rfl | rfl
    · exact e0.symm
    · exact e1.symm
    · exact e2.symm
    · exact e3.symm
  · rw [va_up_ne _ _ e, zSpell_old (by omega) (by omega)]
    exact h i (by omega) v hv
theorem dr_ext {z : Nat → Int32} {x j : Nat} {F : Nat → Nat → Int32} (h0 : ∀ i, i < cu z → ∀ w, w < 5 → F i w = zDrift z x j (3 + 5 * i + w)) (hj : j < cu z) : ∀ i, i < cu z → ∀ w, w < 5 → va_up F j (upd (upd (upd (upd (F j) 4 (nI (lotN (drX x j) % 2 ^ cn z))) 1 (nI (lotN (lotN (drX x j)) % 100))) 2 (nI (lotN (lotN (lotN (drX x j))) % 100))) 3 (nI (lotN (lotN (lotN (lotN (drX x j)))) % 50))) i w = zDrift z x (j + 1) (3 + 5 * i + w) := fun i hi w hw => by
  rw [zDrift]
  by_cases e : i = j
  · subst e
    rw [va_up_self]
    rcases (show w = 0 ∨ w = 1 ∨ w = 2 ∨ w = 3 ∨ w = 4 by omega) with rfl | rfl | rfl | rfl | rfl
    · rw [pk_un (by decide), pk_un (by decide), pk_un (by decide), pk_un (by decide), pk_un (by omega), pk_un (by omega), pk_un (by omega), pk_un (by omega)]
      exact h0 i hi 0 (by decide)
    · rw [pk_un (by decide), pk_un (by decide), pk_us, pk_un (by omega), pk_un (by omega), pk_us]
    · rw [pk_un (by decide), pk_us, pk_un (by omega), pk_us]
    · rw [pk_us, pk_us]
    · rw [pk_un (by decide), pk_un (by decide), pk_un (by decide), pk_us, pk_un (by omega), pk_un (by omega), pk_un (by omega), pk_us]
  · rw [va_up_ne _ _ e, pk_un (by omega), pk_un (by omega), pk_un (by omega), pk_un (by omega)]
    exact h0 i hi w hw
theorem lN_n0 {n : Nat} (h : 0 < n) (h2 : n < 2 ^ 63) : ¬ lN n = 0 := fun q => by
  have := (pk_lEQ h2 (show 0 < 2 ^ 63 by decide)).mp (q.trans (show (0 : Int64) = lN 0 from rfl))
  omega
